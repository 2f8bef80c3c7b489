/-! rows of the machine over the memory -/
section SSR
variable {p : Program} {l : Launch} {e : Env} {R : Room} {s : State} {m : MethodId} {args : Array Value} {below : List Frame} {meth : Method} {c : Code} {H : Heap} {locs : List Loc} {cells slots : Nat} {Q : State → Prop}
variable {cc : ByteArray} {pc : Nat} {ls : Array Slot} {rest : List Value} {w : Nat} {D : va_G} {Y : Nat → ClassId} {A : ss_A} {σ : ss_M} {H0 : Heap} {own : String} {Ts : List Cond}
theorem rg (hx : p.tables.exec = Jvm.exec) (hb : c.code = cc) (hts : ∀ q ∈ Ts, q.before args s = true) (hown : s.vm.findClass own = some m.cls) (hW : sW w D Y A σ s H0 H locs) {ci o : Nat} (hk : (0, ci, o) ∈ kS w) {C : String} {T : u_T} {N : Nat} (hin : ∀ q ∈ u_ws C T N, q ∈ Ts) (hc : vwCl[ci]? = some (C, T, N)) (j : Nat) (hj : j < N) {index : Nat} (hlink : Cond.fieldLink own index (T j).1 (T j).2.1 (T j).2.2.1 ∈ Ts) {v : Value} (hv : (cO A σ ci o)[j]? = some v) (hdg : decode cc pc = .ok (.getfield index, 3))
    (kk : W p l e R s m args below meth c H locs cells slots Q (F0 m (pc + 3) ls (v :: rest))) : W p l e R s m args below meth c H locs cells slots Q (F0 m pc ls (.ref (A 0 ci o) :: rest)) := by
  obtain ⟨q0, -, hq⟩ := ws_at (Y := Y) (A := A) σ hk
  rw [cE_o] at hq
  exact va_get hx hb hts hin hown hW.2.1 hW.2.2.1 q0 hq hc j hj (hts _ hlink) (fun _ h => h) hv hdg kk
theorem rp (hx : p.tables.exec = Jvm.exec) (hb : c.code = cc) (hts : ∀ q ∈ Ts, q.before args s = true) (hown : s.vm.findClass own = some m.cls) (hW : sW w D Y A σ s H0 H locs) {ci o : Nat} (hk : (0, ci, o) ∈ kS w) {C : String} {T : u_T} {N : Nat} (hin : ∀ q ∈ u_ws C T N, q ∈ Ts) (ty0 : Nat → FieldType) (hty : ∀ k, k < N → parseFieldDescriptor (T k).2.2.1 = some (ty0 k)) (hnm : ∀ a, a < N → ∀ b, b < N → a ≠ b → (T a).2.1 ≠ (T b).2.1) (hc : vwCl[ci]? = some (C, T, N)) (j : Nat) (hj : j < N) {index : Nat} (hlink : Cond.fieldLink own index (T j).1 (T j).2.1 (T j).2.2.1 ∈ Ts) (hfin : (T j).2.2.2 = false) {ty : FieldType} {v : Value} (hd : parseFieldDescriptor (T j).2.2.1 = some ty) (hn : narrow ty v = v) (hfit : fits ty v = true) {σ' : ss_M} (hl : j < (cO A σ ci o).length) (h1 : cO A σ' ci o = (cO A σ ci o).set j v) (h2 : ∀ i ∈ kS w, i ≠ (0, ci, o) → cE Y A σ' i = cE Y A σ i) (hdg : decode cc pc = .ok (.putfield index, 3))
    (kk : ∀ (H1 : Heap) (locs1 : List Loc), sW w D Y A σ' s H0 H1 locs1 → W p l e R s m args below meth c H1 locs1 cells slots Q (F0 m (pc + 3) ls rest)) : W p l e R s m args below meth c H locs cells slots Q (F0 m pc ls (v :: .ref (A 0 ci o) :: rest)) := by
  obtain ⟨q0, hqk, hq⟩ := ws_at (Y := Y) (A := A) σ hk
  rw [cE_o] at hq
  refine va_put hx hb hts hin ty0 hty hnm hown hW.2.1 hW.2.2.1 (ws_D hW.1 Y σ) hW.2.2.2.1 q0 hq hc j hj (hts _ hlink) (fun _ h => h) hfin hd hn hfit hl hdg (fun H1 locs1 hP hD hS => kk H1 locs1 ⟨hW.1, hW.2.1, ?_, hS, hW.2.2.2.2⟩)
  rw [← ws_put (σ' := σ') (e := .inr (ci, (cO A σ ci o).set j v)) hW.1.1 hqk (by rw [cE_o, h1]) h2]
  exact hP
theorem cg_O {f ci o : Nat} {v : Int32} (hf : ∀ c' o', ¬ (c' = ci ∧ o' = o) → cO A (sGu σ f o v) c' o' = cO A σ c' o') : ∀ j ∈ kS w, j ≠ (0, ci, o) → cE Y A (sGu σ f o v) j = cE Y A σ j := by
  intro j _ hne
  obtain ⟨t, c', o'⟩ := j
  by_cases ht : t = 0
  · subst ht
    rw [cE_o, cE_o, hf c' o' (fun q => hne (by rw [q.1, q.2]))]
  · rw [cE_r _ _ _ ht, cE_r _ _ _ ht]
    rfl
theorem cg_J {f ci : Nat} {v : Int64} (hf : ∀ c' o', ¬ c' = ci → cO A (sLu σ f v) c' o' = cO A σ c' o') (h0 : ∀ o, (0, ci, o) ∈ kS w → o = 0) : ∀ j ∈ kS w, j ≠ (0, ci, 0) → cE Y A (sLu σ f v) j = cE Y A σ j := by
  intro j hj hne
  obtain ⟨t, c', o'⟩ := j
  by_cases ht : t = 0
  · subst ht
    rw [cE_o, cE_o, hf c' o' (fun q => by subst q; exact hne (by rw [h0 _ hj]))]
  · rw [cE_r _ _ _ ht, cE_r _ _ _ ht]
    rfl
theorem o1 {w ci o : Nat} (h : (0, ci, o) ∈ kS w) (hc : ci = 0 ∨ ci = 7) : o = 0 := by
  have h3 := (kS_mem.mp h).2.2
  have h1 : cn w 0 ci ≤ 1 := by
    by_cases hw : w = 0
    · subst hw
      rcases hc with rfl | rfl <;> decide
    · unfold cn
      rw [if_neg hw]
      rcases hc with rfl | rfl <;> decide
  omega
theorem gf_X0_above (hx : p.tables.exec = Jvm.exec) (hb : c.code = cc) (hts : ∀ q ∈ Ts, q.before args s = true) (hown : s.vm.findClass own = some m.cls) (hW : sW w D Y A σ s H0 H locs) (hk : (0, 0, 0) ∈ kS w) (hin : ∀ q ∈ wsX00, q ∈ Ts) {index : Nat} (hlink : Cond.fieldLink own index "SoldStops$Chance" "above" "J" ∈ Ts) (hdg : decode cc pc = .ok (.getfield index, 3)) (kk : W p l e R s m args below meth c H locs cells slots Q (F0 m (pc + 3) ls (.long (sL σ 0) :: rest))) : W p l e R s m args below meth c H locs cells slots Q (F0 m pc ls (.ref (A 0 0 0) :: rest)) := rg hx hb hts hown hW hk hin rfl 0 (by decide) hlink rfl hdg kk
theorem pf_X0_above (hx : p.tables.exec = Jvm.exec) (hb : c.code = cc) (hts : ∀ q ∈ Ts, q.before args s = true) (hown : s.vm.findClass own = some m.cls) (hW : sW w D Y A σ s H0 H locs) (hk : (0, 0, 0) ∈ kS w) (hin : ∀ q ∈ wsX00, q ∈ Ts) {index : Nat} (hlink : Cond.fieldLink own index "SoldStops$Chance" "above" "J" ∈ Ts) {v : Int64} (hdg : decode cc pc = .ok (.putfield index, 3)) (kk : ∀ (H1 : Heap) (locs1 : List Loc), sW w D Y A (sLu σ 0 v) s H0 H1 locs1 → W p l e R s m args below meth c H1 locs1 cells slots Q (F0 m (pc + 3) ls rest)) : W p l e R s m args below meth c H locs cells slots Q (F0 m pc ls (.long v :: .ref (A 0 0 0) :: rest)) :=
  rp (ty := .long) hx hb hts hown hW hk hin tyX0 tyX0_ok nmX0 rfl 0 (by decide) hlink rfl (by decide +kernel) rfl rfl (by simp [cO]) (by simp [cO, sL, sLu, sG]) (cg_J (fun c' o' => match c' with
  | 0 => fun h => absurd rfl h
  | 1 => fun h => rfl
  | 2 => fun h => rfl
  | 3 => fun h => rfl
  | 4 => fun h => rfl
  | 5 => fun h => rfl
  | 6 => fun h => rfl
  | 7 => fun h => rfl
  | (_ + 8) => fun _ => rfl) (fun o h => o1 h (by decide))) hdg kk
theorem gf_X0_below (hx : p.tables.exec = Jvm.exec) (hb : c.code = cc) (hts : ∀ q ∈ Ts, q.before args s = true) (hown : s.vm.findClass own = some m.cls) (hW : sW w D Y A σ s H0 H locs) (hk : (0, 0, 0) ∈ kS w) (hin : ∀ q ∈ wsX00, q ∈ Ts) {index : Nat} (hlink : Cond.fieldLink own index "SoldStops$Chance" "below" "J" ∈ Ts) (hdg : decode cc pc = .ok (.getfield index, 3)) (kk : W p l e R s m args below meth c H locs cells slots Q (F0 m (pc + 3) ls (.long (sL σ 1) :: rest))) : W p l e R s m args below meth c H locs cells slots Q (F0 m pc ls (.ref (A 0 0 0) :: rest)) := rg hx hb hts hown hW hk hin rfl 1 (by decide) hlink rfl hdg kk
theorem pf_X0_below (hx : p.tables.exec = Jvm.exec) (hb : c.code = cc) (hts : ∀ q ∈ Ts, q.before args s = true) (hown : s.vm.findClass own = some m.cls) (hW : sW w D Y A σ s H0 H locs) (hk : (0, 0, 0) ∈ kS w) (hin : ∀ q ∈ wsX00, q ∈ Ts) {index : Nat} (hlink : Cond.fieldLink own index "SoldStops$Chance" "below" "J" ∈ Ts) {v : Int64} (hdg : decode cc pc = .ok (.putfield index, 3)) (kk : ∀ (H1 : Heap) (locs1 : List Loc), sW w D Y A (sLu σ 1 v) s H0 H1 locs1 → W p l e R s m args below meth c H1 locs1 cells slots Q (F0 m (pc + 3) ls rest)) : W p l e R s m args below meth c H locs cells slots Q (F0 m pc ls (.long v :: .ref (A 0 0 0) :: rest)) :=
  rp (ty := .long) hx hb hts hown hW hk hin tyX0 tyX0_ok nmX0 rfl 1 (by decide) hlink rfl (by decide +kernel) rfl rfl (by simp [cO]) (by simp [cO, sL, sLu, sG]) (cg_J (fun c' o' => match c' with
  | 0 => fun h => absurd rfl h
  | 1 => fun h => rfl
  | 2 => fun h => rfl
  | 3 => fun h => rfl
  | 4 => fun h => rfl
  | 5 => fun h => rfl
  | 6 => fun h => rfl
  | 7 => fun h => rfl
  | (_ + 8) => fun _ => rfl) (fun o h => o1 h (by decide))) hdg kk
theorem gf_X0_now (hx : p.tables.exec = Jvm.exec) (hb : c.code = cc) (hts : ∀ q ∈ Ts, q.before args s = true) (hown : s.vm.findClass own = some m.cls) (hW : sW w D Y A σ s H0 H locs) (hk : (0, 0, 0) ∈ kS w) (hin : ∀ q ∈ wsX00, q ∈ Ts) {index : Nat} (hlink : Cond.fieldLink own index "SoldStops$Chance" "now" "[J" ∈ Ts) (hdg : decode cc pc = .ok (.getfield index, 3)) (kk : W p l e R s m args below meth c H locs cells slots Q (F0 m (pc + 3) ls (.ref (A 3 0 0) :: rest))) : W p l e R s m args below meth c H locs cells slots Q (F0 m pc ls (.ref (A 0 0 0) :: rest)) := rg hx hb hts hown hW hk hin rfl 2 (by decide) hlink rfl hdg kk
theorem gf_X0_then (hx : p.tables.exec = Jvm.exec) (hb : c.code = cc) (hts : ∀ q ∈ Ts, q.before args s = true) (hown : s.vm.findClass own = some m.cls) (hW : sW w D Y A σ s H0 H locs) (hk : (0, 0, 0) ∈ kS w) (hin : ∀ q ∈ wsX00, q ∈ Ts) {index : Nat} (hlink : Cond.fieldLink own index "SoldStops$Chance" "then" "[J" ∈ Ts) (hdg : decode cc pc = .ok (.getfield index, 3)) (kk : W p l e R s m args below meth c H locs cells slots Q (F0 m (pc + 3) ls (.ref (A 3 1 0) :: rest))) : W p l e R s m args below meth c H locs cells slots Q (F0 m pc ls (.ref (A 0 0 0) :: rest)) := rg hx hb hts hown hW hk hin rfl 3 (by decide) hlink rfl hdg kk
theorem gf_X2_purse (hx : p.tables.exec = Jvm.exec) (hb : c.code = cc) (hts : ∀ q ∈ Ts, q.before args s = true) (hown : s.vm.findClass own = some m.cls) (hW : sW w D Y A σ s H0 H locs) {o : Nat} (hk : (0, 1, o) ∈ kS w) (hin : ∀ q ∈ wsX20, q ∈ Ts) {index : Nat} (hlink : Cond.fieldLink own index "SoldStops$Marks" "purse" "I" ∈ Ts) (hdg : decode cc pc = .ok (.getfield index, 3)) (kk : W p l e R s m args below meth c H locs cells slots Q (F0 m (pc + 3) ls (.int (sG σ 0 o) :: rest))) : W p l e R s m args below meth c H locs cells slots Q (F0 m pc ls (.ref (A 0 1 o) :: rest)) := rg hx hb hts hown hW hk hin rfl 0 (by decide) hlink rfl hdg kk
theorem cgf_X2_purse {v : Int32} {o : Nat} (_h : o = o) : ∀ j ∈ kS w, j ≠ (0, 1, o) → cE Y A (sGu σ 0 o v) j = cE Y A σ j := cg_O (fun c' o' => match c' with
  | 0 => fun _ => rfl
  | 1 => fun h => by have h2 : ¬ o' = o := fun q => h ⟨rfl, q⟩; simp [cO, sG, sGu, sL, h2]
  | 2 => fun _ => rfl
  | 3 => fun _ => rfl
  | 4 => fun _ => rfl
  | 5 => fun _ => rfl
  | 6 => fun _ => rfl
  | 7 => fun _ => rfl
  | (_ + 8) => fun _ => rfl)
theorem pf_X2_purse (hx : p.tables.exec = Jvm.exec) (hb : c.code = cc) (hts : ∀ q ∈ Ts, q.before args s = true) (hown : s.vm.findClass own = some m.cls) (hW : sW w D Y A σ s H0 H locs) {o : Nat} (hk : (0, 1, o) ∈ kS w) (hin : ∀ q ∈ wsX20, q ∈ Ts) {index : Nat} (hlink : Cond.fieldLink own index "SoldStops$Marks" "purse" "I" ∈ Ts) {v : Int32} (hdg : decode cc pc = .ok (.putfield index, 3)) (kk : ∀ (H1 : Heap) (locs1 : List Loc), sW w D Y A (sGu σ 0 o v) s H0 H1 locs1 → W p l e R s m args below meth c H1 locs1 cells slots Q (F0 m (pc + 3) ls rest)) : W p l e R s m args below meth c H locs cells slots Q (F0 m pc ls (.int v :: .ref (A 0 1 o) :: rest)) :=
  rp (ty := .int) hx hb hts hown hW hk hin tyX2 tyX2_ok nmX2 rfl 0 (by decide) hlink rfl (by decide +kernel) rfl rfl (by simp [cO]) (by simp [cO, sG, sGu, sL]) (cgf_X2_purse rfl) hdg kk
theorem gf_X2_week (hx : p.tables.exec = Jvm.exec) (hb : c.code = cc) (hts : ∀ q ∈ Ts, q.before args s = true) (hown : s.vm.findClass own = some m.cls) (hW : sW w D Y A σ s H0 H locs) {o : Nat} (hk : (0, 1, o) ∈ kS w) (hin : ∀ q ∈ wsX20, q ∈ Ts) {index : Nat} (hlink : Cond.fieldLink own index "SoldStops$Marks" "week" "I" ∈ Ts) (hdg : decode cc pc = .ok (.getfield index, 3)) (kk : W p l e R s m args below meth c H locs cells slots Q (F0 m (pc + 3) ls (.int (sG σ 1 o) :: rest))) : W p l e R s m args below meth c H locs cells slots Q (F0 m pc ls (.ref (A 0 1 o) :: rest)) := rg hx hb hts hown hW hk hin rfl 1 (by decide) hlink rfl hdg kk
theorem cgf_X2_week {v : Int32} {o : Nat} (_h : o = o) : ∀ j ∈ kS w, j ≠ (0, 1, o) → cE Y A (sGu σ 1 o v) j = cE Y A σ j := cg_O (fun c' o' => match c' with
  | 0 => fun _ => rfl
  | 1 => fun h => by have h2 : ¬ o' = o := fun q => h ⟨rfl, q⟩; simp [cO, sG, sGu, sL, h2]
  | 2 => fun _ => rfl
  | 3 => fun _ => rfl
  | 4 => fun _ => rfl
  | 5 => fun _ => rfl
  | 6 => fun _ => rfl
  | 7 => fun _ => rfl
  | (_ + 8) => fun _ => rfl)
theorem pf_X2_week (hx : p.tables.exec = Jvm.exec) (hb : c.code = cc) (hts : ∀ q ∈ Ts, q.before args s = true) (hown : s.vm.findClass own = some m.cls) (hW : sW w D Y A σ s H0 H locs) {o : Nat} (hk : (0, 1, o) ∈ kS w) (hin : ∀ q ∈ wsX20, q ∈ Ts) {index : Nat} (hlink : Cond.fieldLink own index "SoldStops$Marks" "week" "I" ∈ Ts) {v : Int32} (hdg : decode cc pc = .ok (.putfield index, 3)) (kk : ∀ (H1 : Heap) (locs1 : List Loc), sW w D Y A (sGu σ 1 o v) s H0 H1 locs1 → W p l e R s m args below meth c H1 locs1 cells slots Q (F0 m (pc + 3) ls rest)) : W p l e R s m args below meth c H locs cells slots Q (F0 m pc ls (.int v :: .ref (A 0 1 o) :: rest)) :=
  rp (ty := .int) hx hb hts hown hW hk hin tyX2 tyX2_ok nmX2 rfl 1 (by decide) hlink rfl (by decide +kernel) rfl rfl (by simp [cO]) (by simp [cO, sG, sGu, sL]) (cgf_X2_week rfl) hdg kk
theorem gf_X2_kinds (hx : p.tables.exec = Jvm.exec) (hb : c.code = cc) (hts : ∀ q ∈ Ts, q.before args s = true) (hown : s.vm.findClass own = some m.cls) (hW : sW w D Y A σ s H0 H locs) {o : Nat} (hk : (0, 1, o) ∈ kS w) (hin : ∀ q ∈ wsX20, q ∈ Ts) {index : Nat} (hlink : Cond.fieldLink own index "SoldStops$Marks" "kinds" "[I" ∈ Ts) (hdg : decode cc pc = .ok (.getfield index, 3)) (kk : W p l e R s m args below meth c H locs cells slots Q (F0 m (pc + 3) ls (.ref (A 1 0 o) :: rest))) : W p l e R s m args below meth c H locs cells slots Q (F0 m pc ls (.ref (A 0 1 o) :: rest)) := rg hx hb hts hown hW hk hin rfl 2 (by decide) hlink rfl hdg kk
theorem gf_X2_reads (hx : p.tables.exec = Jvm.exec) (hb : c.code = cc) (hts : ∀ q ∈ Ts, q.before args s = true) (hown : s.vm.findClass own = some m.cls) (hW : sW w D Y A σ s H0 H locs) {o : Nat} (hk : (0, 1, o) ∈ kS w) (hin : ∀ q ∈ wsX20, q ∈ Ts) {index : Nat} (hlink : Cond.fieldLink own index "SoldStops$Marks" "reads" "[I" ∈ Ts) (hdg : decode cc pc = .ok (.getfield index, 3)) (kk : W p l e R s m args below meth c H locs cells slots Q (F0 m (pc + 3) ls (.ref (A 1 1 o) :: rest))) : W p l e R s m args below meth c H locs cells slots Q (F0 m pc ls (.ref (A 0 1 o) :: rest)) := rg hx hb hts hown hW hk hin rfl 3 (by decide) hlink rfl hdg kk
theorem gf_X3_most (hx : p.tables.exec = Jvm.exec) (hb : c.code = cc) (hts : ∀ q ∈ Ts, q.before args s = true) (hown : s.vm.findClass own = some m.cls) (hW : sW w D Y A σ s H0 H locs) (hk : (0, 2, 0) ∈ kS w) (hin : ∀ q ∈ wsX30, q ∈ Ts) {index : Nat} (hlink : Cond.fieldLink own index "SoldStops$Order" "most" "I" ∈ Ts) (hdg : decode cc pc = .ok (.getfield index, 3)) (kk : W p l e R s m args below meth c H locs cells slots Q (F0 m (pc + 3) ls (.int (sG σ 2 0) :: rest))) : W p l e R s m args below meth c H locs cells slots Q (F0 m pc ls (.ref (A 0 2 0) :: rest)) := rg hx hb hts hown hW hk hin rfl 0 (by decide) hlink rfl hdg kk
theorem cgf_X3_most {v : Int32} {o : Nat} (h0 : o = 0) : ∀ j ∈ kS w, j ≠ (0, 2, o) → cE Y A (sGu σ 2 o v) j = cE Y A σ j := cg_O (fun c' o' => match c' with
  | 0 => fun _ => rfl
  | 1 => fun _ => rfl
  | 2 => fun h => by have h2 : ¬ o' = o := fun q => h ⟨rfl, q⟩; simp [cO, sG, sGu, sL, h2]
  | 3 => fun _ => rfl
  | 4 => fun _ => rfl
  | 5 => fun _ => rfl
  | 6 => fun _ => rfl
  | 7 => fun _ => rfl
  | (_ + 8) => fun _ => rfl)
theorem pf_X3_most (hx : p.tables.exec = Jvm.exec) (hb : c.code = cc) (hts : ∀ q ∈ Ts, q.before args s = true) (hown : s.vm.findClass own = some m.cls) (hW : sW w D Y A σ s H0 H locs) (hk : (0, 2, 0) ∈ kS w) (hin : ∀ q ∈ wsX30, q ∈ Ts) {index : Nat} (hlink : Cond.fieldLink own index "SoldStops$Order" "most" "I" ∈ Ts) {v : Int32} (hdg : decode cc pc = .ok (.putfield index, 3)) (kk : ∀ (H1 : Heap) (locs1 : List Loc), sW w D Y A (sGu σ 2 0 v) s H0 H1 locs1 → W p l e R s m args below meth c H1 locs1 cells slots Q (F0 m (pc + 3) ls rest)) : W p l e R s m args below meth c H locs cells slots Q (F0 m pc ls (.int v :: .ref (A 0 2 0) :: rest)) :=
  rp (ty := .int) hx hb hts hown hW hk hin tyX3 tyX3_ok nmX3 rfl 0 (by decide) hlink rfl (by decide +kernel) rfl rfl (by simp [cO]) (by simp [cO, sG, sGu, sL]) (cgf_X3_most rfl) hdg kk
theorem gf_X3_best (hx : p.tables.exec = Jvm.exec) (hb : c.code = cc) (hts : ∀ q ∈ Ts, q.before args s = true) (hown : s.vm.findClass own = some m.cls) (hW : sW w D Y A σ s H0 H locs) (hk : (0, 2, 0) ∈ kS w) (hin : ∀ q ∈ wsX30, q ∈ Ts) {index : Nat} (hlink : Cond.fieldLink own index "SoldStops$Order" "best" "[I" ∈ Ts) (hdg : decode cc pc = .ok (.getfield index, 3)) (kk : W p l e R s m args below meth c H locs cells slots Q (F0 m (pc + 3) ls (.ref (A 1 2 0) :: rest))) : W p l e R s m args below meth c H locs cells slots Q (F0 m pc ls (.ref (A 0 2 0) :: rest)) := rg hx hb hts hown hW hk hin rfl 1 (by decide) hlink rfl hdg kk
theorem gf_X3_row (hx : p.tables.exec = Jvm.exec) (hb : c.code = cc) (hts : ∀ q ∈ Ts, q.before args s = true) (hown : s.vm.findClass own = some m.cls) (hW : sW w D Y A σ s H0 H locs) (hk : (0, 2, 0) ∈ kS w) (hin : ∀ q ∈ wsX30, q ∈ Ts) {index : Nat} (hlink : Cond.fieldLink own index "SoldStops$Order" "row" "[I" ∈ Ts) (hdg : decode cc pc = .ok (.getfield index, 3)) (kk : W p l e R s m args below meth c H locs cells slots Q (F0 m (pc + 3) ls (.ref (A 1 3 0) :: rest))) : W p l e R s m args below meth c H locs cells slots Q (F0 m pc ls (.ref (A 0 2 0) :: rest)) := rg hx hb hts hown hW hk hin rfl 2 (by decide) hlink rfl hdg kk
theorem gf_X3_used (hx : p.tables.exec = Jvm.exec) (hb : c.code = cc) (hts : ∀ q ∈ Ts, q.before args s = true) (hown : s.vm.findClass own = some m.cls) (hW : sW w D Y A σ s H0 H locs) (hk : (0, 2, 0) ∈ kS w) (hin : ∀ q ∈ wsX30, q ∈ Ts) {index : Nat} (hlink : Cond.fieldLink own index "SoldStops$Order" "used" "[Z" ∈ Ts) (hdg : decode cc pc = .ok (.getfield index, 3)) (kk : W p l e R s m args below meth c H locs cells slots Q (F0 m (pc + 3) ls (.ref (A 2 0 0) :: rest))) : W p l e R s m args below meth c H locs cells slots Q (F0 m pc ls (.ref (A 0 2 0) :: rest)) := rg hx hb hts hown hW hk hin rfl 3 (by decide) hlink rfl hdg kk
theorem gf_X4_breath (hx : p.tables.exec = Jvm.exec) (hb : c.code = cc) (hts : ∀ q ∈ Ts, q.before args s = true) (hown : s.vm.findClass own = some m.cls) (hW : sW w D Y A σ s H0 H locs) {o : Nat} (hk : (0, 3, o) ∈ kS w) (hin : ∀ q ∈ wsX40, q ∈ Ts) {index : Nat} (hlink : Cond.fieldLink own index "SoldStops$Page" "breath" "I" ∈ Ts) (hdg : decode cc pc = .ok (.getfield index, 3)) (kk : W p l e R s m args below meth c H locs cells slots Q (F0 m (pc + 3) ls (.int (sG σ 3 o) :: rest))) : W p l e R s m args below meth c H locs cells slots Q (F0 m pc ls (.ref (A 0 3 o) :: rest)) := rg hx hb hts hown hW hk hin rfl 0 (by decide) hlink rfl hdg kk
theorem cgf_X4_breath {v : Int32} {o : Nat} (_h : o = o) : ∀ j ∈ kS w, j ≠ (0, 3, o) → cE Y A (sGu σ 3 o v) j = cE Y A σ j := cg_O (fun c' o' => match c' with
  | 0 => fun _ => rfl
  | 1 => fun _ => rfl
  | 2 => fun _ => rfl
  | 3 => fun h => by have h2 : ¬ o' = o := fun q => h ⟨rfl, q⟩; simp [cO, sG, sGu, sL, h2]
  | 4 => fun _ => rfl
  | 5 => fun _ => rfl
  | 6 => fun _ => rfl
  | 7 => fun _ => rfl
  | (_ + 8) => fun _ => rfl)
theorem pf_X4_breath (hx : p.tables.exec = Jvm.exec) (hb : c.code = cc) (hts : ∀ q ∈ Ts, q.before args s = true) (hown : s.vm.findClass own = some m.cls) (hW : sW w D Y A σ s H0 H locs) {o : Nat} (hk : (0, 3, o) ∈ kS w) (hin : ∀ q ∈ wsX40, q ∈ Ts) {index : Nat} (hlink : Cond.fieldLink own index "SoldStops$Page" "breath" "I" ∈ Ts) {v : Int32} (hdg : decode cc pc = .ok (.putfield index, 3)) (kk : ∀ (H1 : Heap) (locs1 : List Loc), sW w D Y A (sGu σ 3 o v) s H0 H1 locs1 → W p l e R s m args below meth c H1 locs1 cells slots Q (F0 m (pc + 3) ls rest)) : W p l e R s m args below meth c H locs cells slots Q (F0 m pc ls (.int v :: .ref (A 0 3 o) :: rest)) :=
  rp (ty := .int) hx hb hts hown hW hk hin tyX4 tyX4_ok nmX4 rfl 0 (by decide) hlink rfl (by decide +kernel) rfl rfl (by simp [cO]) (by simp [cO, sG, sGu, sL]) (cgf_X4_breath rfl) hdg kk
theorem gf_X4_price (hx : p.tables.exec = Jvm.exec) (hb : c.code = cc) (hts : ∀ q ∈ Ts, q.before args s = true) (hown : s.vm.findClass own = some m.cls) (hW : sW w D Y A σ s H0 H locs) {o : Nat} (hk : (0, 3, o) ∈ kS w) (hin : ∀ q ∈ wsX40, q ∈ Ts) {index : Nat} (hlink : Cond.fieldLink own index "SoldStops$Page" "price" "I" ∈ Ts) (hdg : decode cc pc = .ok (.getfield index, 3)) (kk : W p l e R s m args below meth c H locs cells slots Q (F0 m (pc + 3) ls (.int (sG σ 4 o) :: rest))) : W p l e R s m args below meth c H locs cells slots Q (F0 m pc ls (.ref (A 0 3 o) :: rest)) := rg hx hb hts hown hW hk hin rfl 1 (by decide) hlink rfl hdg kk
theorem cgf_X4_price {v : Int32} {o : Nat} (_h : o = o) : ∀ j ∈ kS w, j ≠ (0, 3, o) → cE Y A (sGu σ 4 o v) j = cE Y A σ j := cg_O (fun c' o' => match c' with
  | 0 => fun _ => rfl
  | 1 => fun _ => rfl
  | 2 => fun _ => rfl
  | 3 => fun h => by have h2 : ¬ o' = o := fun q => h ⟨rfl, q⟩; simp [cO, sG, sGu, sL, h2]
  | 4 => fun _ => rfl
  | 5 => fun _ => rfl
  | 6 => fun _ => rfl
  | 7 => fun _ => rfl
  | (_ + 8) => fun _ => rfl)
theorem pf_X4_price (hx : p.tables.exec = Jvm.exec) (hb : c.code = cc) (hts : ∀ q ∈ Ts, q.before args s = true) (hown : s.vm.findClass own = some m.cls) (hW : sW w D Y A σ s H0 H locs) {o : Nat} (hk : (0, 3, o) ∈ kS w) (hin : ∀ q ∈ wsX40, q ∈ Ts) {index : Nat} (hlink : Cond.fieldLink own index "SoldStops$Page" "price" "I" ∈ Ts) {v : Int32} (hdg : decode cc pc = .ok (.putfield index, 3)) (kk : ∀ (H1 : Heap) (locs1 : List Loc), sW w D Y A (sGu σ 4 o v) s H0 H1 locs1 → W p l e R s m args below meth c H1 locs1 cells slots Q (F0 m (pc + 3) ls rest)) : W p l e R s m args below meth c H locs cells slots Q (F0 m pc ls (.int v :: .ref (A 0 3 o) :: rest)) :=
  rp (ty := .int) hx hb hts hown hW hk hin tyX4 tyX4_ok nmX4 rfl 1 (by decide) hlink rfl (by decide +kernel) rfl rfl (by simp [cO]) (by simp [cO, sG, sGu, sL]) (cgf_X4_price rfl) hdg kk
theorem gf_X4_words (hx : p.tables.exec = Jvm.exec) (hb : c.code = cc) (hts : ∀ q ∈ Ts, q.before args s = true) (hown : s.vm.findClass own = some m.cls) (hW : sW w D Y A σ s H0 H locs) {o : Nat} (hk : (0, 3, o) ∈ kS w) (hin : ∀ q ∈ wsX40, q ∈ Ts) {index : Nat} (hlink : Cond.fieldLink own index "SoldStops$Page" "words" "I" ∈ Ts) (hdg : decode cc pc = .ok (.getfield index, 3)) (kk : W p l e R s m args below meth c H locs cells slots Q (F0 m (pc + 3) ls (.int (sG σ 5 o) :: rest))) : W p l e R s m args below meth c H locs cells slots Q (F0 m pc ls (.ref (A 0 3 o) :: rest)) := rg hx hb hts hown hW hk hin rfl 2 (by decide) hlink rfl hdg kk
theorem cgf_X4_words {v : Int32} {o : Nat} (_h : o = o) : ∀ j ∈ kS w, j ≠ (0, 3, o) → cE Y A (sGu σ 5 o v) j = cE Y A σ j := cg_O (fun c' o' => match c' with
  | 0 => fun _ => rfl
  | 1 => fun _ => rfl
  | 2 => fun _ => rfl
  | 3 => fun h => by have h2 : ¬ o' = o := fun q => h ⟨rfl, q⟩; simp [cO, sG, sGu, sL, h2]
  | 4 => fun _ => rfl
  | 5 => fun _ => rfl
  | 6 => fun _ => rfl
  | 7 => fun _ => rfl
  | (_ + 8) => fun _ => rfl)
theorem pf_X4_words (hx : p.tables.exec = Jvm.exec) (hb : c.code = cc) (hts : ∀ q ∈ Ts, q.before args s = true) (hown : s.vm.findClass own = some m.cls) (hW : sW w D Y A σ s H0 H locs) {o : Nat} (hk : (0, 3, o) ∈ kS w) (hin : ∀ q ∈ wsX40, q ∈ Ts) {index : Nat} (hlink : Cond.fieldLink own index "SoldStops$Page" "words" "I" ∈ Ts) {v : Int32} (hdg : decode cc pc = .ok (.putfield index, 3)) (kk : ∀ (H1 : Heap) (locs1 : List Loc), sW w D Y A (sGu σ 5 o v) s H0 H1 locs1 → W p l e R s m args below meth c H1 locs1 cells slots Q (F0 m (pc + 3) ls rest)) : W p l e R s m args below meth c H locs cells slots Q (F0 m pc ls (.int v :: .ref (A 0 3 o) :: rest)) :=
  rp (ty := .int) hx hb hts hown hW hk hin tyX4 tyX4_ok nmX4 rfl 2 (by decide) hlink rfl (by decide +kernel) rfl rfl (by simp [cO]) (by simp [cO, sG, sGu, sL]) (cgf_X4_words rfl) hdg kk
theorem gf_X4_heards (hx : p.tables.exec = Jvm.exec) (hb : c.code = cc) (hts : ∀ q ∈ Ts, q.before args s = true) (hown : s.vm.findClass own = some m.cls) (hW : sW w D Y A σ s H0 H locs) {o : Nat} (hk : (0, 3, o) ∈ kS w) (hin : ∀ q ∈ wsX40, q ∈ Ts) {index : Nat} (hlink : Cond.fieldLink own index "SoldStops$Page" "heards" "I" ∈ Ts) (hdg : decode cc pc = .ok (.getfield index, 3)) (kk : W p l e R s m args below meth c H locs cells slots Q (F0 m (pc + 3) ls (.int (sG σ 6 o) :: rest))) : W p l e R s m args below meth c H locs cells slots Q (F0 m pc ls (.ref (A 0 3 o) :: rest)) := rg hx hb hts hown hW hk hin rfl 3 (by decide) hlink rfl hdg kk
theorem cgf_X4_heards {v : Int32} {o : Nat} (_h : o = o) : ∀ j ∈ kS w, j ≠ (0, 3, o) → cE Y A (sGu σ 6 o v) j = cE Y A σ j := cg_O (fun c' o' => match c' with
  | 0 => fun _ => rfl
  | 1 => fun _ => rfl
  | 2 => fun _ => rfl
  | 3 => fun h => by have h2 : ¬ o' = o := fun q => h ⟨rfl, q⟩; simp [cO, sG, sGu, sL, h2]
  | 4 => fun _ => rfl
  | 5 => fun _ => rfl
  | 6 => fun _ => rfl
  | 7 => fun _ => rfl
  | (_ + 8) => fun _ => rfl)
theorem pf_X4_heards (hx : p.tables.exec = Jvm.exec) (hb : c.code = cc) (hts : ∀ q ∈ Ts, q.before args s = true) (hown : s.vm.findClass own = some m.cls) (hW : sW w D Y A σ s H0 H locs) {o : Nat} (hk : (0, 3, o) ∈ kS w) (hin : ∀ q ∈ wsX40, q ∈ Ts) {index : Nat} (hlink : Cond.fieldLink own index "SoldStops$Page" "heards" "I" ∈ Ts) {v : Int32} (hdg : decode cc pc = .ok (.putfield index, 3)) (kk : ∀ (H1 : Heap) (locs1 : List Loc), sW w D Y A (sGu σ 6 o v) s H0 H1 locs1 → W p l e R s m args below meth c H1 locs1 cells slots Q (F0 m (pc + 3) ls rest)) : W p l e R s m args below meth c H locs cells slots Q (F0 m pc ls (.int v :: .ref (A 0 3 o) :: rest)) :=
  rp (ty := .int) hx hb hts hown hW hk hin tyX4 tyX4_ok nmX4 rfl 3 (by decide) hlink rfl (by decide +kernel) rfl rfl (by simp [cO]) (by simp [cO, sG, sGu, sL]) (cgf_X4_heards rfl) hdg kk
theorem gf_X4_pasts (hx : p.tables.exec = Jvm.exec) (hb : c.code = cc) (hts : ∀ q ∈ Ts, q.before args s = true) (hown : s.vm.findClass own = some m.cls) (hW : sW w D Y A σ s H0 H locs) {o : Nat} (hk : (0, 3, o) ∈ kS w) (hin : ∀ q ∈ wsX40, q ∈ Ts) {index : Nat} (hlink : Cond.fieldLink own index "SoldStops$Page" "pasts" "I" ∈ Ts) (hdg : decode cc pc = .ok (.getfield index, 3)) (kk : W p l e R s m args below meth c H locs cells slots Q (F0 m (pc + 3) ls (.int (sG σ 7 o) :: rest))) : W p l e R s m args below meth c H locs cells slots Q (F0 m pc ls (.ref (A 0 3 o) :: rest)) := rg hx hb hts hown hW hk hin rfl 4 (by decide) hlink rfl hdg kk
theorem cgf_X4_pasts {v : Int32} {o : Nat} (_h : o = o) : ∀ j ∈ kS w, j ≠ (0, 3, o) → cE Y A (sGu σ 7 o v) j = cE Y A σ j := cg_O (fun c' o' => match c' with
  | 0 => fun _ => rfl
  | 1 => fun _ => rfl
  | 2 => fun _ => rfl
  | 3 => fun h => by have h2 : ¬ o' = o := fun q => h ⟨rfl, q⟩; simp [cO, sG, sGu, sL, h2]
  | 4 => fun _ => rfl
  | 5 => fun _ => rfl
  | 6 => fun _ => rfl
  | 7 => fun _ => rfl
  | (_ + 8) => fun _ => rfl)
theorem pf_X4_pasts (hx : p.tables.exec = Jvm.exec) (hb : c.code = cc) (hts : ∀ q ∈ Ts, q.before args s = true) (hown : s.vm.findClass own = some m.cls) (hW : sW w D Y A σ s H0 H locs) {o : Nat} (hk : (0, 3, o) ∈ kS w) (hin : ∀ q ∈ wsX40, q ∈ Ts) {index : Nat} (hlink : Cond.fieldLink own index "SoldStops$Page" "pasts" "I" ∈ Ts) {v : Int32} (hdg : decode cc pc = .ok (.putfield index, 3)) (kk : ∀ (H1 : Heap) (locs1 : List Loc), sW w D Y A (sGu σ 7 o v) s H0 H1 locs1 → W p l e R s m args below meth c H1 locs1 cells slots Q (F0 m (pc + 3) ls rest)) : W p l e R s m args below meth c H locs cells slots Q (F0 m pc ls (.int v :: .ref (A 0 3 o) :: rest)) :=
  rp (ty := .int) hx hb hts hown hW hk hin tyX4 tyX4_ok nmX4 rfl 4 (by decide) hlink rfl (by decide +kernel) rfl rfl (by simp [cO]) (by simp [cO, sG, sGu, sL]) (cgf_X4_pasts rfl) hdg kk
theorem gf_X4_lengths (hx : p.tables.exec = Jvm.exec) (hb : c.code = cc) (hts : ∀ q ∈ Ts, q.before args s = true) (hown : s.vm.findClass own = some m.cls) (hW : sW w D Y A σ s H0 H locs) {o : Nat} (hk : (0, 3, o) ∈ kS w) (hin : ∀ q ∈ wsX40, q ∈ Ts) {index : Nat} (hlink : Cond.fieldLink own index "SoldStops$Page" "lengths" "[I" ∈ Ts) (hdg : decode cc pc = .ok (.getfield index, 3)) (kk : W p l e R s m args below meth c H locs cells slots Q (F0 m (pc + 3) ls (.ref (A 1 4 o) :: rest))) : W p l e R s m args below meth c H locs cells slots Q (F0 m pc ls (.ref (A 0 3 o) :: rest)) := rg hx hb hts hown hW hk hin rfl 5 (by decide) hlink rfl hdg kk
theorem gf_X4_marks (hx : p.tables.exec = Jvm.exec) (hb : c.code = cc) (hts : ∀ q ∈ Ts, q.before args s = true) (hown : s.vm.findClass own = some m.cls) (hW : sW w D Y A σ s H0 H locs) {o : Nat} (hk : (0, 3, o) ∈ kS w) (hin : ∀ q ∈ wsX40, q ∈ Ts) {index : Nat} (hlink : Cond.fieldLink own index "SoldStops$Page" "marks" "LSoldStops$Marks;" ∈ Ts) (hdg : decode cc pc = .ok (.getfield index, 3)) (kk : W p l e R s m args below meth c H locs cells slots Q (F0 m (pc + 3) ls (.ref (A 0 1 o) :: rest))) : W p l e R s m args below meth c H locs cells slots Q (F0 m pc ls (.ref (A 0 3 o) :: rest)) := rg hx hb hts hown hW hk hin rfl 6 (by decide) hlink rfl hdg kk
theorem gf_X4_heard (hx : p.tables.exec = Jvm.exec) (hb : c.code = cc) (hts : ∀ q ∈ Ts, q.before args s = true) (hown : s.vm.findClass own = some m.cls) (hW : sW w D Y A σ s H0 H locs) {o : Nat} (hk : (0, 3, o) ∈ kS w) (hin : ∀ q ∈ wsX40, q ∈ Ts) {index : Nat} (hlink : Cond.fieldLink own index "SoldStops$Page" "heard" "[I" ∈ Ts) (hdg : decode cc pc = .ok (.getfield index, 3)) (kk : W p l e R s m args below meth c H locs cells slots Q (F0 m (pc + 3) ls (.ref (A 1 5 o) :: rest))) : W p l e R s m args below meth c H locs cells slots Q (F0 m pc ls (.ref (A 0 3 o) :: rest)) := rg hx hb hts hown hW hk hin rfl 7 (by decide) hlink rfl hdg kk
theorem gf_X4_past (hx : p.tables.exec = Jvm.exec) (hb : c.code = cc) (hts : ∀ q ∈ Ts, q.before args s = true) (hown : s.vm.findClass own = some m.cls) (hW : sW w D Y A σ s H0 H locs) {o : Nat} (hk : (0, 3, o) ∈ kS w) (hin : ∀ q ∈ wsX40, q ∈ Ts) {index : Nat} (hlink : Cond.fieldLink own index "SoldStops$Page" "past" "[LSoldStops$Marks;" ∈ Ts) (hdg : decode cc pc = .ok (.getfield index, 3)) (kk : W p l e R s m args below meth c H locs cells slots Q (F0 m (pc + 3) ls (.ref (A 4 0 o) :: rest))) : W p l e R s m args below meth c H locs cells slots Q (F0 m pc ls (.ref (A 0 3 o) :: rest)) := rg hx hb hts hown hW hk hin rfl 8 (by decide) hlink rfl hdg kk
theorem gf_X5_costs (hx : p.tables.exec = Jvm.exec) (hb : c.code = cc) (hts : ∀ q ∈ Ts, q.before args s = true) (hown : s.vm.findClass own = some m.cls) (hW : sW w D Y A σ s H0 H locs) (hk : (0, 4, 0) ∈ kS w) (hin : ∀ q ∈ wsX50, q ∈ Ts) {index : Nat} (hlink : Cond.fieldLink own index "SoldStops$Plan" "costs" "[[I" ∈ Ts) (hdg : decode cc pc = .ok (.getfield index, 3)) (kk : W p l e R s m args below meth c H locs cells slots Q (F0 m (pc + 3) ls (.ref (A 4 2 0) :: rest))) : W p l e R s m args below meth c H locs cells slots Q (F0 m pc ls (.ref (A 0 4 0) :: rest)) := rg hx hb hts hown hW hk hin rfl 0 (by decide) hlink rfl hdg kk
theorem gf_X5_fewest (hx : p.tables.exec = Jvm.exec) (hb : c.code = cc) (hts : ∀ q ∈ Ts, q.before args s = true) (hown : s.vm.findClass own = some m.cls) (hW : sW w D Y A σ s H0 H locs) (hk : (0, 4, 0) ∈ kS w) (hin : ∀ q ∈ wsX50, q ∈ Ts) {index : Nat} (hlink : Cond.fieldLink own index "SoldStops$Plan" "fewest" "[[I" ∈ Ts) (hdg : decode cc pc = .ok (.getfield index, 3)) (kk : W p l e R s m args below meth c H locs cells slots Q (F0 m (pc + 3) ls (.ref (A 4 3 0) :: rest))) : W p l e R s m args below meth c H locs cells slots Q (F0 m pc ls (.ref (A 0 4 0) :: rest)) := rg hx hb hts hown hW hk hin rfl 1 (by decide) hlink rfl hdg kk
theorem gf_X5_choices (hx : p.tables.exec = Jvm.exec) (hb : c.code = cc) (hts : ∀ q ∈ Ts, q.before args s = true) (hown : s.vm.findClass own = some m.cls) (hW : sW w D Y A σ s H0 H locs) (hk : (0, 4, 0) ∈ kS w) (hin : ∀ q ∈ wsX50, q ∈ Ts) {index : Nat} (hlink : Cond.fieldLink own index "SoldStops$Plan" "choices" "[[I" ∈ Ts) (hdg : decode cc pc = .ok (.getfield index, 3)) (kk : W p l e R s m args below meth c H locs cells slots Q (F0 m (pc + 3) ls (.ref (A 4 4 0) :: rest))) : W p l e R s m args below meth c H locs cells slots Q (F0 m pc ls (.ref (A 0 4 0) :: rest)) := rg hx hb hts hown hW hk hin rfl 2 (by decide) hlink rfl hdg kk
theorem gf_X5_now (hx : p.tables.exec = Jvm.exec) (hb : c.code = cc) (hts : ∀ q ∈ Ts, q.before args s = true) (hown : s.vm.findClass own = some m.cls) (hW : sW w D Y A σ s H0 H locs) (hk : (0, 4, 0) ∈ kS w) (hin : ∀ q ∈ wsX50, q ∈ Ts) {index : Nat} (hlink : Cond.fieldLink own index "SoldStops$Plan" "now" "[I" ∈ Ts) (hdg : decode cc pc = .ok (.getfield index, 3)) (kk : W p l e R s m args below meth c H locs cells slots Q (F0 m (pc + 3) ls (.ref (A 1 9 0) :: rest))) : W p l e R s m args below meth c H locs cells slots Q (F0 m pc ls (.ref (A 0 4 0) :: rest)) := rg hx hb hts hown hW hk hin rfl 3 (by decide) hlink rfl hdg kk
theorem gf_X5_then (hx : p.tables.exec = Jvm.exec) (hb : c.code = cc) (hts : ∀ q ∈ Ts, q.before args s = true) (hown : s.vm.findClass own = some m.cls) (hW : sW w D Y A σ s H0 H locs) (hk : (0, 4, 0) ∈ kS w) (hin : ∀ q ∈ wsX50, q ∈ Ts) {index : Nat} (hlink : Cond.fieldLink own index "SoldStops$Plan" "then" "[I" ∈ Ts) (hdg : decode cc pc = .ok (.getfield index, 3)) (kk : W p l e R s m args below meth c H locs cells slots Q (F0 m (pc + 3) ls (.ref (A 1 10 0) :: rest))) : W p l e R s m args below meth c H locs cells slots Q (F0 m pc ls (.ref (A 0 4 0) :: rest)) := rg hx hb hts hown hW hk hin rfl 4 (by decide) hlink rfl hdg kk
theorem gf_X6_size (hx : p.tables.exec = Jvm.exec) (hb : c.code = cc) (hts : ∀ q ∈ Ts, q.before args s = true) (hown : s.vm.findClass own = some m.cls) (hW : sW w D Y A σ s H0 H locs) (hk : (0, 5, 0) ∈ kS w) (hin : ∀ q ∈ wsX60, q ∈ Ts) {index : Nat} (hlink : Cond.fieldLink own index "SoldStops$Text" "size" "I" ∈ Ts) (hdg : decode cc pc = .ok (.getfield index, 3)) (kk : W p l e R s m args below meth c H locs cells slots Q (F0 m (pc + 3) ls (.int (sG σ 8 0) :: rest))) : W p l e R s m args below meth c H locs cells slots Q (F0 m pc ls (.ref (A 0 5 0) :: rest)) := rg hx hb hts hown hW hk hin rfl 0 (by decide) hlink rfl hdg kk
theorem cgf_X6_size {v : Int32} {o : Nat} (h0 : o = 0) : ∀ j ∈ kS w, j ≠ (0, 5, o) → cE Y A (sGu σ 8 o v) j = cE Y A σ j := cg_O (fun c' o' => match c' with
  | 0 => fun _ => rfl
  | 1 => fun _ => rfl
  | 2 => fun _ => rfl
  | 3 => fun _ => rfl
  | 4 => fun _ => rfl
  | 5 => fun h => by have h2 : ¬ o' = o := fun q => h ⟨rfl, q⟩; simp [cO, sG, sGu, sL, h2]
  | 6 => fun _ => rfl
  | 7 => fun _ => rfl
  | (_ + 8) => fun _ => rfl)
theorem pf_X6_size (hx : p.tables.exec = Jvm.exec) (hb : c.code = cc) (hts : ∀ q ∈ Ts, q.before args s = true) (hown : s.vm.findClass own = some m.cls) (hW : sW w D Y A σ s H0 H locs) (hk : (0, 5, 0) ∈ kS w) (hin : ∀ q ∈ wsX60, q ∈ Ts) {index : Nat} (hlink : Cond.fieldLink own index "SoldStops$Text" "size" "I" ∈ Ts) {v : Int32} (hdg : decode cc pc = .ok (.putfield index, 3)) (kk : ∀ (H1 : Heap) (locs1 : List Loc), sW w D Y A (sGu σ 8 0 v) s H0 H1 locs1 → W p l e R s m args below meth c H1 locs1 cells slots Q (F0 m (pc + 3) ls rest)) : W p l e R s m args below meth c H locs cells slots Q (F0 m pc ls (.int v :: .ref (A 0 5 0) :: rest)) :=
  rp (ty := .int) hx hb hts hown hW hk hin tyX6 tyX6_ok nmX6 rfl 0 (by decide) hlink rfl (by decide +kernel) rfl rfl (by simp [cO]) (by simp [cO, sG, sGu, sL]) (cgf_X6_size rfl) hdg kk
theorem gf_X6_items (hx : p.tables.exec = Jvm.exec) (hb : c.code = cc) (hts : ∀ q ∈ Ts, q.before args s = true) (hown : s.vm.findClass own = some m.cls) (hW : sW w D Y A σ s H0 H locs) (hk : (0, 5, 0) ∈ kS w) (hin : ∀ q ∈ wsX60, q ∈ Ts) {index : Nat} (hlink : Cond.fieldLink own index "SoldStops$Text" "items" "I" ∈ Ts) (hdg : decode cc pc = .ok (.getfield index, 3)) (kk : W p l e R s m args below meth c H locs cells slots Q (F0 m (pc + 3) ls (.int (sG σ 9 0) :: rest))) : W p l e R s m args below meth c H locs cells slots Q (F0 m pc ls (.ref (A 0 5 0) :: rest)) := rg hx hb hts hown hW hk hin rfl 1 (by decide) hlink rfl hdg kk
theorem cgf_X6_items {v : Int32} {o : Nat} (h0 : o = 0) : ∀ j ∈ kS w, j ≠ (0, 5, o) → cE Y A (sGu σ 9 o v) j = cE Y A σ j := cg_O (fun c' o' => match c' with
  | 0 => fun _ => rfl
  | 1 => fun _ => rfl
  | 2 => fun _ => rfl
  | 3 => fun _ => rfl
  | 4 => fun _ => rfl
  | 5 => fun h => by have h2 : ¬ o' = o := fun q => h ⟨rfl, q⟩; simp [cO, sG, sGu, sL, h2]
  | 6 => fun _ => rfl
  | 7 => fun _ => rfl
  | (_ + 8) => fun _ => rfl)
theorem pf_X6_items (hx : p.tables.exec = Jvm.exec) (hb : c.code = cc) (hts : ∀ q ∈ Ts, q.before args s = true) (hown : s.vm.findClass own = some m.cls) (hW : sW w D Y A σ s H0 H locs) (hk : (0, 5, 0) ∈ kS w) (hin : ∀ q ∈ wsX60, q ∈ Ts) {index : Nat} (hlink : Cond.fieldLink own index "SoldStops$Text" "items" "I" ∈ Ts) {v : Int32} (hdg : decode cc pc = .ok (.putfield index, 3)) (kk : ∀ (H1 : Heap) (locs1 : List Loc), sW w D Y A (sGu σ 9 0 v) s H0 H1 locs1 → W p l e R s m args below meth c H1 locs1 cells slots Q (F0 m (pc + 3) ls rest)) : W p l e R s m args below meth c H locs cells slots Q (F0 m pc ls (.int v :: .ref (A 0 5 0) :: rest)) :=
  rp (ty := .int) hx hb hts hown hW hk hin tyX6 tyX6_ok nmX6 rfl 1 (by decide) hlink rfl (by decide +kernel) rfl rfl (by simp [cO]) (by simp [cO, sG, sGu, sL]) (cgf_X6_items rfl) hdg kk
theorem gf_X6_bytes (hx : p.tables.exec = Jvm.exec) (hb : c.code = cc) (hts : ∀ q ∈ Ts, q.before args s = true) (hown : s.vm.findClass own = some m.cls) (hW : sW w D Y A σ s H0 H locs) (hk : (0, 5, 0) ∈ kS w) (hin : ∀ q ∈ wsX60, q ∈ Ts) {index : Nat} (hlink : Cond.fieldLink own index "SoldStops$Text" "bytes" "[I" ∈ Ts) (hdg : decode cc pc = .ok (.getfield index, 3)) (kk : W p l e R s m args below meth c H locs cells slots Q (F0 m (pc + 3) ls (.ref (A 1 11 0) :: rest))) : W p l e R s m args below meth c H locs cells slots Q (F0 m pc ls (.ref (A 0 5 0) :: rest)) := rg hx hb hts hown hW hk hin rfl 2 (by decide) hlink rfl hdg kk
theorem gf_X6_whats (hx : p.tables.exec = Jvm.exec) (hb : c.code = cc) (hts : ∀ q ∈ Ts, q.before args s = true) (hown : s.vm.findClass own = some m.cls) (hW : sW w D Y A σ s H0 H locs) (hk : (0, 5, 0) ∈ kS w) (hin : ∀ q ∈ wsX60, q ∈ Ts) {index : Nat} (hlink : Cond.fieldLink own index "SoldStops$Text" "whats" "[I" ∈ Ts) (hdg : decode cc pc = .ok (.getfield index, 3)) (kk : W p l e R s m args below meth c H locs cells slots Q (F0 m (pc + 3) ls (.ref (A 1 12 0) :: rest))) : W p l e R s m args below meth c H locs cells slots Q (F0 m pc ls (.ref (A 0 5 0) :: rest)) := rg hx hb hts hown hW hk hin rfl 3 (by decide) hlink rfl hdg kk
theorem gf_X6_firsts (hx : p.tables.exec = Jvm.exec) (hb : c.code = cc) (hts : ∀ q ∈ Ts, q.before args s = true) (hown : s.vm.findClass own = some m.cls) (hW : sW w D Y A σ s H0 H locs) (hk : (0, 5, 0) ∈ kS w) (hin : ∀ q ∈ wsX60, q ∈ Ts) {index : Nat} (hlink : Cond.fieldLink own index "SoldStops$Text" "firsts" "[I" ∈ Ts) (hdg : decode cc pc = .ok (.getfield index, 3)) (kk : W p l e R s m args below meth c H locs cells slots Q (F0 m (pc + 3) ls (.ref (A 1 13 0) :: rest))) : W p l e R s m args below meth c H locs cells slots Q (F0 m pc ls (.ref (A 0 5 0) :: rest)) := rg hx hb hts hown hW hk hin rfl 4 (by decide) hlink rfl hdg kk
theorem gf_X6_seconds (hx : p.tables.exec = Jvm.exec) (hb : c.code = cc) (hts : ∀ q ∈ Ts, q.before args s = true) (hown : s.vm.findClass own = some m.cls) (hW : sW w D Y A σ s H0 H locs) (hk : (0, 5, 0) ∈ kS w) (hin : ∀ q ∈ wsX60, q ∈ Ts) {index : Nat} (hlink : Cond.fieldLink own index "SoldStops$Text" "seconds" "[I" ∈ Ts) (hdg : decode cc pc = .ok (.getfield index, 3)) (kk : W p l e R s m args below meth c H locs cells slots Q (F0 m (pc + 3) ls (.ref (A 1 14 0) :: rest))) : W p l e R s m args below meth c H locs cells slots Q (F0 m pc ls (.ref (A 0 5 0) :: rest)) := rg hx hb hts hown hW hk hin rfl 5 (by decide) hlink rfl hdg kk
theorem gf_X6_token (hx : p.tables.exec = Jvm.exec) (hb : c.code = cc) (hts : ∀ q ∈ Ts, q.before args s = true) (hown : s.vm.findClass own = some m.cls) (hW : sW w D Y A σ s H0 H locs) (hk : (0, 5, 0) ∈ kS w) (hin : ∀ q ∈ wsX60, q ∈ Ts) {index : Nat} (hlink : Cond.fieldLink own index "SoldStops$Text" "token" "I" ∈ Ts) (hdg : decode cc pc = .ok (.getfield index, 3)) (kk : W p l e R s m args below meth c H locs cells slots Q (F0 m (pc + 3) ls (.int (sG σ 10 0) :: rest))) : W p l e R s m args below meth c H locs cells slots Q (F0 m pc ls (.ref (A 0 5 0) :: rest)) := rg hx hb hts hown hW hk hin rfl 6 (by decide) hlink rfl hdg kk
theorem cgf_X6_token {v : Int32} {o : Nat} (h0 : o = 0) : ∀ j ∈ kS w, j ≠ (0, 5, o) → cE Y A (sGu σ 10 o v) j = cE Y A σ j := cg_O (fun c' o' => match c' with
  | 0 => fun _ => rfl
  | 1 => fun _ => rfl
  | 2 => fun _ => rfl
  | 3 => fun _ => rfl
  | 4 => fun _ => rfl
  | 5 => fun h => by have h2 : ¬ o' = o := fun q => h ⟨rfl, q⟩; simp [cO, sG, sGu, sL, h2]
  | 6 => fun _ => rfl
  | 7 => fun _ => rfl
  | (_ + 8) => fun _ => rfl)
theorem pf_X6_token (hx : p.tables.exec = Jvm.exec) (hb : c.code = cc) (hts : ∀ q ∈ Ts, q.before args s = true) (hown : s.vm.findClass own = some m.cls) (hW : sW w D Y A σ s H0 H locs) (hk : (0, 5, 0) ∈ kS w) (hin : ∀ q ∈ wsX60, q ∈ Ts) {index : Nat} (hlink : Cond.fieldLink own index "SoldStops$Text" "token" "I" ∈ Ts) {v : Int32} (hdg : decode cc pc = .ok (.putfield index, 3)) (kk : ∀ (H1 : Heap) (locs1 : List Loc), sW w D Y A (sGu σ 10 0 v) s H0 H1 locs1 → W p l e R s m args below meth c H1 locs1 cells slots Q (F0 m (pc + 3) ls rest)) : W p l e R s m args below meth c H locs cells slots Q (F0 m pc ls (.int v :: .ref (A 0 5 0) :: rest)) :=
  rp (ty := .int) hx hb hts hown hW hk hin tyX6 tyX6_ok nmX6 rfl 6 (by decide) hlink rfl (by decide +kernel) rfl rfl (by simp [cO]) (by simp [cO, sG, sGu, sL]) (cgf_X6_token rfl) hdg kk
theorem gf_X6_value (hx : p.tables.exec = Jvm.exec) (hb : c.code = cc) (hts : ∀ q ∈ Ts, q.before args s = true) (hown : s.vm.findClass own = some m.cls) (hW : sW w D Y A σ s H0 H locs) (hk : (0, 5, 0) ∈ kS w) (hin : ∀ q ∈ wsX60, q ∈ Ts) {index : Nat} (hlink : Cond.fieldLink own index "SoldStops$Text" "value" "I" ∈ Ts) (hdg : decode cc pc = .ok (.getfield index, 3)) (kk : W p l e R s m args below meth c H locs cells slots Q (F0 m (pc + 3) ls (.int (sG σ 11 0) :: rest))) : W p l e R s m args below meth c H locs cells slots Q (F0 m pc ls (.ref (A 0 5 0) :: rest)) := rg hx hb hts hown hW hk hin rfl 7 (by decide) hlink rfl hdg kk
theorem cgf_X6_value {v : Int32} {o : Nat} (h0 : o = 0) : ∀ j ∈ kS w, j ≠ (0, 5, o) → cE Y A (sGu σ 11 o v) j = cE Y A σ j := cg_O (fun c' o' => match c' with
  | 0 => fun _ => rfl
  | 1 => fun _ => rfl
  | 2 => fun _ => rfl
  | 3 => fun _ => rfl
  | 4 => fun _ => rfl
  | 5 => fun h => by have h2 : ¬ o' = o := fun q => h ⟨rfl, q⟩; simp [cO, sG, sGu, sL, h2]
  | 6 => fun _ => rfl
  | 7 => fun _ => rfl
  | (_ + 8) => fun _ => rfl)
theorem pf_X6_value (hx : p.tables.exec = Jvm.exec) (hb : c.code = cc) (hts : ∀ q ∈ Ts, q.before args s = true) (hown : s.vm.findClass own = some m.cls) (hW : sW w D Y A σ s H0 H locs) (hk : (0, 5, 0) ∈ kS w) (hin : ∀ q ∈ wsX60, q ∈ Ts) {index : Nat} (hlink : Cond.fieldLink own index "SoldStops$Text" "value" "I" ∈ Ts) {v : Int32} (hdg : decode cc pc = .ok (.putfield index, 3)) (kk : ∀ (H1 : Heap) (locs1 : List Loc), sW w D Y A (sGu σ 11 0 v) s H0 H1 locs1 → W p l e R s m args below meth c H1 locs1 cells slots Q (F0 m (pc + 3) ls rest)) : W p l e R s m args below meth c H locs cells slots Q (F0 m pc ls (.int v :: .ref (A 0 5 0) :: rest)) :=
  rp (ty := .int) hx hb hts hown hW hk hin tyX6 tyX6_ok nmX6 rfl 7 (by decide) hlink rfl (by decide +kernel) rfl rfl (by simp [cO]) (by simp [cO, sG, sGu, sL]) (cgf_X6_value rfl) hdg kk
theorem gf_X6_place (hx : p.tables.exec = Jvm.exec) (hb : c.code = cc) (hts : ∀ q ∈ Ts, q.before args s = true) (hown : s.vm.findClass own = some m.cls) (hW : sW w D Y A σ s H0 H locs) (hk : (0, 5, 0) ∈ kS w) (hin : ∀ q ∈ wsX60, q ∈ Ts) {index : Nat} (hlink : Cond.fieldLink own index "SoldStops$Text" "place" "I" ∈ Ts) (hdg : decode cc pc = .ok (.getfield index, 3)) (kk : W p l e R s m args below meth c H locs cells slots Q (F0 m (pc + 3) ls (.int (sG σ 12 0) :: rest))) : W p l e R s m args below meth c H locs cells slots Q (F0 m pc ls (.ref (A 0 5 0) :: rest)) := rg hx hb hts hown hW hk hin rfl 8 (by decide) hlink rfl hdg kk
theorem cgf_X6_place {v : Int32} {o : Nat} (h0 : o = 0) : ∀ j ∈ kS w, j ≠ (0, 5, o) → cE Y A (sGu σ 12 o v) j = cE Y A σ j := cg_O (fun c' o' => match c' with
  | 0 => fun _ => rfl
  | 1 => fun _ => rfl
  | 2 => fun _ => rfl
  | 3 => fun _ => rfl
  | 4 => fun _ => rfl
  | 5 => fun h => by have h2 : ¬ o' = o := fun q => h ⟨rfl, q⟩; simp [cO, sG, sGu, sL, h2]
  | 6 => fun _ => rfl
  | 7 => fun _ => rfl
  | (_ + 8) => fun _ => rfl)
theorem pf_X6_place (hx : p.tables.exec = Jvm.exec) (hb : c.code = cc) (hts : ∀ q ∈ Ts, q.before args s = true) (hown : s.vm.findClass own = some m.cls) (hW : sW w D Y A σ s H0 H locs) (hk : (0, 5, 0) ∈ kS w) (hin : ∀ q ∈ wsX60, q ∈ Ts) {index : Nat} (hlink : Cond.fieldLink own index "SoldStops$Text" "place" "I" ∈ Ts) {v : Int32} (hdg : decode cc pc = .ok (.putfield index, 3)) (kk : ∀ (H1 : Heap) (locs1 : List Loc), sW w D Y A (sGu σ 12 0 v) s H0 H1 locs1 → W p l e R s m args below meth c H1 locs1 cells slots Q (F0 m (pc + 3) ls rest)) : W p l e R s m args below meth c H locs cells slots Q (F0 m pc ls (.int v :: .ref (A 0 5 0) :: rest)) :=
  rp (ty := .int) hx hb hts hown hW hk hin tyX6 tyX6_ok nmX6 rfl 8 (by decide) hlink rfl (by decide +kernel) rfl rfl (by simp [cO]) (by simp [cO, sG, sGu, sL]) (cgf_X6_place rfl) hdg kk
theorem gf_X6_behind (hx : p.tables.exec = Jvm.exec) (hb : c.code = cc) (hts : ∀ q ∈ Ts, q.before args s = true) (hown : s.vm.findClass own = some m.cls) (hW : sW w D Y A σ s H0 H locs) (hk : (0, 5, 0) ∈ kS w) (hin : ∀ q ∈ wsX60, q ∈ Ts) {index : Nat} (hlink : Cond.fieldLink own index "SoldStops$Text" "behind" "I" ∈ Ts) (hdg : decode cc pc = .ok (.getfield index, 3)) (kk : W p l e R s m args below meth c H locs cells slots Q (F0 m (pc + 3) ls (.int (sG σ 13 0) :: rest))) : W p l e R s m args below meth c H locs cells slots Q (F0 m pc ls (.ref (A 0 5 0) :: rest)) := rg hx hb hts hown hW hk hin rfl 9 (by decide) hlink rfl hdg kk
theorem cgf_X6_behind {v : Int32} {o : Nat} (h0 : o = 0) : ∀ j ∈ kS w, j ≠ (0, 5, o) → cE Y A (sGu σ 13 o v) j = cE Y A σ j := cg_O (fun c' o' => match c' with
  | 0 => fun _ => rfl
  | 1 => fun _ => rfl
  | 2 => fun _ => rfl
  | 3 => fun _ => rfl
  | 4 => fun _ => rfl
  | 5 => fun h => by have h2 : ¬ o' = o := fun q => h ⟨rfl, q⟩; simp [cO, sG, sGu, sL, h2]
  | 6 => fun _ => rfl
  | 7 => fun _ => rfl
  | (_ + 8) => fun _ => rfl)
theorem pf_X6_behind (hx : p.tables.exec = Jvm.exec) (hb : c.code = cc) (hts : ∀ q ∈ Ts, q.before args s = true) (hown : s.vm.findClass own = some m.cls) (hW : sW w D Y A σ s H0 H locs) (hk : (0, 5, 0) ∈ kS w) (hin : ∀ q ∈ wsX60, q ∈ Ts) {index : Nat} (hlink : Cond.fieldLink own index "SoldStops$Text" "behind" "I" ∈ Ts) {v : Int32} (hdg : decode cc pc = .ok (.putfield index, 3)) (kk : ∀ (H1 : Heap) (locs1 : List Loc), sW w D Y A (sGu σ 13 0 v) s H0 H1 locs1 → W p l e R s m args below meth c H1 locs1 cells slots Q (F0 m (pc + 3) ls rest)) : W p l e R s m args below meth c H locs cells slots Q (F0 m pc ls (.int v :: .ref (A 0 5 0) :: rest)) :=
  rp (ty := .int) hx hb hts hown hW hk hin tyX6 tyX6_ok nmX6 rfl 9 (by decide) hlink rfl (by decide +kernel) rfl rfl (by simp [cO]) (by simp [cO, sG, sGu, sL]) (cgf_X6_behind rfl) hdg kk
theorem gf_X7_page (hx : p.tables.exec = Jvm.exec) (hb : c.code = cc) (hts : ∀ q ∈ Ts, q.before args s = true) (hown : s.vm.findClass own = some m.cls) (hW : sW w D Y A σ s H0 H locs) (hk : (0, 6, 0) ∈ kS w) (hin : ∀ q ∈ wsX70, q ∈ Ts) {index : Nat} (hlink : Cond.fieldLink own index "SoldStops" "page" "LSoldStops$Page;" ∈ Ts) (hdg : decode cc pc = .ok (.getfield index, 3)) (kk : W p l e R s m args below meth c H locs cells slots Q (F0 m (pc + 3) ls (.ref (A 0 3 0) :: rest))) : W p l e R s m args below meth c H locs cells slots Q (F0 m pc ls (.ref (A 0 6 0) :: rest)) := rg hx hb hts hown hW hk hin rfl 0 (by decide) hlink rfl hdg kk
theorem gf_X7_spare (hx : p.tables.exec = Jvm.exec) (hb : c.code = cc) (hts : ∀ q ∈ Ts, q.before args s = true) (hown : s.vm.findClass own = some m.cls) (hW : sW w D Y A σ s H0 H locs) (hk : (0, 6, 0) ∈ kS w) (hin : ∀ q ∈ wsX70, q ∈ Ts) {index : Nat} (hlink : Cond.fieldLink own index "SoldStops" "spare" "LSoldStops$Page;" ∈ Ts) (hdg : decode cc pc = .ok (.getfield index, 3)) (kk : W p l e R s m args below meth c H locs cells slots Q (F0 m (pc + 3) ls (.ref (A 0 3 1) :: rest))) : W p l e R s m args below meth c H locs cells slots Q (F0 m pc ls (.ref (A 0 6 0) :: rest)) := rg hx hb hts hown hW hk hin rfl 1 (by decide) hlink rfl hdg kk
theorem gf_X7_images (hx : p.tables.exec = Jvm.exec) (hb : c.code = cc) (hts : ∀ q ∈ Ts, q.before args s = true) (hown : s.vm.findClass own = some m.cls) (hW : sW w D Y A σ s H0 H locs) (hk : (0, 6, 0) ∈ kS w) (hin : ∀ q ∈ wsX70, q ∈ Ts) {index : Nat} (hlink : Cond.fieldLink own index "SoldStops" "images" "[LSoldStops$Page;" ∈ Ts) (hdg : decode cc pc = .ok (.getfield index, 3)) (kk : W p l e R s m args below meth c H locs cells slots Q (F0 m (pc + 3) ls (.ref (A 4 1 0) :: rest))) : W p l e R s m args below meth c H locs cells slots Q (F0 m pc ls (.ref (A 0 6 0) :: rest)) := rg hx hb hts hown hW hk hin rfl 2 (by decide) hlink rfl hdg kk
theorem gf_X7_kept (hx : p.tables.exec = Jvm.exec) (hb : c.code = cc) (hts : ∀ q ∈ Ts, q.before args s = true) (hown : s.vm.findClass own = some m.cls) (hW : sW w D Y A σ s H0 H locs) (hk : (0, 6, 0) ∈ kS w) (hin : ∀ q ∈ wsX70, q ∈ Ts) {index : Nat} (hlink : Cond.fieldLink own index "SoldStops" "kept" "[Z" ∈ Ts) (hdg : decode cc pc = .ok (.getfield index, 3)) (kk : W p l e R s m args below meth c H locs cells slots Q (F0 m (pc + 3) ls (.ref (A 2 1 0) :: rest))) : W p l e R s m args below meth c H locs cells slots Q (F0 m pc ls (.ref (A 0 6 0) :: rest)) := rg hx hb hts hown hW hk hin rfl 3 (by decide) hlink rfl hdg kk
theorem gf_X7_text (hx : p.tables.exec = Jvm.exec) (hb : c.code = cc) (hts : ∀ q ∈ Ts, q.before args s = true) (hown : s.vm.findClass own = some m.cls) (hW : sW w D Y A σ s H0 H locs) (hk : (0, 6, 0) ∈ kS w) (hin : ∀ q ∈ wsX70, q ∈ Ts) {index : Nat} (hlink : Cond.fieldLink own index "SoldStops" "text" "LSoldStops$Text;" ∈ Ts) (hdg : decode cc pc = .ok (.getfield index, 3)) (kk : W p l e R s m args below meth c H locs cells slots Q (F0 m (pc + 3) ls (.ref (A 0 5 0) :: rest))) : W p l e R s m args below meth c H locs cells slots Q (F0 m pc ls (.ref (A 0 6 0) :: rest)) := rg hx hb hts hown hW hk hin rfl 4 (by decide) hlink rfl hdg kk
theorem gf_X7_plan (hx : p.tables.exec = Jvm.exec) (hb : c.code = cc) (hts : ∀ q ∈ Ts, q.before args s = true) (hown : s.vm.findClass own = some m.cls) (hW : sW w D Y A σ s H0 H locs) (hk : (0, 6, 0) ∈ kS w) (hin : ∀ q ∈ wsX70, q ∈ Ts) {index : Nat} (hlink : Cond.fieldLink own index "SoldStops" "plan" "LSoldStops$Plan;" ∈ Ts) (hdg : decode cc pc = .ok (.getfield index, 3)) (kk : W p l e R s m args below meth c H locs cells slots Q (F0 m (pc + 3) ls (.ref (A 0 4 0) :: rest))) : W p l e R s m args below meth c H locs cells slots Q (F0 m pc ls (.ref (A 0 6 0) :: rest)) := rg hx hb hts hown hW hk hin rfl 5 (by decide) hlink rfl hdg kk
theorem gf_X7_order (hx : p.tables.exec = Jvm.exec) (hb : c.code = cc) (hts : ∀ q ∈ Ts, q.before args s = true) (hown : s.vm.findClass own = some m.cls) (hW : sW w D Y A σ s H0 H locs) (hk : (0, 6, 0) ∈ kS w) (hin : ∀ q ∈ wsX70, q ∈ Ts) {index : Nat} (hlink : Cond.fieldLink own index "SoldStops" "order" "LSoldStops$Order;" ∈ Ts) (hdg : decode cc pc = .ok (.getfield index, 3)) (kk : W p l e R s m args below meth c H locs cells slots Q (F0 m (pc + 3) ls (.ref (A 0 2 0) :: rest))) : W p l e R s m args below meth c H locs cells slots Q (F0 m pc ls (.ref (A 0 6 0) :: rest)) := rg hx hb hts hown hW hk hin rfl 6 (by decide) hlink rfl hdg kk
theorem gf_X7_chance (hx : p.tables.exec = Jvm.exec) (hb : c.code = cc) (hts : ∀ q ∈ Ts, q.before args s = true) (hown : s.vm.findClass own = some m.cls) (hW : sW w D Y A σ s H0 H locs) (hk : (0, 6, 0) ∈ kS w) (hin : ∀ q ∈ wsX70, q ∈ Ts) {index : Nat} (hlink : Cond.fieldLink own index "SoldStops" "chance" "LSoldStops$Chance;" ∈ Ts) (hdg : decode cc pc = .ok (.getfield index, 3)) (kk : W p l e R s m args below meth c H locs cells slots Q (F0 m (pc + 3) ls (.ref (A 0 0 0) :: rest))) : W p l e R s m args below meth c H locs cells slots Q (F0 m pc ls (.ref (A 0 6 0) :: rest)) := rg hx hb hts hown hW hk hin rfl 7 (by decide) hlink rfl hdg kk
theorem gf_X7_alike (hx : p.tables.exec = Jvm.exec) (hb : c.code = cc) (hts : ∀ q ∈ Ts, q.before args s = true) (hown : s.vm.findClass own = some m.cls) (hW : sW w D Y A σ s H0 H locs) (hk : (0, 6, 0) ∈ kS w) (hin : ∀ q ∈ wsX70, q ∈ Ts) {index : Nat} (hlink : Cond.fieldLink own index "SoldStops" "alike" "[I" ∈ Ts) (hdg : decode cc pc = .ok (.getfield index, 3)) (kk : W p l e R s m args below meth c H locs cells slots Q (F0 m (pc + 3) ls (.ref (A 1 15 0) :: rest))) : W p l e R s m args below meth c H locs cells slots Q (F0 m pc ls (.ref (A 0 6 0) :: rest)) := rg hx hb hts hown hW hk hin rfl 8 (by decide) hlink rfl hdg kk
theorem gf_X7_bads (hx : p.tables.exec = Jvm.exec) (hb : c.code = cc) (hts : ∀ q ∈ Ts, q.before args s = true) (hown : s.vm.findClass own = some m.cls) (hW : sW w D Y A σ s H0 H locs) (hk : (0, 6, 0) ∈ kS w) (hin : ∀ q ∈ wsX70, q ∈ Ts) {index : Nat} (hlink : Cond.fieldLink own index "SoldStops" "bads" "I" ∈ Ts) (hdg : decode cc pc = .ok (.getfield index, 3)) (kk : W p l e R s m args below meth c H locs cells slots Q (F0 m (pc + 3) ls (.int (sG σ 14 0) :: rest))) : W p l e R s m args below meth c H locs cells slots Q (F0 m pc ls (.ref (A 0 6 0) :: rest)) := rg hx hb hts hown hW hk hin rfl 9 (by decide) hlink rfl hdg kk
theorem cgf_X7_bads {v : Int32} {o : Nat} (h0 : o = 0) : ∀ j ∈ kS w, j ≠ (0, 6, o) → cE Y A (sGu σ 14 o v) j = cE Y A σ j := cg_O (fun c' o' => match c' with
  | 0 => fun _ => rfl
  | 1 => fun _ => rfl
  | 2 => fun _ => rfl
  | 3 => fun _ => rfl
  | 4 => fun _ => rfl
  | 5 => fun _ => rfl
  | 6 => fun h => by have h2 : ¬ o' = o := fun q => h ⟨rfl, q⟩; simp [cO, sG, sGu, sL, h2]
  | 7 => fun _ => rfl
  | (_ + 8) => fun _ => rfl)
theorem pf_X7_bads (hx : p.tables.exec = Jvm.exec) (hb : c.code = cc) (hts : ∀ q ∈ Ts, q.before args s = true) (hown : s.vm.findClass own = some m.cls) (hW : sW w D Y A σ s H0 H locs) (hk : (0, 6, 0) ∈ kS w) (hin : ∀ q ∈ wsX70, q ∈ Ts) {index : Nat} (hlink : Cond.fieldLink own index "SoldStops" "bads" "I" ∈ Ts) {v : Int32} (hdg : decode cc pc = .ok (.putfield index, 3)) (kk : ∀ (H1 : Heap) (locs1 : List Loc), sW w D Y A (sGu σ 14 0 v) s H0 H1 locs1 → W p l e R s m args below meth c H1 locs1 cells slots Q (F0 m (pc + 3) ls rest)) : W p l e R s m args below meth c H locs cells slots Q (F0 m pc ls (.int v :: .ref (A 0 6 0) :: rest)) :=
  rp (ty := .int) hx hb hts hown hW hk hin tyX7 tyX7_ok nmX7 rfl 9 (by decide) hlink rfl (by decide +kernel) rfl rfl (by simp [cO]) (by simp [cO, sG, sGu, sL]) (cgf_X7_bads rfl) hdg kk
theorem gf_X7_nos (hx : p.tables.exec = Jvm.exec) (hb : c.code = cc) (hts : ∀ q ∈ Ts, q.before args s = true) (hown : s.vm.findClass own = some m.cls) (hW : sW w D Y A σ s H0 H locs) (hk : (0, 6, 0) ∈ kS w) (hin : ∀ q ∈ wsX70, q ∈ Ts) {index : Nat} (hlink : Cond.fieldLink own index "SoldStops" "nos" "I" ∈ Ts) (hdg : decode cc pc = .ok (.getfield index, 3)) (kk : W p l e R s m args below meth c H locs cells slots Q (F0 m (pc + 3) ls (.int (sG σ 15 0) :: rest))) : W p l e R s m args below meth c H locs cells slots Q (F0 m pc ls (.ref (A 0 6 0) :: rest)) := rg hx hb hts hown hW hk hin rfl 10 (by decide) hlink rfl hdg kk
theorem cgf_X7_nos {v : Int32} {o : Nat} (h0 : o = 0) : ∀ j ∈ kS w, j ≠ (0, 6, o) → cE Y A (sGu σ 15 o v) j = cE Y A σ j := cg_O (fun c' o' => match c' with
  | 0 => fun _ => rfl
  | 1 => fun _ => rfl
  | 2 => fun _ => rfl
  | 3 => fun _ => rfl
  | 4 => fun _ => rfl
  | 5 => fun _ => rfl
  | 6 => fun h => by have h2 : ¬ o' = o := fun q => h ⟨rfl, q⟩; simp [cO, sG, sGu, sL, h2]
  | 7 => fun _ => rfl
  | (_ + 8) => fun _ => rfl)
theorem pf_X7_nos (hx : p.tables.exec = Jvm.exec) (hb : c.code = cc) (hts : ∀ q ∈ Ts, q.before args s = true) (hown : s.vm.findClass own = some m.cls) (hW : sW w D Y A σ s H0 H locs) (hk : (0, 6, 0) ∈ kS w) (hin : ∀ q ∈ wsX70, q ∈ Ts) {index : Nat} (hlink : Cond.fieldLink own index "SoldStops" "nos" "I" ∈ Ts) {v : Int32} (hdg : decode cc pc = .ok (.putfield index, 3)) (kk : ∀ (H1 : Heap) (locs1 : List Loc), sW w D Y A (sGu σ 15 0 v) s H0 H1 locs1 → W p l e R s m args below meth c H1 locs1 cells slots Q (F0 m (pc + 3) ls rest)) : W p l e R s m args below meth c H locs cells slots Q (F0 m pc ls (.int v :: .ref (A 0 6 0) :: rest)) :=
  rp (ty := .int) hx hb hts hown hW hk hin tyX7 tyX7_ok nmX7 rfl 10 (by decide) hlink rfl (by decide +kernel) rfl rfl (by simp [cO]) (by simp [cO, sG, sGu, sL]) (cgf_X7_nos rfl) hdg kk
theorem gf_X7_fulls (hx : p.tables.exec = Jvm.exec) (hb : c.code = cc) (hts : ∀ q ∈ Ts, q.before args s = true) (hown : s.vm.findClass own = some m.cls) (hW : sW w D Y A σ s H0 H locs) (hk : (0, 6, 0) ∈ kS w) (hin : ∀ q ∈ wsX70, q ∈ Ts) {index : Nat} (hlink : Cond.fieldLink own index "SoldStops" "fulls" "I" ∈ Ts) (hdg : decode cc pc = .ok (.getfield index, 3)) (kk : W p l e R s m args below meth c H locs cells slots Q (F0 m (pc + 3) ls (.int (sG σ 16 0) :: rest))) : W p l e R s m args below meth c H locs cells slots Q (F0 m pc ls (.ref (A 0 6 0) :: rest)) := rg hx hb hts hown hW hk hin rfl 11 (by decide) hlink rfl hdg kk
theorem cgf_X7_fulls {v : Int32} {o : Nat} (h0 : o = 0) : ∀ j ∈ kS w, j ≠ (0, 6, o) → cE Y A (sGu σ 16 o v) j = cE Y A σ j := cg_O (fun c' o' => match c' with
  | 0 => fun _ => rfl
  | 1 => fun _ => rfl
  | 2 => fun _ => rfl
  | 3 => fun _ => rfl
  | 4 => fun _ => rfl
  | 5 => fun _ => rfl
  | 6 => fun h => by have h2 : ¬ o' = o := fun q => h ⟨rfl, q⟩; simp [cO, sG, sGu, sL, h2]
  | 7 => fun _ => rfl
  | (_ + 8) => fun _ => rfl)
theorem pf_X7_fulls (hx : p.tables.exec = Jvm.exec) (hb : c.code = cc) (hts : ∀ q ∈ Ts, q.before args s = true) (hown : s.vm.findClass own = some m.cls) (hW : sW w D Y A σ s H0 H locs) (hk : (0, 6, 0) ∈ kS w) (hin : ∀ q ∈ wsX70, q ∈ Ts) {index : Nat} (hlink : Cond.fieldLink own index "SoldStops" "fulls" "I" ∈ Ts) {v : Int32} (hdg : decode cc pc = .ok (.putfield index, 3)) (kk : ∀ (H1 : Heap) (locs1 : List Loc), sW w D Y A (sGu σ 16 0 v) s H0 H1 locs1 → W p l e R s m args below meth c H1 locs1 cells slots Q (F0 m (pc + 3) ls rest)) : W p l e R s m args below meth c H locs cells slots Q (F0 m pc ls (.int v :: .ref (A 0 6 0) :: rest)) :=
  rp (ty := .int) hx hb hts hown hW hk hin tyX7 tyX7_ok nmX7 rfl 11 (by decide) hlink rfl (by decide +kernel) rfl rfl (by simp [cO]) (by simp [cO, sG, sGu, sL]) (cgf_X7_fulls rfl) hdg kk
theorem gf_X8_refused (hx : p.tables.exec = Jvm.exec) (hb : c.code = cc) (hts : ∀ q ∈ Ts, q.before args s = true) (hown : s.vm.findClass own = some m.cls) (hW : sW w D Y A σ s H0 H locs) (hk : (0, 7, 0) ∈ kS w) (hin : ∀ q ∈ wsX80, q ∈ Ts) {index : Nat} (hlink : Cond.fieldLink own index "SoldStopsModel" "refused" "[I" ∈ Ts) (hdg : decode cc pc = .ok (.getfield index, 3)) (kk : W p l e R s m args below meth c H locs cells slots Q (F0 m (pc + 3) ls (.ref (A 1 16 0) :: rest))) : W p l e R s m args below meth c H locs cells slots Q (F0 m pc ls (.ref (A 0 7 0) :: rest)) := rg hx hb hts hown hW hk hin rfl 0 (by decide) hlink rfl hdg kk
theorem gf_X8_many (hx : p.tables.exec = Jvm.exec) (hb : c.code = cc) (hts : ∀ q ∈ Ts, q.before args s = true) (hown : s.vm.findClass own = some m.cls) (hW : sW w D Y A σ s H0 H locs) (hk : (0, 7, 0) ∈ kS w) (hin : ∀ q ∈ wsX80, q ∈ Ts) {index : Nat} (hlink : Cond.fieldLink own index "SoldStopsModel" "many" "I" ∈ Ts) (hdg : decode cc pc = .ok (.getfield index, 3)) (kk : W p l e R s m args below meth c H locs cells slots Q (F0 m (pc + 3) ls (.int (sG σ 17 0) :: rest))) : W p l e R s m args below meth c H locs cells slots Q (F0 m pc ls (.ref (A 0 7 0) :: rest)) := rg hx hb hts hown hW hk hin rfl 1 (by decide) hlink rfl hdg kk
theorem cgf_X8_many {v : Int32} {o : Nat} (h0 : o = 0) : ∀ j ∈ kS w, j ≠ (0, 7, o) → cE Y A (sGu σ 17 o v) j = cE Y A σ j := cg_O (fun c' o' => match c' with
  | 0 => fun _ => rfl
  | 1 => fun _ => rfl
  | 2 => fun _ => rfl
  | 3 => fun _ => rfl
  | 4 => fun _ => rfl
  | 5 => fun _ => rfl
  | 6 => fun _ => rfl
  | 7 => fun h => by have h2 : ¬ o' = o := fun q => h ⟨rfl, q⟩; simp [cO, sG, sGu, sL, h2]
  | (_ + 8) => fun _ => rfl)
theorem pf_X8_many (hx : p.tables.exec = Jvm.exec) (hb : c.code = cc) (hts : ∀ q ∈ Ts, q.before args s = true) (hown : s.vm.findClass own = some m.cls) (hW : sW w D Y A σ s H0 H locs) (hk : (0, 7, 0) ∈ kS w) (hin : ∀ q ∈ wsX80, q ∈ Ts) {index : Nat} (hlink : Cond.fieldLink own index "SoldStopsModel" "many" "I" ∈ Ts) {v : Int32} (hdg : decode cc pc = .ok (.putfield index, 3)) (kk : ∀ (H1 : Heap) (locs1 : List Loc), sW w D Y A (sGu σ 17 0 v) s H0 H1 locs1 → W p l e R s m args below meth c H1 locs1 cells slots Q (F0 m (pc + 3) ls rest)) : W p l e R s m args below meth c H locs cells slots Q (F0 m pc ls (.int v :: .ref (A 0 7 0) :: rest)) :=
  rp (ty := .int) hx hb hts hown hW hk hin tyX8 tyX8_ok nmX8 rfl 1 (by decide) hlink rfl (by decide +kernel) rfl rfl (by simp [cO]) (by simp [cO, sG, sGu, sL]) (cgf_X8_many rfl) hdg kk
theorem gf_X8_breath (hx : p.tables.exec = Jvm.exec) (hb : c.code = cc) (hts : ∀ q ∈ Ts, q.before args s = true) (hown : s.vm.findClass own = some m.cls) (hW : sW w D Y A σ s H0 H locs) (hk : (0, 7, 0) ∈ kS w) (hin : ∀ q ∈ wsX80, q ∈ Ts) {index : Nat} (hlink : Cond.fieldLink own index "SoldStopsModel" "breath" "I" ∈ Ts) (hdg : decode cc pc = .ok (.getfield index, 3)) (kk : W p l e R s m args below meth c H locs cells slots Q (F0 m (pc + 3) ls (.int (sG σ 18 0) :: rest))) : W p l e R s m args below meth c H locs cells slots Q (F0 m pc ls (.ref (A 0 7 0) :: rest)) := rg hx hb hts hown hW hk hin rfl 2 (by decide) hlink rfl hdg kk
theorem cgf_X8_breath {v : Int32} {o : Nat} (h0 : o = 0) : ∀ j ∈ kS w, j ≠ (0, 7, o) → cE Y A (sGu σ 18 o v) j = cE Y A σ j := cg_O (fun c' o' => match c' with
  | 0 => fun _ => rfl
  | 1 => fun _ => rfl
  | 2 => fun _ => rfl
  | 3 => fun _ => rfl
  | 4 => fun _ => rfl
  | 5 => fun _ => rfl
  | 6 => fun _ => rfl
  | 7 => fun h => by have h2 : ¬ o' = o := fun q => h ⟨rfl, q⟩; simp [cO, sG, sGu, sL, h2]
  | (_ + 8) => fun _ => rfl)
theorem pf_X8_breath (hx : p.tables.exec = Jvm.exec) (hb : c.code = cc) (hts : ∀ q ∈ Ts, q.before args s = true) (hown : s.vm.findClass own = some m.cls) (hW : sW w D Y A σ s H0 H locs) (hk : (0, 7, 0) ∈ kS w) (hin : ∀ q ∈ wsX80, q ∈ Ts) {index : Nat} (hlink : Cond.fieldLink own index "SoldStopsModel" "breath" "I" ∈ Ts) {v : Int32} (hdg : decode cc pc = .ok (.putfield index, 3)) (kk : ∀ (H1 : Heap) (locs1 : List Loc), sW w D Y A (sGu σ 18 0 v) s H0 H1 locs1 → W p l e R s m args below meth c H1 locs1 cells slots Q (F0 m (pc + 3) ls rest)) : W p l e R s m args below meth c H locs cells slots Q (F0 m pc ls (.int v :: .ref (A 0 7 0) :: rest)) :=
  rp (ty := .int) hx hb hts hown hW hk hin tyX8 tyX8_ok nmX8 rfl 2 (by decide) hlink rfl (by decide +kernel) rfl rfl (by simp [cO]) (by simp [cO, sG, sGu, sL]) (cgf_X8_breath rfl) hdg kk
theorem gf_X8_price (hx : p.tables.exec = Jvm.exec) (hb : c.code = cc) (hts : ∀ q ∈ Ts, q.before args s = true) (hown : s.vm.findClass own = some m.cls) (hW : sW w D Y A σ s H0 H locs) (hk : (0, 7, 0) ∈ kS w) (hin : ∀ q ∈ wsX80, q ∈ Ts) {index : Nat} (hlink : Cond.fieldLink own index "SoldStopsModel" "price" "I" ∈ Ts) (hdg : decode cc pc = .ok (.getfield index, 3)) (kk : W p l e R s m args below meth c H locs cells slots Q (F0 m (pc + 3) ls (.int (sG σ 19 0) :: rest))) : W p l e R s m args below meth c H locs cells slots Q (F0 m pc ls (.ref (A 0 7 0) :: rest)) := rg hx hb hts hown hW hk hin rfl 3 (by decide) hlink rfl hdg kk
theorem cgf_X8_price {v : Int32} {o : Nat} (h0 : o = 0) : ∀ j ∈ kS w, j ≠ (0, 7, o) → cE Y A (sGu σ 19 o v) j = cE Y A σ j := cg_O (fun c' o' => match c' with
  | 0 => fun _ => rfl
  | 1 => fun _ => rfl
  | 2 => fun _ => rfl
  | 3 => fun _ => rfl
  | 4 => fun _ => rfl
  | 5 => fun _ => rfl
  | 6 => fun _ => rfl
  | 7 => fun h => by have h2 : ¬ o' = o := fun q => h ⟨rfl, q⟩; simp [cO, sG, sGu, sL, h2]
  | (_ + 8) => fun _ => rfl)
theorem pf_X8_price (hx : p.tables.exec = Jvm.exec) (hb : c.code = cc) (hts : ∀ q ∈ Ts, q.before args s = true) (hown : s.vm.findClass own = some m.cls) (hW : sW w D Y A σ s H0 H locs) (hk : (0, 7, 0) ∈ kS w) (hin : ∀ q ∈ wsX80, q ∈ Ts) {index : Nat} (hlink : Cond.fieldLink own index "SoldStopsModel" "price" "I" ∈ Ts) {v : Int32} (hdg : decode cc pc = .ok (.putfield index, 3)) (kk : ∀ (H1 : Heap) (locs1 : List Loc), sW w D Y A (sGu σ 19 0 v) s H0 H1 locs1 → W p l e R s m args below meth c H1 locs1 cells slots Q (F0 m (pc + 3) ls rest)) : W p l e R s m args below meth c H locs cells slots Q (F0 m pc ls (.int v :: .ref (A 0 7 0) :: rest)) :=
  rp (ty := .int) hx hb hts hown hW hk hin tyX8 tyX8_ok nmX8 rfl 3 (by decide) hlink rfl (by decide +kernel) rfl rfl (by simp [cO]) (by simp [cO, sG, sGu, sL]) (cgf_X8_price rfl) hdg kk
theorem gf_X8_purse (hx : p.tables.exec = Jvm.exec) (hb : c.code = cc) (hts : ∀ q ∈ Ts, q.before args s = true) (hown : s.vm.findClass own = some m.cls) (hW : sW w D Y A σ s H0 H locs) (hk : (0, 7, 0) ∈ kS w) (hin : ∀ q ∈ wsX80, q ∈ Ts) {index : Nat} (hlink : Cond.fieldLink own index "SoldStopsModel" "purse" "I" ∈ Ts) (hdg : decode cc pc = .ok (.getfield index, 3)) (kk : W p l e R s m args below meth c H locs cells slots Q (F0 m (pc + 3) ls (.int (sG σ 20 0) :: rest))) : W p l e R s m args below meth c H locs cells slots Q (F0 m pc ls (.ref (A 0 7 0) :: rest)) := rg hx hb hts hown hW hk hin rfl 4 (by decide) hlink rfl hdg kk
theorem cgf_X8_purse {v : Int32} {o : Nat} (h0 : o = 0) : ∀ j ∈ kS w, j ≠ (0, 7, o) → cE Y A (sGu σ 20 o v) j = cE Y A σ j := cg_O (fun c' o' => match c' with
  | 0 => fun _ => rfl
  | 1 => fun _ => rfl
  | 2 => fun _ => rfl
  | 3 => fun _ => rfl
  | 4 => fun _ => rfl
  | 5 => fun _ => rfl
  | 6 => fun _ => rfl
  | 7 => fun h => by have h2 : ¬ o' = o := fun q => h ⟨rfl, q⟩; simp [cO, sG, sGu, sL, h2]
  | (_ + 8) => fun _ => rfl)
theorem pf_X8_purse (hx : p.tables.exec = Jvm.exec) (hb : c.code = cc) (hts : ∀ q ∈ Ts, q.before args s = true) (hown : s.vm.findClass own = some m.cls) (hW : sW w D Y A σ s H0 H locs) (hk : (0, 7, 0) ∈ kS w) (hin : ∀ q ∈ wsX80, q ∈ Ts) {index : Nat} (hlink : Cond.fieldLink own index "SoldStopsModel" "purse" "I" ∈ Ts) {v : Int32} (hdg : decode cc pc = .ok (.putfield index, 3)) (kk : ∀ (H1 : Heap) (locs1 : List Loc), sW w D Y A (sGu σ 20 0 v) s H0 H1 locs1 → W p l e R s m args below meth c H1 locs1 cells slots Q (F0 m (pc + 3) ls rest)) : W p l e R s m args below meth c H locs cells slots Q (F0 m pc ls (.int v :: .ref (A 0 7 0) :: rest)) :=
  rp (ty := .int) hx hb hts hown hW hk hin tyX8 tyX8_ok nmX8 rfl 4 (by decide) hlink rfl (by decide +kernel) rfl rfl (by simp [cO]) (by simp [cO, sG, sGu, sL]) (cgf_X8_purse rfl) hdg kk
theorem gf_X8_week (hx : p.tables.exec = Jvm.exec) (hb : c.code = cc) (hts : ∀ q ∈ Ts, q.before args s = true) (hown : s.vm.findClass own = some m.cls) (hW : sW w D Y A σ s H0 H locs) (hk : (0, 7, 0) ∈ kS w) (hin : ∀ q ∈ wsX80, q ∈ Ts) {index : Nat} (hlink : Cond.fieldLink own index "SoldStopsModel" "week" "I" ∈ Ts) (hdg : decode cc pc = .ok (.getfield index, 3)) (kk : W p l e R s m args below meth c H locs cells slots Q (F0 m (pc + 3) ls (.int (sG σ 21 0) :: rest))) : W p l e R s m args below meth c H locs cells slots Q (F0 m pc ls (.ref (A 0 7 0) :: rest)) := rg hx hb hts hown hW hk hin rfl 5 (by decide) hlink rfl hdg kk
theorem cgf_X8_week {v : Int32} {o : Nat} (h0 : o = 0) : ∀ j ∈ kS w, j ≠ (0, 7, o) → cE Y A (sGu σ 21 o v) j = cE Y A σ j := cg_O (fun c' o' => match c' with
  | 0 => fun _ => rfl
  | 1 => fun _ => rfl
  | 2 => fun _ => rfl
  | 3 => fun _ => rfl
  | 4 => fun _ => rfl
  | 5 => fun _ => rfl
  | 6 => fun _ => rfl
  | 7 => fun h => by have h2 : ¬ o' = o := fun q => h ⟨rfl, q⟩; simp [cO, sG, sGu, sL, h2]
  | (_ + 8) => fun _ => rfl)
theorem pf_X8_week (hx : p.tables.exec = Jvm.exec) (hb : c.code = cc) (hts : ∀ q ∈ Ts, q.before args s = true) (hown : s.vm.findClass own = some m.cls) (hW : sW w D Y A σ s H0 H locs) (hk : (0, 7, 0) ∈ kS w) (hin : ∀ q ∈ wsX80, q ∈ Ts) {index : Nat} (hlink : Cond.fieldLink own index "SoldStopsModel" "week" "I" ∈ Ts) {v : Int32} (hdg : decode cc pc = .ok (.putfield index, 3)) (kk : ∀ (H1 : Heap) (locs1 : List Loc), sW w D Y A (sGu σ 21 0 v) s H0 H1 locs1 → W p l e R s m args below meth c H1 locs1 cells slots Q (F0 m (pc + 3) ls rest)) : W p l e R s m args below meth c H locs cells slots Q (F0 m pc ls (.int v :: .ref (A 0 7 0) :: rest)) :=
  rp (ty := .int) hx hb hts hown hW hk hin tyX8 tyX8_ok nmX8 rfl 5 (by decide) hlink rfl (by decide +kernel) rfl rfl (by simp [cO]) (by simp [cO, sG, sGu, sL]) (cgf_X8_week rfl) hdg kk
theorem gf_X8_lengths (hx : p.tables.exec = Jvm.exec) (hb : c.code = cc) (hts : ∀ q ∈ Ts, q.before args s = true) (hown : s.vm.findClass own = some m.cls) (hW : sW w D Y A σ s H0 H locs) (hk : (0, 7, 0) ∈ kS w) (hin : ∀ q ∈ wsX80, q ∈ Ts) {index : Nat} (hlink : Cond.fieldLink own index "SoldStopsModel" "lengths" "[I" ∈ Ts) (hdg : decode cc pc = .ok (.getfield index, 3)) (kk : W p l e R s m args below meth c H locs cells slots Q (F0 m (pc + 3) ls (.ref (A 1 17 0) :: rest))) : W p l e R s m args below meth c H locs cells slots Q (F0 m pc ls (.ref (A 0 7 0) :: rest)) := rg hx hb hts hown hW hk hin rfl 6 (by decide) hlink rfl hdg kk
theorem gf_X8_kinds (hx : p.tables.exec = Jvm.exec) (hb : c.code = cc) (hts : ∀ q ∈ Ts, q.before args s = true) (hown : s.vm.findClass own = some m.cls) (hW : sW w D Y A σ s H0 H locs) (hk : (0, 7, 0) ∈ kS w) (hin : ∀ q ∈ wsX80, q ∈ Ts) {index : Nat} (hlink : Cond.fieldLink own index "SoldStopsModel" "kinds" "[I" ∈ Ts) (hdg : decode cc pc = .ok (.getfield index, 3)) (kk : W p l e R s m args below meth c H locs cells slots Q (F0 m (pc + 3) ls (.ref (A 1 18 0) :: rest))) : W p l e R s m args below meth c H locs cells slots Q (F0 m pc ls (.ref (A 0 7 0) :: rest)) := rg hx hb hts hown hW hk hin rfl 7 (by decide) hlink rfl hdg kk
theorem gf_X8_reads (hx : p.tables.exec = Jvm.exec) (hb : c.code = cc) (hts : ∀ q ∈ Ts, q.before args s = true) (hown : s.vm.findClass own = some m.cls) (hW : sW w D Y A σ s H0 H locs) (hk : (0, 7, 0) ∈ kS w) (hin : ∀ q ∈ wsX80, q ∈ Ts) {index : Nat} (hlink : Cond.fieldLink own index "SoldStopsModel" "reads" "[I" ∈ Ts) (hdg : decode cc pc = .ok (.getfield index, 3)) (kk : W p l e R s m args below meth c H locs cells slots Q (F0 m (pc + 3) ls (.ref (A 1 19 0) :: rest))) : W p l e R s m args below meth c H locs cells slots Q (F0 m pc ls (.ref (A 0 7 0) :: rest)) := rg hx hb hts hown hW hk hin rfl 8 (by decide) hlink rfl hdg kk
theorem gf_X8_heardMany (hx : p.tables.exec = Jvm.exec) (hb : c.code = cc) (hts : ∀ q ∈ Ts, q.before args s = true) (hown : s.vm.findClass own = some m.cls) (hW : sW w D Y A σ s H0 H locs) (hk : (0, 7, 0) ∈ kS w) (hin : ∀ q ∈ wsX80, q ∈ Ts) {index : Nat} (hlink : Cond.fieldLink own index "SoldStopsModel" "heardMany" "I" ∈ Ts) (hdg : decode cc pc = .ok (.getfield index, 3)) (kk : W p l e R s m args below meth c H locs cells slots Q (F0 m (pc + 3) ls (.int (sG σ 22 0) :: rest))) : W p l e R s m args below meth c H locs cells slots Q (F0 m pc ls (.ref (A 0 7 0) :: rest)) := rg hx hb hts hown hW hk hin rfl 9 (by decide) hlink rfl hdg kk
theorem cgf_X8_heardMany {v : Int32} {o : Nat} (h0 : o = 0) : ∀ j ∈ kS w, j ≠ (0, 7, o) → cE Y A (sGu σ 22 o v) j = cE Y A σ j := cg_O (fun c' o' => match c' with
  | 0 => fun _ => rfl
  | 1 => fun _ => rfl
  | 2 => fun _ => rfl
  | 3 => fun _ => rfl
  | 4 => fun _ => rfl
  | 5 => fun _ => rfl
  | 6 => fun _ => rfl
  | 7 => fun h => by have h2 : ¬ o' = o := fun q => h ⟨rfl, q⟩; simp [cO, sG, sGu, sL, h2]
  | (_ + 8) => fun _ => rfl)
theorem pf_X8_heardMany (hx : p.tables.exec = Jvm.exec) (hb : c.code = cc) (hts : ∀ q ∈ Ts, q.before args s = true) (hown : s.vm.findClass own = some m.cls) (hW : sW w D Y A σ s H0 H locs) (hk : (0, 7, 0) ∈ kS w) (hin : ∀ q ∈ wsX80, q ∈ Ts) {index : Nat} (hlink : Cond.fieldLink own index "SoldStopsModel" "heardMany" "I" ∈ Ts) {v : Int32} (hdg : decode cc pc = .ok (.putfield index, 3)) (kk : ∀ (H1 : Heap) (locs1 : List Loc), sW w D Y A (sGu σ 22 0 v) s H0 H1 locs1 → W p l e R s m args below meth c H1 locs1 cells slots Q (F0 m (pc + 3) ls rest)) : W p l e R s m args below meth c H locs cells slots Q (F0 m pc ls (.int v :: .ref (A 0 7 0) :: rest)) :=
  rp (ty := .int) hx hb hts hown hW hk hin tyX8 tyX8_ok nmX8 rfl 9 (by decide) hlink rfl (by decide +kernel) rfl rfl (by simp [cO]) (by simp [cO, sG, sGu, sL]) (cgf_X8_heardMany rfl) hdg kk
theorem gf_X8_heards (hx : p.tables.exec = Jvm.exec) (hb : c.code = cc) (hts : ∀ q ∈ Ts, q.before args s = true) (hown : s.vm.findClass own = some m.cls) (hW : sW w D Y A σ s H0 H locs) (hk : (0, 7, 0) ∈ kS w) (hin : ∀ q ∈ wsX80, q ∈ Ts) {index : Nat} (hlink : Cond.fieldLink own index "SoldStopsModel" "heards" "[I" ∈ Ts) (hdg : decode cc pc = .ok (.getfield index, 3)) (kk : W p l e R s m args below meth c H locs cells slots Q (F0 m (pc + 3) ls (.ref (A 1 20 0) :: rest))) : W p l e R s m args below meth c H locs cells slots Q (F0 m pc ls (.ref (A 0 7 0) :: rest)) := rg hx hb hts hown hW hk hin rfl 10 (by decide) hlink rfl hdg kk
theorem gf_X8_text (hx : p.tables.exec = Jvm.exec) (hb : c.code = cc) (hts : ∀ q ∈ Ts, q.before args s = true) (hown : s.vm.findClass own = some m.cls) (hW : sW w D Y A σ s H0 H locs) (hk : (0, 7, 0) ∈ kS w) (hin : ∀ q ∈ wsX80, q ∈ Ts) {index : Nat} (hlink : Cond.fieldLink own index "SoldStopsModel" "text" "[I" ∈ Ts) (hdg : decode cc pc = .ok (.getfield index, 3)) (kk : W p l e R s m args below meth c H locs cells slots Q (F0 m (pc + 3) ls (.ref (A 1 21 0) :: rest))) : W p l e R s m args below meth c H locs cells slots Q (F0 m pc ls (.ref (A 0 7 0) :: rest)) := rg hx hb hts hown hW hk hin rfl 11 (by decide) hlink rfl hdg kk
theorem gf_X8_typed (hx : p.tables.exec = Jvm.exec) (hb : c.code = cc) (hts : ∀ q ∈ Ts, q.before args s = true) (hown : s.vm.findClass own = some m.cls) (hW : sW w D Y A σ s H0 H locs) (hk : (0, 7, 0) ∈ kS w) (hin : ∀ q ∈ wsX80, q ∈ Ts) {index : Nat} (hlink : Cond.fieldLink own index "SoldStopsModel" "typed" "I" ∈ Ts) (hdg : decode cc pc = .ok (.getfield index, 3)) (kk : W p l e R s m args below meth c H locs cells slots Q (F0 m (pc + 3) ls (.int (sG σ 23 0) :: rest))) : W p l e R s m args below meth c H locs cells slots Q (F0 m pc ls (.ref (A 0 7 0) :: rest)) := rg hx hb hts hown hW hk hin rfl 12 (by decide) hlink rfl hdg kk
theorem cgf_X8_typed {v : Int32} {o : Nat} (h0 : o = 0) : ∀ j ∈ kS w, j ≠ (0, 7, o) → cE Y A (sGu σ 23 o v) j = cE Y A σ j := cg_O (fun c' o' => match c' with
  | 0 => fun _ => rfl
  | 1 => fun _ => rfl
  | 2 => fun _ => rfl
  | 3 => fun _ => rfl
  | 4 => fun _ => rfl
  | 5 => fun _ => rfl
  | 6 => fun _ => rfl
  | 7 => fun h => by have h2 : ¬ o' = o := fun q => h ⟨rfl, q⟩; simp [cO, sG, sGu, sL, h2]
  | (_ + 8) => fun _ => rfl)
theorem pf_X8_typed (hx : p.tables.exec = Jvm.exec) (hb : c.code = cc) (hts : ∀ q ∈ Ts, q.before args s = true) (hown : s.vm.findClass own = some m.cls) (hW : sW w D Y A σ s H0 H locs) (hk : (0, 7, 0) ∈ kS w) (hin : ∀ q ∈ wsX80, q ∈ Ts) {index : Nat} (hlink : Cond.fieldLink own index "SoldStopsModel" "typed" "I" ∈ Ts) {v : Int32} (hdg : decode cc pc = .ok (.putfield index, 3)) (kk : ∀ (H1 : Heap) (locs1 : List Loc), sW w D Y A (sGu σ 23 0 v) s H0 H1 locs1 → W p l e R s m args below meth c H1 locs1 cells slots Q (F0 m (pc + 3) ls rest)) : W p l e R s m args below meth c H locs cells slots Q (F0 m pc ls (.int v :: .ref (A 0 7 0) :: rest)) :=
  rp (ty := .int) hx hb hts hown hW hk hin tyX8 tyX8_ok nmX8 rfl 12 (by decide) hlink rfl (by decide +kernel) rfl rfl (by simp [cO]) (by simp [cO, sG, sGu, sL]) (cgf_X8_typed rfl) hdg kk
theorem gf_X8_readAt (hx : p.tables.exec = Jvm.exec) (hb : c.code = cc) (hts : ∀ q ∈ Ts, q.before args s = true) (hown : s.vm.findClass own = some m.cls) (hW : sW w D Y A σ s H0 H locs) (hk : (0, 7, 0) ∈ kS w) (hin : ∀ q ∈ wsX80, q ∈ Ts) {index : Nat} (hlink : Cond.fieldLink own index "SoldStopsModel" "readAt" "I" ∈ Ts) (hdg : decode cc pc = .ok (.getfield index, 3)) (kk : W p l e R s m args below meth c H locs cells slots Q (F0 m (pc + 3) ls (.int (sG σ 24 0) :: rest))) : W p l e R s m args below meth c H locs cells slots Q (F0 m pc ls (.ref (A 0 7 0) :: rest)) := rg hx hb hts hown hW hk hin rfl 13 (by decide) hlink rfl hdg kk
theorem cgf_X8_readAt {v : Int32} {o : Nat} (h0 : o = 0) : ∀ j ∈ kS w, j ≠ (0, 7, o) → cE Y A (sGu σ 24 o v) j = cE Y A σ j := cg_O (fun c' o' => match c' with
  | 0 => fun _ => rfl
  | 1 => fun _ => rfl
  | 2 => fun _ => rfl
  | 3 => fun _ => rfl
  | 4 => fun _ => rfl
  | 5 => fun _ => rfl
  | 6 => fun _ => rfl
  | 7 => fun h => by have h2 : ¬ o' = o := fun q => h ⟨rfl, q⟩; simp [cO, sG, sGu, sL, h2]
  | (_ + 8) => fun _ => rfl)
theorem pf_X8_readAt (hx : p.tables.exec = Jvm.exec) (hb : c.code = cc) (hts : ∀ q ∈ Ts, q.before args s = true) (hown : s.vm.findClass own = some m.cls) (hW : sW w D Y A σ s H0 H locs) (hk : (0, 7, 0) ∈ kS w) (hin : ∀ q ∈ wsX80, q ∈ Ts) {index : Nat} (hlink : Cond.fieldLink own index "SoldStopsModel" "readAt" "I" ∈ Ts) {v : Int32} (hdg : decode cc pc = .ok (.putfield index, 3)) (kk : ∀ (H1 : Heap) (locs1 : List Loc), sW w D Y A (sGu σ 24 0 v) s H0 H1 locs1 → W p l e R s m args below meth c H1 locs1 cells slots Q (F0 m (pc + 3) ls rest)) : W p l e R s m args below meth c H locs cells slots Q (F0 m pc ls (.int v :: .ref (A 0 7 0) :: rest)) :=
  rp (ty := .int) hx hb hts hown hW hk hin tyX8 tyX8_ok nmX8 rfl 13 (by decide) hlink rfl (by decide +kernel) rfl rfl (by simp [cO]) (by simp [cO, sG, sGu, sL]) (cgf_X8_readAt rfl) hdg kk
theorem gf_X8_readNumber (hx : p.tables.exec = Jvm.exec) (hb : c.code = cc) (hts : ∀ q ∈ Ts, q.before args s = true) (hown : s.vm.findClass own = some m.cls) (hW : sW w D Y A σ s H0 H locs) (hk : (0, 7, 0) ∈ kS w) (hin : ∀ q ∈ wsX80, q ∈ Ts) {index : Nat} (hlink : Cond.fieldLink own index "SoldStopsModel" "readNumber" "I" ∈ Ts) (hdg : decode cc pc = .ok (.getfield index, 3)) (kk : W p l e R s m args below meth c H locs cells slots Q (F0 m (pc + 3) ls (.int (sG σ 25 0) :: rest))) : W p l e R s m args below meth c H locs cells slots Q (F0 m pc ls (.ref (A 0 7 0) :: rest)) := rg hx hb hts hown hW hk hin rfl 14 (by decide) hlink rfl hdg kk
theorem cgf_X8_readNumber {v : Int32} {o : Nat} (h0 : o = 0) : ∀ j ∈ kS w, j ≠ (0, 7, o) → cE Y A (sGu σ 25 o v) j = cE Y A σ j := cg_O (fun c' o' => match c' with
  | 0 => fun _ => rfl
  | 1 => fun _ => rfl
  | 2 => fun _ => rfl
  | 3 => fun _ => rfl
  | 4 => fun _ => rfl
  | 5 => fun _ => rfl
  | 6 => fun _ => rfl
  | 7 => fun h => by have h2 : ¬ o' = o := fun q => h ⟨rfl, q⟩; simp [cO, sG, sGu, sL, h2]
  | (_ + 8) => fun _ => rfl)
theorem pf_X8_readNumber (hx : p.tables.exec = Jvm.exec) (hb : c.code = cc) (hts : ∀ q ∈ Ts, q.before args s = true) (hown : s.vm.findClass own = some m.cls) (hW : sW w D Y A σ s H0 H locs) (hk : (0, 7, 0) ∈ kS w) (hin : ∀ q ∈ wsX80, q ∈ Ts) {index : Nat} (hlink : Cond.fieldLink own index "SoldStopsModel" "readNumber" "I" ∈ Ts) {v : Int32} (hdg : decode cc pc = .ok (.putfield index, 3)) (kk : ∀ (H1 : Heap) (locs1 : List Loc), sW w D Y A (sGu σ 25 0 v) s H0 H1 locs1 → W p l e R s m args below meth c H1 locs1 cells slots Q (F0 m (pc + 3) ls rest)) : W p l e R s m args below meth c H locs cells slots Q (F0 m pc ls (.int v :: .ref (A 0 7 0) :: rest)) :=
  rp (ty := .int) hx hb hts hown hW hk hin tyX8 tyX8_ok nmX8 rfl 14 (by decide) hlink rfl (by decide +kernel) rfl rfl (by simp [cO]) (by simp [cO, sG, sGu, sL]) (cgf_X8_readNumber rfl) hdg kk
theorem gf_X8_itemMany (hx : p.tables.exec = Jvm.exec) (hb : c.code = cc) (hts : ∀ q ∈ Ts, q.before args s = true) (hown : s.vm.findClass own = some m.cls) (hW : sW w D Y A σ s H0 H locs) (hk : (0, 7, 0) ∈ kS w) (hin : ∀ q ∈ wsX80, q ∈ Ts) {index : Nat} (hlink : Cond.fieldLink own index "SoldStopsModel" "itemMany" "I" ∈ Ts) (hdg : decode cc pc = .ok (.getfield index, 3)) (kk : W p l e R s m args below meth c H locs cells slots Q (F0 m (pc + 3) ls (.int (sG σ 26 0) :: rest))) : W p l e R s m args below meth c H locs cells slots Q (F0 m pc ls (.ref (A 0 7 0) :: rest)) := rg hx hb hts hown hW hk hin rfl 15 (by decide) hlink rfl hdg kk
theorem cgf_X8_itemMany {v : Int32} {o : Nat} (h0 : o = 0) : ∀ j ∈ kS w, j ≠ (0, 7, o) → cE Y A (sGu σ 26 o v) j = cE Y A σ j := cg_O (fun c' o' => match c' with
  | 0 => fun _ => rfl
  | 1 => fun _ => rfl
  | 2 => fun _ => rfl
  | 3 => fun _ => rfl
  | 4 => fun _ => rfl
  | 5 => fun _ => rfl
  | 6 => fun _ => rfl
  | 7 => fun h => by have h2 : ¬ o' = o := fun q => h ⟨rfl, q⟩; simp [cO, sG, sGu, sL, h2]
  | (_ + 8) => fun _ => rfl)
theorem pf_X8_itemMany (hx : p.tables.exec = Jvm.exec) (hb : c.code = cc) (hts : ∀ q ∈ Ts, q.before args s = true) (hown : s.vm.findClass own = some m.cls) (hW : sW w D Y A σ s H0 H locs) (hk : (0, 7, 0) ∈ kS w) (hin : ∀ q ∈ wsX80, q ∈ Ts) {index : Nat} (hlink : Cond.fieldLink own index "SoldStopsModel" "itemMany" "I" ∈ Ts) {v : Int32} (hdg : decode cc pc = .ok (.putfield index, 3)) (kk : ∀ (H1 : Heap) (locs1 : List Loc), sW w D Y A (sGu σ 26 0 v) s H0 H1 locs1 → W p l e R s m args below meth c H1 locs1 cells slots Q (F0 m (pc + 3) ls rest)) : W p l e R s m args below meth c H locs cells slots Q (F0 m pc ls (.int v :: .ref (A 0 7 0) :: rest)) :=
  rp (ty := .int) hx hb hts hown hW hk hin tyX8 tyX8_ok nmX8 rfl 15 (by decide) hlink rfl (by decide +kernel) rfl rfl (by simp [cO]) (by simp [cO, sG, sGu, sL]) (cgf_X8_itemMany rfl) hdg kk
theorem gf_X8_items (hx : p.tables.exec = Jvm.exec) (hb : c.code = cc) (hts : ∀ q ∈ Ts, q.before args s = true) (hown : s.vm.findClass own = some m.cls) (hW : sW w D Y A σ s H0 H locs) (hk : (0, 7, 0) ∈ kS w) (hin : ∀ q ∈ wsX80, q ∈ Ts) {index : Nat} (hlink : Cond.fieldLink own index "SoldStopsModel" "items" "[I" ∈ Ts) (hdg : decode cc pc = .ok (.getfield index, 3)) (kk : W p l e R s m args below meth c H locs cells slots Q (F0 m (pc + 3) ls (.ref (A 1 22 0) :: rest))) : W p l e R s m args below meth c H locs cells slots Q (F0 m pc ls (.ref (A 0 7 0) :: rest)) := rg hx hb hts hown hW hk hin rfl 16 (by decide) hlink rfl hdg kk
theorem gf_X8_ahead (hx : p.tables.exec = Jvm.exec) (hb : c.code = cc) (hts : ∀ q ∈ Ts, q.before args s = true) (hown : s.vm.findClass own = some m.cls) (hW : sW w D Y A σ s H0 H locs) (hk : (0, 7, 0) ∈ kS w) (hin : ∀ q ∈ wsX80, q ∈ Ts) {index : Nat} (hlink : Cond.fieldLink own index "SoldStopsModel" "ahead" "[I" ∈ Ts) (hdg : decode cc pc = .ok (.getfield index, 3)) (kk : W p l e R s m args below meth c H locs cells slots Q (F0 m (pc + 3) ls (.ref (A 1 23 0) :: rest))) : W p l e R s m args below meth c H locs cells slots Q (F0 m pc ls (.ref (A 0 7 0) :: rest)) := rg hx hb hts hown hW hk hin rfl 17 (by decide) hlink rfl hdg kk
theorem gf_X8_undoMany (hx : p.tables.exec = Jvm.exec) (hb : c.code = cc) (hts : ∀ q ∈ Ts, q.before args s = true) (hown : s.vm.findClass own = some m.cls) (hW : sW w D Y A σ s H0 H locs) (hk : (0, 7, 0) ∈ kS w) (hin : ∀ q ∈ wsX80, q ∈ Ts) {index : Nat} (hlink : Cond.fieldLink own index "SoldStopsModel" "undoMany" "I" ∈ Ts) (hdg : decode cc pc = .ok (.getfield index, 3)) (kk : W p l e R s m args below meth c H locs cells slots Q (F0 m (pc + 3) ls (.int (sG σ 27 0) :: rest))) : W p l e R s m args below meth c H locs cells slots Q (F0 m pc ls (.ref (A 0 7 0) :: rest)) := rg hx hb hts hown hW hk hin rfl 18 (by decide) hlink rfl hdg kk
theorem cgf_X8_undoMany {v : Int32} {o : Nat} (h0 : o = 0) : ∀ j ∈ kS w, j ≠ (0, 7, o) → cE Y A (sGu σ 27 o v) j = cE Y A σ j := cg_O (fun c' o' => match c' with
  | 0 => fun _ => rfl
  | 1 => fun _ => rfl
  | 2 => fun _ => rfl
  | 3 => fun _ => rfl
  | 4 => fun _ => rfl
  | 5 => fun _ => rfl
  | 6 => fun _ => rfl
  | 7 => fun h => by have h2 : ¬ o' = o := fun q => h ⟨rfl, q⟩; simp [cO, sG, sGu, sL, h2]
  | (_ + 8) => fun _ => rfl)
theorem pf_X8_undoMany (hx : p.tables.exec = Jvm.exec) (hb : c.code = cc) (hts : ∀ q ∈ Ts, q.before args s = true) (hown : s.vm.findClass own = some m.cls) (hW : sW w D Y A σ s H0 H locs) (hk : (0, 7, 0) ∈ kS w) (hin : ∀ q ∈ wsX80, q ∈ Ts) {index : Nat} (hlink : Cond.fieldLink own index "SoldStopsModel" "undoMany" "I" ∈ Ts) {v : Int32} (hdg : decode cc pc = .ok (.putfield index, 3)) (kk : ∀ (H1 : Heap) (locs1 : List Loc), sW w D Y A (sGu σ 27 0 v) s H0 H1 locs1 → W p l e R s m args below meth c H1 locs1 cells slots Q (F0 m (pc + 3) ls rest)) : W p l e R s m args below meth c H locs cells slots Q (F0 m pc ls (.int v :: .ref (A 0 7 0) :: rest)) :=
  rp (ty := .int) hx hb hts hown hW hk hin tyX8 tyX8_ok nmX8 rfl 18 (by decide) hlink rfl (by decide +kernel) rfl rfl (by simp [cO]) (by simp [cO, sG, sGu, sL]) (cgf_X8_undoMany rfl) hdg kk
theorem gf_X8_least (hx : p.tables.exec = Jvm.exec) (hb : c.code = cc) (hts : ∀ q ∈ Ts, q.before args s = true) (hown : s.vm.findClass own = some m.cls) (hW : sW w D Y A σ s H0 H locs) (hk : (0, 7, 0) ∈ kS w) (hin : ∀ q ∈ wsX80, q ∈ Ts) {index : Nat} (hlink : Cond.fieldLink own index "SoldStopsModel" "least" "[I" ∈ Ts) (hdg : decode cc pc = .ok (.getfield index, 3)) (kk : W p l e R s m args below meth c H locs cells slots Q (F0 m (pc + 3) ls (.ref (A 1 24 0) :: rest))) : W p l e R s m args below meth c H locs cells slots Q (F0 m pc ls (.ref (A 0 7 0) :: rest)) := rg hx hb hts hown hW hk hin rfl 19 (by decide) hlink rfl hdg kk
theorem gf_X8_bought (hx : p.tables.exec = Jvm.exec) (hb : c.code = cc) (hts : ∀ q ∈ Ts, q.before args s = true) (hown : s.vm.findClass own = some m.cls) (hW : sW w D Y A σ s H0 H locs) (hk : (0, 7, 0) ∈ kS w) (hin : ∀ q ∈ wsX80, q ∈ Ts) {index : Nat} (hlink : Cond.fieldLink own index "SoldStopsModel" "bought" "[I" ∈ Ts) (hdg : decode cc pc = .ok (.getfield index, 3)) (kk : W p l e R s m args below meth c H locs cells slots Q (F0 m (pc + 3) ls (.ref (A 1 25 0) :: rest))) : W p l e R s m args below meth c H locs cells slots Q (F0 m pc ls (.ref (A 0 7 0) :: rest)) := rg hx hb hts hown hW hk hin rfl 20 (by decide) hlink rfl hdg kk
theorem gf_X8_paid (hx : p.tables.exec = Jvm.exec) (hb : c.code = cc) (hts : ∀ q ∈ Ts, q.before args s = true) (hown : s.vm.findClass own = some m.cls) (hW : sW w D Y A σ s H0 H locs) (hk : (0, 7, 0) ∈ kS w) (hin : ∀ q ∈ wsX80, q ∈ Ts) {index : Nat} (hlink : Cond.fieldLink own index "SoldStopsModel" "paid" "[I" ∈ Ts) (hdg : decode cc pc = .ok (.getfield index, 3)) (kk : W p l e R s m args below meth c H locs cells slots Q (F0 m (pc + 3) ls (.ref (A 1 26 0) :: rest))) : W p l e R s m args below meth c H locs cells slots Q (F0 m pc ls (.ref (A 0 7 0) :: rest)) := rg hx hb hts hown hW hk hin rfl 21 (by decide) hlink rfl hdg kk
theorem gf_X8_then (hx : p.tables.exec = Jvm.exec) (hb : c.code = cc) (hts : ∀ q ∈ Ts, q.before args s = true) (hown : s.vm.findClass own = some m.cls) (hW : sW w D Y A σ s H0 H locs) (hk : (0, 7, 0) ∈ kS w) (hin : ∀ q ∈ wsX80, q ∈ Ts) {index : Nat} (hlink : Cond.fieldLink own index "SoldStopsModel" "then" "[I" ∈ Ts) (hdg : decode cc pc = .ok (.getfield index, 3)) (kk : W p l e R s m args below meth c H locs cells slots Q (F0 m (pc + 3) ls (.ref (A 1 27 0) :: rest))) : W p l e R s m args below meth c H locs cells slots Q (F0 m pc ls (.ref (A 0 7 0) :: rest)) := rg hx hb hts hown hW hk hin rfl 22 (by decide) hlink rfl hdg kk
theorem gf_X8_line (hx : p.tables.exec = Jvm.exec) (hb : c.code = cc) (hts : ∀ q ∈ Ts, q.before args s = true) (hown : s.vm.findClass own = some m.cls) (hW : sW w D Y A σ s H0 H locs) (hk : (0, 7, 0) ∈ kS w) (hin : ∀ q ∈ wsX80, q ∈ Ts) {index : Nat} (hlink : Cond.fieldLink own index "SoldStopsModel" "line" "[I" ∈ Ts) (hdg : decode cc pc = .ok (.getfield index, 3)) (kk : W p l e R s m args below meth c H locs cells slots Q (F0 m (pc + 3) ls (.ref (A 1 28 0) :: rest))) : W p l e R s m args below meth c H locs cells slots Q (F0 m pc ls (.ref (A 0 7 0) :: rest)) := rg hx hb hts hown hW hk hin rfl 23 (by decide) hlink rfl hdg kk
theorem gf_X8_bestLine (hx : p.tables.exec = Jvm.exec) (hb : c.code = cc) (hts : ∀ q ∈ Ts, q.before args s = true) (hown : s.vm.findClass own = some m.cls) (hW : sW w D Y A σ s H0 H locs) (hk : (0, 7, 0) ∈ kS w) (hin : ∀ q ∈ wsX80, q ∈ Ts) {index : Nat} (hlink : Cond.fieldLink own index "SoldStopsModel" "bestLine" "[I" ∈ Ts) (hdg : decode cc pc = .ok (.getfield index, 3)) (kk : W p l e R s m args below meth c H locs cells slots Q (F0 m (pc + 3) ls (.ref (A 1 29 0) :: rest))) : W p l e R s m args below meth c H locs cells slots Q (F0 m pc ls (.ref (A 0 7 0) :: rest)) := rg hx hb hts hown hW hk hin rfl 24 (by decide) hlink rfl hdg kk
theorem gf_X8_groups (hx : p.tables.exec = Jvm.exec) (hb : c.code = cc) (hts : ∀ q ∈ Ts, q.before args s = true) (hown : s.vm.findClass own = some m.cls) (hW : sW w D Y A σ s H0 H locs) (hk : (0, 7, 0) ∈ kS w) (hin : ∀ q ∈ wsX80, q ∈ Ts) {index : Nat} (hlink : Cond.fieldLink own index "SoldStopsModel" "groups" "[I" ∈ Ts) (hdg : decode cc pc = .ok (.getfield index, 3)) (kk : W p l e R s m args below meth c H locs cells slots Q (F0 m (pc + 3) ls (.ref (A 1 30 0) :: rest))) : W p l e R s m args below meth c H locs cells slots Q (F0 m pc ls (.ref (A 0 7 0) :: rest)) := rg hx hb hts hown hW hk hin rfl 25 (by decide) hlink rfl hdg kk
theorem gf_X8_above (hx : p.tables.exec = Jvm.exec) (hb : c.code = cc) (hts : ∀ q ∈ Ts, q.before args s = true) (hown : s.vm.findClass own = some m.cls) (hW : sW w D Y A σ s H0 H locs) (hk : (0, 7, 0) ∈ kS w) (hin : ∀ q ∈ wsX80, q ∈ Ts) {index : Nat} (hlink : Cond.fieldLink own index "SoldStopsModel" "above" "J" ∈ Ts) (hdg : decode cc pc = .ok (.getfield index, 3)) (kk : W p l e R s m args below meth c H locs cells slots Q (F0 m (pc + 3) ls (.long (sL σ 2) :: rest))) : W p l e R s m args below meth c H locs cells slots Q (F0 m pc ls (.ref (A 0 7 0) :: rest)) := rg hx hb hts hown hW hk hin rfl 26 (by decide) hlink rfl hdg kk
theorem pf_X8_above (hx : p.tables.exec = Jvm.exec) (hb : c.code = cc) (hts : ∀ q ∈ Ts, q.before args s = true) (hown : s.vm.findClass own = some m.cls) (hW : sW w D Y A σ s H0 H locs) (hk : (0, 7, 0) ∈ kS w) (hin : ∀ q ∈ wsX80, q ∈ Ts) {index : Nat} (hlink : Cond.fieldLink own index "SoldStopsModel" "above" "J" ∈ Ts) {v : Int64} (hdg : decode cc pc = .ok (.putfield index, 3)) (kk : ∀ (H1 : Heap) (locs1 : List Loc), sW w D Y A (sLu σ 2 v) s H0 H1 locs1 → W p l e R s m args below meth c H1 locs1 cells slots Q (F0 m (pc + 3) ls rest)) : W p l e R s m args below meth c H locs cells slots Q (F0 m pc ls (.long v :: .ref (A 0 7 0) :: rest)) :=
  rp (ty := .long) hx hb hts hown hW hk hin tyX8 tyX8_ok nmX8 rfl 26 (by decide) hlink rfl (by decide +kernel) rfl rfl (by simp [cO]) (by simp [cO, sL, sLu, sG]) (cg_J (fun c' o' => match c' with
  | 0 => fun h => rfl
  | 1 => fun h => rfl
  | 2 => fun h => rfl
  | 3 => fun h => rfl
  | 4 => fun h => rfl
  | 5 => fun h => rfl
  | 6 => fun h => rfl
  | 7 => fun h => absurd rfl h
  | (_ + 8) => fun _ => rfl) (fun o h => o1 h (by decide))) hdg kk
theorem gf_X8_below (hx : p.tables.exec = Jvm.exec) (hb : c.code = cc) (hts : ∀ q ∈ Ts, q.before args s = true) (hown : s.vm.findClass own = some m.cls) (hW : sW w D Y A σ s H0 H locs) (hk : (0, 7, 0) ∈ kS w) (hin : ∀ q ∈ wsX80, q ∈ Ts) {index : Nat} (hlink : Cond.fieldLink own index "SoldStopsModel" "below" "J" ∈ Ts) (hdg : decode cc pc = .ok (.getfield index, 3)) (kk : W p l e R s m args below meth c H locs cells slots Q (F0 m (pc + 3) ls (.long (sL σ 3) :: rest))) : W p l e R s m args below meth c H locs cells slots Q (F0 m pc ls (.ref (A 0 7 0) :: rest)) := rg hx hb hts hown hW hk hin rfl 27 (by decide) hlink rfl hdg kk
theorem pf_X8_below (hx : p.tables.exec = Jvm.exec) (hb : c.code = cc) (hts : ∀ q ∈ Ts, q.before args s = true) (hown : s.vm.findClass own = some m.cls) (hW : sW w D Y A σ s H0 H locs) (hk : (0, 7, 0) ∈ kS w) (hin : ∀ q ∈ wsX80, q ∈ Ts) {index : Nat} (hlink : Cond.fieldLink own index "SoldStopsModel" "below" "J" ∈ Ts) {v : Int64} (hdg : decode cc pc = .ok (.putfield index, 3)) (kk : ∀ (H1 : Heap) (locs1 : List Loc), sW w D Y A (sLu σ 3 v) s H0 H1 locs1 → W p l e R s m args below meth c H1 locs1 cells slots Q (F0 m (pc + 3) ls rest)) : W p l e R s m args below meth c H locs cells slots Q (F0 m pc ls (.long v :: .ref (A 0 7 0) :: rest)) :=
  rp (ty := .long) hx hb hts hown hW hk hin tyX8 tyX8_ok nmX8 rfl 27 (by decide) hlink rfl (by decide +kernel) rfl rfl (by simp [cO]) (by simp [cO, sL, sLu, sG]) (cg_J (fun c' o' => match c' with
  | 0 => fun h => rfl
  | 1 => fun h => rfl
  | 2 => fun h => rfl
  | 3 => fun h => rfl
  | 4 => fun h => rfl
  | 5 => fun h => rfl
  | 6 => fun h => rfl
  | 7 => fun h => absurd rfl h
  | (_ + 8) => fun _ => rfl) (fun o h => o1 h (by decide))) hdg kk
theorem gf_X8_ways (hx : p.tables.exec = Jvm.exec) (hb : c.code = cc) (hts : ∀ q ∈ Ts, q.before args s = true) (hown : s.vm.findClass own = some m.cls) (hW : sW w D Y A σ s H0 H locs) (hk : (0, 7, 0) ∈ kS w) (hin : ∀ q ∈ wsX80, q ∈ Ts) {index : Nat} (hlink : Cond.fieldLink own index "SoldStopsModel" "ways" "[J" ∈ Ts) (hdg : decode cc pc = .ok (.getfield index, 3)) (kk : W p l e R s m args below meth c H locs cells slots Q (F0 m (pc + 3) ls (.ref (A 3 2 0) :: rest))) : W p l e R s m args below meth c H locs cells slots Q (F0 m pc ls (.ref (A 0 7 0) :: rest)) := rg hx hb hts hown hW hk hin rfl 28 (by decide) hlink rfl hdg kk
theorem gf_X8_waysThen (hx : p.tables.exec = Jvm.exec) (hb : c.code = cc) (hts : ∀ q ∈ Ts, q.before args s = true) (hown : s.vm.findClass own = some m.cls) (hW : sW w D Y A σ s H0 H locs) (hk : (0, 7, 0) ∈ kS w) (hin : ∀ q ∈ wsX80, q ∈ Ts) {index : Nat} (hlink : Cond.fieldLink own index "SoldStopsModel" "waysThen" "[J" ∈ Ts) (hdg : decode cc pc = .ok (.getfield index, 3)) (kk : W p l e R s m args below meth c H locs cells slots Q (F0 m (pc + 3) ls (.ref (A 3 3 0) :: rest))) : W p l e R s m args below meth c H locs cells slots Q (F0 m pc ls (.ref (A 0 7 0) :: rest)) := rg hx hb hts hown hW hk hin rfl 29 (by decide) hlink rfl hdg kk
theorem gf_X8_images (hx : p.tables.exec = Jvm.exec) (hb : c.code = cc) (hts : ∀ q ∈ Ts, q.before args s = true) (hown : s.vm.findClass own = some m.cls) (hW : sW w D Y A σ s H0 H locs) (hk : (0, 7, 0) ∈ kS w) (hin : ∀ q ∈ wsX80, q ∈ Ts) {index : Nat} (hlink : Cond.fieldLink own index "SoldStopsModel" "images" "[I" ∈ Ts) (hdg : decode cc pc = .ok (.getfield index, 3)) (kk : W p l e R s m args below meth c H locs cells slots Q (F0 m (pc + 3) ls (.ref (A 1 31 0) :: rest))) : W p l e R s m args below meth c H locs cells slots Q (F0 m pc ls (.ref (A 0 7 0) :: rest)) := rg hx hb hts hown hW hk hin rfl 30 (by decide) hlink rfl hdg kk
theorem gf_X8_h0 (hx : p.tables.exec = Jvm.exec) (hb : c.code = cc) (hts : ∀ q ∈ Ts, q.before args s = true) (hown : s.vm.findClass own = some m.cls) (hW : sW w D Y A σ s H0 H locs) (hk : (0, 7, 0) ∈ kS w) (hin : ∀ q ∈ wsX80, q ∈ Ts) {index : Nat} (hlink : Cond.fieldLink own index "SoldStopsModel" "h0" "J" ∈ Ts) (hdg : decode cc pc = .ok (.getfield index, 3)) (kk : W p l e R s m args below meth c H locs cells slots Q (F0 m (pc + 3) ls (.long (sL σ 4) :: rest))) : W p l e R s m args below meth c H locs cells slots Q (F0 m pc ls (.ref (A 0 7 0) :: rest)) := rg hx hb hts hown hW hk hin rfl 31 (by decide) hlink rfl hdg kk
theorem pf_X8_h0 (hx : p.tables.exec = Jvm.exec) (hb : c.code = cc) (hts : ∀ q ∈ Ts, q.before args s = true) (hown : s.vm.findClass own = some m.cls) (hW : sW w D Y A σ s H0 H locs) (hk : (0, 7, 0) ∈ kS w) (hin : ∀ q ∈ wsX80, q ∈ Ts) {index : Nat} (hlink : Cond.fieldLink own index "SoldStopsModel" "h0" "J" ∈ Ts) {v : Int64} (hdg : decode cc pc = .ok (.putfield index, 3)) (kk : ∀ (H1 : Heap) (locs1 : List Loc), sW w D Y A (sLu σ 4 v) s H0 H1 locs1 → W p l e R s m args below meth c H1 locs1 cells slots Q (F0 m (pc + 3) ls rest)) : W p l e R s m args below meth c H locs cells slots Q (F0 m pc ls (.long v :: .ref (A 0 7 0) :: rest)) :=
  rp (ty := .long) hx hb hts hown hW hk hin tyX8 tyX8_ok nmX8 rfl 31 (by decide) hlink rfl (by decide +kernel) rfl rfl (by simp [cO]) (by simp [cO, sL, sLu, sG]) (cg_J (fun c' o' => match c' with
  | 0 => fun h => rfl
  | 1 => fun h => rfl
  | 2 => fun h => rfl
  | 3 => fun h => rfl
  | 4 => fun h => rfl
  | 5 => fun h => rfl
  | 6 => fun h => rfl
  | 7 => fun h => absurd rfl h
  | (_ + 8) => fun _ => rfl) (fun o h => o1 h (by decide))) hdg kk
theorem ra_i (hx : p.tables.exec = Jvm.exec) (hb : c.code = cc) (hW : sW w D Y A σ s H0 H locs) {k o : Nat} (hk : (1, k, o) ∈ kS w) {i : Int32} (hg : gd i (alen k) = true) (hdg : decode cc pc = .ok (.iaload, 1)) (kk : W p l e R s m args below meth c H locs cells slots Q (F0 m (pc + 1) ls (.int (sA σ k o i.toNatClampNeg) :: rest))) : W p l e R s m args below meth c H locs cells slots Q (F0 m pc ls (.int i :: .ref (A 1 k o) :: rest)) := by
  obtain ⟨q0, -, hq⟩ := ws_at (Y := Y) (A := A) σ hk
  exact va_iald hx hb hW.2.1 hW.2.2.1 q0 0 hq rfl (gd_in hg) hdg kk
theorem rs_i (hx : p.tables.exec = Jvm.exec) (hb : c.code = cc) (hW : sW w D Y A σ s H0 H locs) {k o : Nat} (hk : (1, k, o) ∈ kS w) {i v : Int32} (hg : gd i (alen k) = true) (hdg : decode cc pc = .ok (.iastore, 1)) (kk : ∀ (H1 : Heap) (locs1 : List Loc), sW w D Y A (sAu σ k o (upd (sA σ k o) i.toNatClampNeg v)) s H0 H1 locs1 → W p l e R s m args below meth c H1 locs1 cells slots Q (F0 m (pc + 1) ls rest)) : W p l e R s m args below meth c H locs cells slots Q (F0 m pc ls (.int v :: .int i :: .ref (A 1 k o) :: rest)) := by
  obtain ⟨q0, hqk, hq⟩ := ws_at (Y := Y) (A := A) σ hk
  refine va_iast hx hb hW.2.1 hW.2.2.1 (ws_D hW.1 Y σ) hW.2.2.2.1 q0 0 hq rfl (gd_in hg) hdg (fun H1 locs1 hP hD hS => kk H1 locs1 ⟨hW.1, hW.2.1, ?_, hS, hW.2.2.2.2⟩)
  rw [← ws_put (σ' := sAu σ k o (upd (sA σ k o) i.toNatClampNeg v)) hW.1.1 hqk rfl (cg_A hk _)]
  simpa [cE, cR, sAu, sA] using hP
theorem ra_z (hx : p.tables.exec = Jvm.exec) (hb : c.code = cc) (hW : sW w D Y A σ s H0 H locs) {k o : Nat} (hk : (2, k, o) ∈ kS w) {i : Int32} (hg : gd i (zlen k) = true) (hdg : decode cc pc = .ok (.baload, 1)) (kk : W p l e R s m args below meth c H locs cells slots Q (F0 m (pc + 1) ls (.int (sA σ (k + 100) o i.toNatClampNeg) :: rest))) : W p l e R s m args below meth c H locs cells slots Q (F0 m pc ls (.int i :: .ref (A 2 k o) :: rest)) := by
  obtain ⟨q0, -, hq⟩ := ws_at (Y := Y) (A := A) σ hk
  exact va_zald hx hb hW.2.1 hW.2.2.1 q0 2 hq rfl (gd_in hg) hdg kk
theorem rs_z (hx : p.tables.exec = Jvm.exec) (hb : c.code = cc) (hW : sW w D Y A σ s H0 H locs) {k o : Nat} (hk : (2, k, o) ∈ kS w) {i v : Int32} (hg : gd i (zlen k) = true) (hv : vp_nar .boolean v = v) (hdg : decode cc pc = .ok (.bastore, 1)) (kk : ∀ (H1 : Heap) (locs1 : List Loc), sW w D Y A (sAu σ (k + 100) o (upd (sA σ (k + 100) o) i.toNatClampNeg v)) s H0 H1 locs1 → W p l e R s m args below meth c H1 locs1 cells slots Q (F0 m (pc + 1) ls rest)) : W p l e R s m args below meth c H locs cells slots Q (F0 m pc ls (.int v :: .int i :: .ref (A 2 k o) :: rest)) := by
  obtain ⟨q0, hqk, hq⟩ := ws_at (Y := Y) (A := A) σ hk
  refine va_zast hx hb hW.2.1 hW.2.2.1 (ws_D hW.1 Y σ) hW.2.2.2.1 q0 2 hq rfl (gd_in hg) hdg (fun H1 locs1 hP hD hS => kk H1 locs1 ⟨hW.1, hW.2.1, ?_, hS, hW.2.2.2.2⟩)
  rw [hv] at hP
  rw [← ws_put (σ' := sAu σ (k + 100) o (upd (sA σ (k + 100) o) i.toNatClampNeg v)) hW.1.1 hqk rfl (cg_Z _)]
  simpa [cE, cR, sAu, sA] using hP
theorem ra_l (hx : p.tables.exec = Jvm.exec) (hb : c.code = cc) (hW : sW w D Y A σ s H0 H locs) {k : Nat} (hk : (3, k, 0) ∈ kS w) {i : Int32} (hg : gd i 31 = true) (hdg : decode cc pc = .ok (.laload, 1)) (kk : W p l e R s m args below meth c H locs cells slots Q (F0 m (pc + 1) ls (.long (sB σ k i.toNatClampNeg) :: rest))) : W p l e R s m args below meth c H locs cells slots Q (F0 m pc ls (.int i :: .ref (A 3 k 0) :: rest)) := by
  obtain ⟨q0, -, hq⟩ := ws_at (Y := Y) (A := A) σ hk
  exact va_lald hx hb hW.2.1 hW.2.2.1 q0 1 hq rfl (gd_in hg) hdg kk
theorem rs_l (hx : p.tables.exec = Jvm.exec) (hb : c.code = cc) (hW : sW w D Y A σ s H0 H locs) {k : Nat} (hk : (3, k, 0) ∈ kS w) {i : Int32} {v : Int64} (hg : gd i 31 = true) (hdg : decode cc pc = .ok (.lastore, 1)) (kk : ∀ (H1 : Heap) (locs1 : List Loc), sW w D Y A (sBu σ k (vp_updL (sB σ k) i.toNatClampNeg v)) s H0 H1 locs1 → W p l e R s m args below meth c H1 locs1 cells slots Q (F0 m (pc + 1) ls rest)) : W p l e R s m args below meth c H locs cells slots Q (F0 m pc ls (.long v :: .int i :: .ref (A 3 k 0) :: rest)) := by
  obtain ⟨q0, hqk, hq⟩ := ws_at (Y := Y) (A := A) σ hk
  refine va_last hx hb hW.2.1 hW.2.2.1 (ws_D hW.1 Y σ) hW.2.2.2.1 q0 1 hq rfl (gd_in hg) hdg (fun H1 locs1 hP hD hS => kk H1 locs1 ⟨hW.1, hW.2.1, ?_, hS, hW.2.2.2.2⟩)
  rw [← ws_put (σ' := sBu σ k (vp_updL (sB σ k) i.toNatClampNeg v)) hW.1.1 hqk rfl (cg_L _)]
  simpa [cE, cR, sBu, sB] using hP
theorem rl_i (hx : p.tables.exec = Jvm.exec) (hb : c.code = cc) (hW : sW w D Y A σ s H0 H locs) {k o : Nat} (hk : (1, k, o) ∈ kS w) {v : Int32} (hv : Int32.ofNat (alen k) = v) (hdg : decode cc pc = .ok (.arraylength, 1)) (kk : W p l e R s m args below meth c H locs cells slots Q (F0 m (pc + 1) ls (.int v :: rest))) : W p l e R s m args below meth c H locs cells slots Q (F0 m pc ls (.ref (A 1 k o) :: rest)) := by
  obtain ⟨q0, -, hq⟩ := ws_at (Y := Y) (A := A) σ hk
  exact va_alen hx hb hW.2.1 hW.2.2.1 q0 0 hq (ty := .int) rfl hv hdg kk
theorem rl_l (hx : p.tables.exec = Jvm.exec) (hb : c.code = cc) (hW : sW w D Y A σ s H0 H locs) {k : Nat} (hk : (3, k, 0) ∈ kS w) (hdg : decode cc pc = .ok (.arraylength, 1)) (kk : W p l e R s m args below meth c H locs cells slots Q (F0 m (pc + 1) ls (.int 31 :: rest))) : W p l e R s m args below meth c H locs cells slots Q (F0 m pc ls (.ref (A 3 k 0) :: rest)) := by
  obtain ⟨q0, -, hq⟩ := ws_at (Y := Y) (A := A) σ hk
  exact va_alen hx hb hW.2.1 hW.2.2.1 q0 1 hq (ty := .long) rfl rfl hdg kk
/-- a mark's object out of what may be undone -/
theorem ra_q (hx : p.tables.exec = Jvm.exec) (hb : c.code = cc) (hW : sW w D Y A σ s H0 H locs) {o : Nat} (hk : (4, 0, o) ∈ kS w) {i : Int32} (hg : gd i 8 = true) (hdg : decode cc pc = .ok (.aaload, 1)) (kk : W p l e R s m args below meth c H locs cells slots Q (F0 m (pc + 1) ls (.ref (A 0 1 (sR σ o i.toNatClampNeg)) :: rest))) : W p l e R s m args below meth c H locs cells slots Q (F0 m pc ls (.int i :: .ref (A 4 0 o) :: rest)) := by
  obtain ⟨q0, -, hq⟩ := ws_at (Y := Y) (A := A) σ hk
  exact va_aldq hx hb hW.2.1 hW.2.2.1 q0 3 hq rfl (gd_in hg) hdg kk
theorem ra_p (hx : p.tables.exec = Jvm.exec) (hb : c.code = cc) (hW : sW w D Y A σ s H0 H locs) (hk : (4, 1, 0) ∈ kS w) {i : Int32} (hg : gd i 2 = true) (hdg : decode cc pc = .ok (.aaload, 1)) (kk : W p l e R s m args below meth c H locs cells slots Q (F0 m (pc + 1) ls (.ref (A 0 3 (2 + i.toNatClampNeg)) :: rest))) : W p l e R s m args below meth c H locs cells slots Q (F0 m pc ls (.int i :: .ref (A 4 1 0) :: rest)) := by
  obtain ⟨q0, -, hq⟩ := ws_at (Y := Y) (A := A) σ hk
  exact va_aldq hx hb hW.2.1 hW.2.2.1 q0 4 hq rfl (gd_in hg) hdg kk
theorem aldg {cl : List vw_C} {tys : List (ClassId × FieldType)} {ws : va_W} {a : Nat} (hx : p.tables.exec = Jvm.exec) (hb : c.code = cc) (hK : va_K D cl tys s) (hP : va_P D cl ws H) (q0 t0 : Nat) {cA : ClassId} {ty : FieldType} {n : Nat} {f : Nat → Option Nat} (ha : ws[q0]? = some (a, .inl (cA, n, .inr (.inr (.inr (.inr f)))))) (ht : tys[t0]? = some (cA, .array ty)) {i : Int32} (hin : vp_in i n) (hdg : decode cc pc = .ok (.aaload, 1))
    (kk : W p l e R s m args below meth c H locs cells slots Q (F0 m (pc + 1) ls (va_rf (f i.toNatClampNeg) :: rest))) : W p l e R s m args below meth c H locs cells slots Q (F0 m pc ls (.int i :: .ref a :: rest)) := by
  have hlt : i.toNatClampNeg < n := Nat.not_le.mp fun q => hin (Or.inr q)
  exact W.aald (v := va_rf (f i.toNatClampNeg)) (ty := .array ty) hx hb (hP q0 _ ha) ((hK.2 t0 _ ht).1 n (fun j => va_rf (f j))) rfl (fun q => by cases q) (by show ¬ (i < 0 ∨ (arrV _ _ _).slots.size ≤ _); rw [arrV_size]; exact hin) (by show (arrV _ _ _).slots[_]? = _; rw [arrV_read _ _ hlt]) rfl rfl hdg kk
theorem ra_g2 (hx : p.tables.exec = Jvm.exec) (hb : c.code = cc) (hW : sW w D Y A σ s H0 H locs) (hk : (4, 2, 0) ∈ kS w) {i : Int32} (hg : gd i 13 = true) (hdg : decode cc pc = .ok (.aaload, 1)) (kk : W p l e R s m args below meth c H locs cells slots Q (F0 m (pc + 1) ls (.ref (A 1 6 i.toNatClampNeg) :: rest))) : W p l e R s m args below meth c H locs cells slots Q (F0 m pc ls (.int i :: .ref (A 4 2 0) :: rest)) := by
  obtain ⟨q0, -, hq⟩ := ws_at (Y := Y) (A := A) σ hk
  exact aldg hx hb hW.2.1 hW.2.2.1 q0 5 hq rfl (gd_in hg) hdg kk
theorem ra_g3 (hx : p.tables.exec = Jvm.exec) (hb : c.code = cc) (hW : sW w D Y A σ s H0 H locs) (hk : (4, 3, 0) ∈ kS w) {i : Int32} (hg : gd i 13 = true) (hdg : decode cc pc = .ok (.aaload, 1)) (kk : W p l e R s m args below meth c H locs cells slots Q (F0 m (pc + 1) ls (.ref (A 1 7 i.toNatClampNeg) :: rest))) : W p l e R s m args below meth c H locs cells slots Q (F0 m pc ls (.int i :: .ref (A 4 3 0) :: rest)) := by
  obtain ⟨q0, -, hq⟩ := ws_at (Y := Y) (A := A) σ hk
  exact aldg hx hb hW.2.1 hW.2.2.1 q0 5 hq rfl (gd_in hg) hdg kk
theorem ra_g4 (hx : p.tables.exec = Jvm.exec) (hb : c.code = cc) (hW : sW w D Y A σ s H0 H locs) (hk : (4, 4, 0) ∈ kS w) {i : Int32} (hg : gd i 12 = true) (hdg : decode cc pc = .ok (.aaload, 1)) (kk : W p l e R s m args below meth c H locs cells slots Q (F0 m (pc + 1) ls (.ref (A 1 8 i.toNatClampNeg) :: rest))) : W p l e R s m args below meth c H locs cells slots Q (F0 m pc ls (.int i :: .ref (A 4 4 0) :: rest)) := by
  obtain ⟨q0, -, hq⟩ := ws_at (Y := Y) (A := A) σ hk
  exact aldg hx hb hW.2.1 hW.2.2.1 q0 5 hq rfl (gd_in hg) hdg kk
theorem rs_q (hx : p.tables.exec = Jvm.exec) (hb : c.code = cc) (hW : sW w D Y A σ s H0 H locs) {o k : Nat} (hk : (4, 0, o) ∈ kS w) (hv : (0, 1, k) ∈ kS w) {i : Int32} (hg : gd i 8 = true) (hdg : decode cc pc = .ok (.aastore, 1)) (kk : ∀ (H1 : Heap) (locs1 : List Loc), sW w D Y A (sRu σ o (sUp (sR σ o) i.toNatClampNeg k)) s H0 H1 locs1 → W p l e R s m args below meth c H1 locs1 cells slots Q (F0 m (pc + 1) ls rest)) : W p l e R s m args below meth c H locs cells slots Q (F0 m pc ls (.ref (A 0 1 k) :: .int i :: .ref (A 4 0 o) :: rest)) := by
  obtain ⟨q0, hqk, hq⟩ := ws_at (Y := Y) (A := A) σ hk
  obtain ⟨q1, -, hq1⟩ := ws_at (Y := Y) (A := A) σ hv
  refine va_astq hx hb hW.2.1 hW.2.2.1 (ws_D hW.1 Y σ) hW.2.2.2.1 q0 3 q1 1 hq (r := (RX2, TX2, 4)) rfl hq1 rfl (gd_in hg) hdg (fun H1 locs1 hP hD hS => kk H1 locs1 ⟨hW.1, hW.2.1, ?_, hS, hW.2.2.2.2⟩)
  rw [← ws_put (σ' := sRu σ o (sUp (sR σ o) i.toNatClampNeg k)) hW.1.1 hqk rfl (cg_R _)]
  have : va_up (fun j => some (A 0 1 (sR σ o j))) i.toNatClampNeg (some (A 0 1 k)) = fun j => some (A 0 1 (sUp (sR σ o) i.toNatClampNeg k j)) := by
    funext j
    unfold va_up sUp
    by_cases hj : j = i.toNatClampNeg
    · rw [if_pos hj, if_pos hj]
    · rw [if_neg hj, if_neg hj]
  have e2 : cE Y A (sRu σ o (sUp (sR σ o) i.toNatClampNeg k)) (4, 0, o) = .inl (Y 3, 8, .inr (.inr (.inr (.inr (va_up (fun j => some (A 0 1 (sR σ o j))) i.toNatClampNeg (some (A 0 1 k))))))) := by
    rw [this, cE_r _ _ _ (by decide)]
    simp [cR, sRu]
  rw [e2]
  exact hP
theorem rcp (hx : p.tables.exec = Jvm.exec) (hb : c.code = cc) (hts : ∀ q ∈ Ts, q.before args s = true) (hown : s.vm.findClass own = some m.cls) (hml : c.maxLocals = ls.size) {index : Nat} (hlink : Cond.methodLink own index arraycopyName ∈ Ts) (hnat : Cond.native arraycopyName ∈ Ts) (hstat : Cond.static arraycopyName ∈ Ts) (hini : Cond.initialized "java/lang/System" ∈ Ts) (hW : sW w D Y A σ s H0 H locs) {k o k1 o1 : Nat} (hk : (1, k, o) ∈ kS w) (hk1 : (1, k1, o1) ∈ kS w) {sp dp n : Int32} (hg : gdc sp dp n (alen k) (alen k1) = true) (hframes : 1 ≤ R.frames) (hlocals : (rest.map fun v => v.category).sum + (nativeFrameWords "java/lang/System" "arraycopy" 5 + 11) ≤ R.locals) (hdg : decode cc pc = .ok (.invokestatic index, 3)) (kk : ∀ (H1 : Heap) (locs1 : List Loc), sW w D Y A (sAu σ k1 o1 (va_cpy (sA σ k o) (sA σ k1 o1) sp.toNatClampNeg dp.toNatClampNeg n.toNatClampNeg)) s H0 H1 locs1 → W p l e R s m args below meth c H1 locs1 cells slots Q (F0 m (pc + 3) ls rest)) : W p l e R s m args below meth c H locs cells slots Q (F0 m pc ls (.int n :: .int dp :: .ref (A 1 k1 o1) :: .int sp :: .ref (A 1 k o) :: rest)) := by
  obtain ⟨q0, -, hq⟩ := ws_at (Y := Y) (A := A) σ hk
  obtain ⟨q1, hqk, hq1⟩ := ws_at (Y := Y) (A := A) σ hk1
  obtain ⟨g1, g2, g3, g4, g5⟩ := gdc_in hg
  refine va_copyi hx hb hml hown (hts _ hlink) (hts _ hnat) (hts _ hstat) (hts _ hini) hW.2.1 hW.2.2.1 (ws_D hW.1 Y σ) hW.2.2.2.1 q0 q1 0 0 hq hq1 (ty := .int) rfl rfl rfl g1 g2 g3 g4 g5 (fun i _ => rfl) hframes hlocals hdg (fun H1 locs1 hP hD hS => kk H1 locs1 ⟨hW.1, hW.2.1, ?_, hS, hW.2.2.2.2⟩)
  rw [← ws_put (σ' := sAu σ k1 o1 (va_cpy (sA σ k o) (sA σ k1 o1) sp.toNatClampNeg dp.toNatClampNeg n.toNatClampNeg)) hW.1.1 hqk rfl (cg_A hk1 _)]
  simpa [cE, cR, sAu, sA] using hP
theorem rcpl (hx : p.tables.exec = Jvm.exec) (hb : c.code = cc) (hts : ∀ q ∈ Ts, q.before args s = true) (hown : s.vm.findClass own = some m.cls) (hml : c.maxLocals = ls.size) {index : Nat} (hlink : Cond.methodLink own index arraycopyName ∈ Ts) (hnat : Cond.native arraycopyName ∈ Ts) (hstat : Cond.static arraycopyName ∈ Ts) (hini : Cond.initialized "java/lang/System" ∈ Ts) (hW : sW w D Y A σ s H0 H locs) {k k1 : Nat} (hk : (3, k, 0) ∈ kS w) (hk1 : (3, k1, 0) ∈ kS w) {sp dp n : Int32} (hg : gdc sp dp n 31 31 = true) (hframes : 1 ≤ R.frames) (hlocals : (rest.map fun v => v.category).sum + (nativeFrameWords "java/lang/System" "arraycopy" 5 + 11) ≤ R.locals) (hdg : decode cc pc = .ok (.invokestatic index, 3)) (kk : ∀ (H1 : Heap) (locs1 : List Loc), sW w D Y A (sBu σ k1 (va_cpy (sB σ k) (sB σ k1) sp.toNatClampNeg dp.toNatClampNeg n.toNatClampNeg)) s H0 H1 locs1 → W p l e R s m args below meth c H1 locs1 cells slots Q (F0 m (pc + 3) ls rest)) : W p l e R s m args below meth c H locs cells slots Q (F0 m pc ls (.int n :: .int dp :: .ref (A 3 k1 0) :: .int sp :: .ref (A 3 k 0) :: rest)) := by
  obtain ⟨q0, -, hq⟩ := ws_at (Y := Y) (A := A) σ hk
  obtain ⟨q1, hqk, hq1⟩ := ws_at (Y := Y) (A := A) σ hk1
  obtain ⟨g1, g2, g3, g4, g5⟩ := gdc_in hg
  refine va_copyl hx hb hml hown (hts _ hlink) (hts _ hnat) (hts _ hstat) (hts _ hini) hW.2.1 hW.2.2.1 (ws_D hW.1 Y σ) hW.2.2.2.1 q0 q1 1 1 hq hq1 (ty := .long) rfl rfl rfl g1 g2 g3 g4 g5 (fun i _ => rfl) hframes hlocals hdg (fun H1 locs1 hP hD hS => kk H1 locs1 ⟨hW.1, hW.2.1, ?_, hS, hW.2.2.2.2⟩)
  rw [← ws_put (σ' := sBu σ k1 (va_cpy (sB σ k) (sB σ k1) sp.toNatClampNeg dp.toNatClampNeg n.toNatClampNeg)) hW.1.1 hqk rfl (cg_L _)]
  simpa [cE, cR, sBu, sB] using hP
theorem EX.calling {U : State} {g : JFrame} {mk : MethodId} {a : Array Value} (h : EX w A U) : EX w A (U.calling g mk a) := h
theorem ss_blind {av : List Value} : FrameBlind (Pc0 w D Y A σ av) := fun a U g mk q => ⟨q.1, va_K.moved (u := U) (U := U.calling g mk a) (Vm.Alike.refl U.vm) q.2.1, q.2.2.1, q.2.2.2.calling⟩
theorem ss_pre {av : List Value} (hW : sW w D Y A σ s s.heap H locs) : ∀ U : State, U.heap = H → s.WarmedH U.vm → Pc0 w D Y A σ av av.toArray U := fun U hU hw => ⟨rfl, va_K.moved hw.alike hW.2.1, by rw [hU]; exact hW.2.2.1, hW.2.2.2.2.next hw (by rw [hU]; exact hW.2.2.2.1)⟩
theorem ss_recv {ci o : Nat} {q : vw_C} (hW : sW w D Y A σ s H0 H locs) (hk : (0, ci, o) ∈ kS w) (hc : vwCl[ci]? = some q) : ∃ cell : Cell, H[A 0 ci o]? = some cell ∧ cell.vm.isStatics = false ∧ s.vm.findClass q.1 = some cell.cls := by
  obtain ⟨q0, -, hq⟩ := ws_at (Y := Y) (A := A) σ hk
  rw [cE_o] at hq
  exact va_recv hW.2.1 hW.2.2.1 hc hq
theorem ss_back {σ' : ss_M} {t : State} {H1 : Heap} {locs1 : List Loc} (hW : sW w D Y A σ s H0 H locs) (ht : t.heap = H1) (hvm : s.vm.Alike t.vm) (hB : WB w D Y A σ' t) (hS : va_S (FA w A) H0 H1 locs1) : sW w D Y A σ' s H0 H1 locs1 := ⟨hW.1, va_K.moved hvm.symm hB.1, by rw [← ht]; exact hB.2.1, hS, hW.2.2.2.2⟩
theorem rv_i {nL n index maxL : Nat} {y : MethodName} {bytes : ByteArray} {ret : Option FieldType} {ws : List Cond} {rm : Room} {C : String} {T : u_T} {N ci o : Nat} {As st0 : List Value} {σ' : ss_M} {r : Int32} (S : CallFix p m c cc nL s args Ts own) (hM : Met l y ws rm (Pc0 w D Y A σ (.ref (A 0 ci o) :: As)) (Qi0 w D Y A r σ') 0 0 (FA w A)) (cw : CallW R s args own C index y bytes maxL ret ws rm 0 0 n) (hW : sW w D Y A σ s s.heap H locs) (hk : (0, ci, o) ∈ kS w) (hc : vwCl[ci]? = some (C, T, N)) (hst : st0 = As.reverse ++ .ref (A 0 ci o) :: rest) (hn : As.length = n) (hsz : ls.size = nL) (hR : (rest.map fun v => v.category).sum ≤ 8) (hcs : cells ≤ R.cells ∧ slots ≤ R.slots) (hdg : decode cc pc = .ok (.invokevirtual index, 3)) (kk : ∀ (H1 : Heap) (locs1 : List Loc), sW w D Y A σ' s s.heap H1 locs1 → W p l e R s m args below meth c H1 locs1 cells slots Q (F0 m (pc + 3) ls (.int r :: rest))) : W p l e R s m args below meth c H locs cells slots Q (F0 m pc ls st0) :=
  va_calli (va_runV (As := As) (rest := rest) (b := A 0 ci o) (g := F0 m pc ls st0) S hM cw ⟨ss_blind, ss_recv hW hk hc, ss_pre hW⟩ rfl hn hsz hst (lv_room hR) hdg hcs) hW.2.2.2.1 (fun q _ h => h) (fun q h => h) (fun r1 u t H1 locs1 ht hvm hp hB _ _ hS => by obtain ⟨rfl, rfl⟩ := hp; exact kk H1 locs1 (ss_back hW ht hvm hB hS))
theorem rt_i {nL n index maxL : Nat} {y : MethodName} {bytes : ByteArray} {ret : Option FieldType} {ws : List Cond} {rm : Room} {As st0 : List Value} {σ' : ss_M} {r : Int32} (S : CallFix p m c cc nL s args Ts own) (hM : Met l y ws rm (Pc0 w D Y A σ As) (Qi0 w D Y A r σ') 0 0 (FA w A)) (cw : CallB R s args own index y bytes maxL ret ws rm 0 0 n ∧ (Cond.static y).before args s = true) (hW : sW w D Y A σ s s.heap H locs) (hst : st0 = As.reverse ++ rest) (hn : As.length = n) (hsz : ls.size = nL) (hR : (rest.map fun v => v.category).sum ≤ 8) (hcs : cells ≤ R.cells ∧ slots ≤ R.slots) (hdg : decode cc pc = .ok (.invokestatic index, 3)) (kk : ∀ (H1 : Heap) (locs1 : List Loc), sW w D Y A σ' s s.heap H1 locs1 → W p l e R s m args below meth c H1 locs1 cells slots Q (F0 m (pc + 3) ls (.int r :: rest))) : W p l e R s m args below meth c H locs cells slots Q (F0 m pc ls st0) :=
  va_calli (va_runS (As := As) (rest := rest) (g := F0 m pc ls st0) S hM cw ⟨ss_blind, ss_pre hW⟩ rfl hn hsz hst (lv_room hR) hdg hcs) hW.2.2.2.1 (fun q _ h => h) (fun q h => h) (fun r1 u t H1 locs1 ht hvm hp hB _ _ hS => by obtain ⟨rfl, rfl⟩ := hp; exact kk H1 locs1 (ss_back hW ht hvm hB hS))
theorem rv_l {nL n index maxL : Nat} {y : MethodName} {bytes : ByteArray} {ret : Option FieldType} {ws : List Cond} {rm : Room} {C : String} {T : u_T} {N ci o : Nat} {As st0 : List Value} {σ' : ss_M} {r : Int64} (S : CallFix p m c cc nL s args Ts own) (hM : Met l y ws rm (Pc0 w D Y A σ (.ref (A 0 ci o) :: As)) (Ql0 w D Y A r σ') 0 0 (FA w A)) (cw : CallW R s args own C index y bytes maxL ret ws rm 0 0 n) (hW : sW w D Y A σ s s.heap H locs) (hk : (0, ci, o) ∈ kS w) (hc : vwCl[ci]? = some (C, T, N)) (hst : st0 = As.reverse ++ .ref (A 0 ci o) :: rest) (hn : As.length = n) (hsz : ls.size = nL) (hR : (rest.map fun v => v.category).sum ≤ 8) (hcs : cells ≤ R.cells ∧ slots ≤ R.slots) (hdg : decode cc pc = .ok (.invokevirtual index, 3)) (kk : ∀ (H1 : Heap) (locs1 : List Loc), sW w D Y A σ' s s.heap H1 locs1 → W p l e R s m args below meth c H1 locs1 cells slots Q (F0 m (pc + 3) ls (.long r :: rest))) : W p l e R s m args below meth c H locs cells slots Q (F0 m pc ls st0) :=
  va_calll (va_runV (As := As) (rest := rest) (b := A 0 ci o) (g := F0 m pc ls st0) S hM cw ⟨ss_blind, ss_recv hW hk hc, ss_pre hW⟩ rfl hn hsz hst (lv_room hR) hdg hcs) hW.2.2.2.1 (fun q _ h => h) (fun q h => h) (fun r1 u t H1 locs1 ht hvm hp hB _ _ hS => by obtain ⟨rfl, rfl⟩ := hp; exact kk H1 locs1 (ss_back hW ht hvm hB hS))
theorem rt_l {nL n index maxL : Nat} {y : MethodName} {bytes : ByteArray} {ret : Option FieldType} {ws : List Cond} {rm : Room} {As st0 : List Value} {σ' : ss_M} {r : Int64} (S : CallFix p m c cc nL s args Ts own) (hM : Met l y ws rm (Pc0 w D Y A σ As) (Ql0 w D Y A r σ') 0 0 (FA w A)) (cw : CallB R s args own index y bytes maxL ret ws rm 0 0 n ∧ (Cond.static y).before args s = true) (hW : sW w D Y A σ s s.heap H locs) (hst : st0 = As.reverse ++ rest) (hn : As.length = n) (hsz : ls.size = nL) (hR : (rest.map fun v => v.category).sum ≤ 8) (hcs : cells ≤ R.cells ∧ slots ≤ R.slots) (hdg : decode cc pc = .ok (.invokestatic index, 3)) (kk : ∀ (H1 : Heap) (locs1 : List Loc), sW w D Y A σ' s s.heap H1 locs1 → W p l e R s m args below meth c H1 locs1 cells slots Q (F0 m (pc + 3) ls (.long r :: rest))) : W p l e R s m args below meth c H locs cells slots Q (F0 m pc ls st0) :=
  va_calll (va_runS (As := As) (rest := rest) (g := F0 m pc ls st0) S hM cw ⟨ss_blind, ss_pre hW⟩ rfl hn hsz hst (lv_room hR) hdg hcs) hW.2.2.2.1 (fun q _ h => h) (fun q h => h) (fun r1 u t H1 locs1 ht hvm hp hB _ _ hS => by obtain ⟨rfl, rfl⟩ := hp; exact kk H1 locs1 (ss_back hW ht hvm hB hS))
theorem rv_v {nL n index maxL : Nat} {y : MethodName} {bytes : ByteArray} {ret : Option FieldType} {ws : List Cond} {rm : Room} {C : String} {T : u_T} {N ci o : Nat} {As st0 : List Value} {σ' : ss_M}  (S : CallFix p m c cc nL s args Ts own) (hM : Met l y ws rm (Pc0 w D Y A σ (.ref (A 0 ci o) :: As)) (Qv0 w D Y A σ') 0 0 (FA w A)) (cw : CallW R s args own C index y bytes maxL ret ws rm 0 0 n) (hW : sW w D Y A σ s s.heap H locs) (hk : (0, ci, o) ∈ kS w) (hc : vwCl[ci]? = some (C, T, N)) (hst : st0 = As.reverse ++ .ref (A 0 ci o) :: rest) (hn : As.length = n) (hsz : ls.size = nL) (hR : (rest.map fun v => v.category).sum ≤ 8) (hcs : cells ≤ R.cells ∧ slots ≤ R.slots) (hdg : decode cc pc = .ok (.invokevirtual index, 3)) (kk : ∀ (H1 : Heap) (locs1 : List Loc), sW w D Y A σ' s s.heap H1 locs1 → W p l e R s m args below meth c H1 locs1 cells slots Q (F0 m (pc + 3) ls (rest))) : W p l e R s m args below meth c H locs cells slots Q (F0 m pc ls st0) :=
  va_callv (va_runV (As := As) (rest := rest) (b := A 0 ci o) (g := F0 m pc ls st0) S hM cw ⟨ss_blind, ss_recv hW hk hc, ss_pre hW⟩ rfl hn hsz hst (lv_room hR) hdg hcs) hW.2.2.2.1 (fun q _ h => h) (fun q h => h) (fun u t H1 locs1 ht hvm hp hB _ _ hS => by subst hp; exact kk H1 locs1 (ss_back hW ht hvm hB hS))
theorem rt_v {nL n index maxL : Nat} {y : MethodName} {bytes : ByteArray} {ret : Option FieldType} {ws : List Cond} {rm : Room} {As st0 : List Value} {σ' : ss_M}  (S : CallFix p m c cc nL s args Ts own) (hM : Met l y ws rm (Pc0 w D Y A σ As) (Qv0 w D Y A σ') 0 0 (FA w A)) (cw : CallB R s args own index y bytes maxL ret ws rm 0 0 n ∧ (Cond.static y).before args s = true) (hW : sW w D Y A σ s s.heap H locs) (hst : st0 = As.reverse ++ rest) (hn : As.length = n) (hsz : ls.size = nL) (hR : (rest.map fun v => v.category).sum ≤ 8) (hcs : cells ≤ R.cells ∧ slots ≤ R.slots) (hdg : decode cc pc = .ok (.invokestatic index, 3)) (kk : ∀ (H1 : Heap) (locs1 : List Loc), sW w D Y A σ' s s.heap H1 locs1 → W p l e R s m args below meth c H1 locs1 cells slots Q (F0 m (pc + 3) ls (rest))) : W p l e R s m args below meth c H locs cells slots Q (F0 m pc ls st0) :=
  va_callv (va_runS (As := As) (rest := rest) (g := F0 m pc ls st0) S hM cw ⟨ss_blind, ss_pre hW⟩ rfl hn hsz hst (lv_room hR) hdg hcs) hW.2.2.2.1 (fun q _ h => h) (fun q h => h) (fun u t H1 locs1 ht hvm hp hB _ _ hS => by subst hp; exact kk H1 locs1 (ss_back hW ht hvm hB hS))
theorem ss_end {t : State} {σ' : ss_M} (hW : sW w D Y A σ s s.heap H locs) (hσ : σ = σ') (ht : t.heap = H) (hw : s.WarmedH t.vm) : WB w D Y A σ' t := by
  subst hσ
  exact ⟨va_K.moved hw.alike hW.2.1, by rw [ht]; exact hW.2.2.1, hW.2.2.2.2.next hw (by rw [ht]; exact hW.2.2.2.1)⟩
theorem re_i (hx : p.tables.exec = Jvm.exec) (hb : c.code = cc) (hr : meth.sig.returnType = some .int) (hlocks : meth.locks = false) (hW : sW w D Y A σ s s.heap H locs) {v r : Int32} {σ' : ss_M} (hf : (v, σ) = (r, σ')) (hdg : decode cc pc = .ok (.ireturn, 1)) : W p l e R s m args below meth c H locs 0 0 (MQ below (Qi0 w D Y A r σ') args s 0 0 (FA w A)) (F0 m pc ls [.int v]) :=
  W.iret hx hb hr (fun t ht hw => ⟨⟨v, σ', rfl, ⟨congrArg Prod.fst hf, rfl⟩, ss_end hW (congrArg Prod.snd hf) ht hw⟩, hW.2.2.2.1.F ht⟩) hW.2.2.2.1.2.2 hdg hlocks
theorem re_z (hx : p.tables.exec = Jvm.exec) (hb : c.code = cc) (hr : meth.sig.returnType = some .boolean) (hlocks : meth.locks = false) (hW : sW w D Y A σ s s.heap H locs) {v r : Int32} {σ' : ss_M} (hv : v &&& 1 = v) (hf : (v, σ) = (r, σ')) (hdg : decode cc pc = .ok (.ireturn, 1)) : W p l e R s m args below meth c H locs 0 0 (MQ below (Qi0 w D Y A r σ') args s 0 0 (FA w A)) (F0 m pc ls [.int v]) :=
  W.zret hx hb hr (show Value.int (v &&& 1) = Value.int v by rw [hv]) (fun t ht hw => ⟨⟨v, σ', rfl, ⟨congrArg Prod.fst hf, rfl⟩, ss_end hW (congrArg Prod.snd hf) ht hw⟩, hW.2.2.2.1.F ht⟩) hW.2.2.2.1.2.2 hdg hlocks
theorem re_l (hx : p.tables.exec = Jvm.exec) (hb : c.code = cc) (hr : meth.sig.returnType = some .long) (hlocks : meth.locks = false) (hW : sW w D Y A σ s s.heap H locs) {v r : Int64} {σ' : ss_M} (hf : (v, σ) = (r, σ')) (hdg : decode cc pc = .ok (.lreturn, 1)) : W p l e R s m args below meth c H locs 0 0 (MQ below (Ql0 w D Y A r σ') args s 0 0 (FA w A)) (F0 m pc ls [.long v]) :=
  W.lret hx hb hr (fun t ht hw => ⟨⟨v, σ', rfl, ⟨congrArg Prod.fst hf, rfl⟩, ss_end hW (congrArg Prod.snd hf) ht hw⟩, hW.2.2.2.1.F ht⟩) hW.2.2.2.1.2.2 hdg hlocks
theorem re_v (hx : p.tables.exec = Jvm.exec) (hb : c.code = cc) (hr : meth.sig.returnType = none) (hlocks : meth.locks = false) (hW : sW w D Y A σ s s.heap H locs) {σ' : ss_M} (hf : σ = σ') (hdg : decode cc pc = .ok (.return_, 1)) : W p l e R s m args below meth c H locs 0 0 (MQ below (Qv0 w D Y A σ') args s 0 0 (FA w A)) (F0 m pc ls []) :=
  W.vret hx hb hr (fun t ht hw => ⟨⟨σ', rfl, rfl, ss_end hW hf ht hw⟩, hW.2.2.2.1.F ht⟩) hW.2.2.2.1.2.2 hdg hlocks
/-- a contract out of a walk of the body -/
theorem Met0 {y : MethodName} {ws ws' : List Cond} {rm : Room} {av : List Value} {Qc : Array Value → State → Outcome → State → Prop} {maxL : Nat} {ret : Option FieldType} (hy : plainName y.cls = true) (hw : ws = Cond.code y cc maxL ret :: ws') (hAD : AD w A) (hcls : y.cls = own) (hlen : (lg_sl av).length ≤ maxL)
    (body : ∀ (p : Program) (e : Env) (s : State) (m : MethodId) (args : Array Value) (below : List Frame) (meth : Method) (c : Code), CallFix p m c cc maxL s args ws own → meth.sig.returnType = ret → meth.locks = false → sW w D Y A σ s s.heap s.heap [] → ∀ ls, lv_has ls maxL (lv_args 0 av) → W p l e rm s m args below meth c s.heap [] 0 0 (MQ below Qc args s 0 0 (FA w A)) (F0 m 0 ls [])) : Met l y ws rm (Pc0 w D Y A σ av) Qc 0 0 (FA w A) := by
  refine Met.ofW (cc := cc) (maxL := maxL) (ret := ret) hy hw ?_
  intro p e s m args below meth c s₁ B hml hv
  obtain ⟨rfl, hK, hP, hE⟩ := hv
  have hts := atoms_spec (ws := ws) B.pre
  have hown : s.vm.findClass own = some m.cls := by rw [← hcls]; exact findClass_of_methodNamed B.named
  have hl := lv_entry av (n := maxL) hlen
  rw [lg_entry_eq]
  exact body p e s m _ below meth c ⟨B.exec, B.bytes, hml, hown, hts⟩ B.returns B.notSynchronized ⟨hAD, hK, hP, va_S.rf, hE⟩ _ hl
end SSR
