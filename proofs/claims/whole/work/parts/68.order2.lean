/-! order: the class's search -/
theorem gdcK {q : Nat} (h : q ≤ 7) : gdc 0 0 (nI q) 7 7 = true := by
  unfold gdc
  rw [nI_clamp (by omega)]
  simp [nI_pos (show q < 2 ^ 31 by omega), c_0]
  omega
/-- what is unused, from p on -/
def fu (pre : List Nat) : Nat → Nat → List Nat
  | 0, _ => []
  | m + 1, p => bif has pre p then fu pre m (p + 1) else p :: fu pre m (p + 1)
theorem has_app (q : Nat) : ∀ (pre : List Nat) (p : Nat), has (pre ++ [q]) p = (has pre p || Nat.beq q p)
  | [], p => by
    show (Nat.beq q p || false) = (false || Nat.beq q p)
    rw [Bool.or_false, Bool.false_or]
  | a :: pre, p => by
    show (Nat.beq a p || has (pre ++ [q]) p) = ((Nat.beq a p || has pre p) || Nat.beq q p)
    rw [has_app q pre p, Bool.or_assoc]
theorem beq_ne {a b : Nat} (h : a ≠ b) : Nat.beq a b = false := by
  cases e : Nat.beq a b
  · rfl
  · exact absurd (Nat.eq_of_beq_eq_true e) h
theorem beq_rf (a : Nat) : Nat.beq a a = true := Nat.beq_refl a
theorem has_m (pre : List Nat) (q : Nat) : has (pre ++ [q]) q = true := by rw [has_app, beq_rf, Bool.or_true]
theorem has_n (pre : List Nat) {q p : Nat} (h : q ≠ p) : has (pre ++ [q]) p = has pre p := by rw [has_app, beq_ne h, Bool.or_false]
theorem fu_t {pre : List Nat} {m p : Nat} (h : has pre p = true) : fu pre (m + 1) p = fu pre m (p + 1) := by
  show (bif has pre p then fu pre m (p + 1) else p :: fu pre m (p + 1)) = _
  rw [h]; rfl
theorem fu_f {pre : List Nat} {m p : Nat} (h : has pre p = false) : fu pre (m + 1) p = p :: fu pre m (p + 1) := by
  show (bif has pre p then fu pre m (p + 1) else p :: fu pre m (p + 1)) = _
  rw [h]; rfl
theorem fu_later (pre : List Nat) (q : Nat) : ∀ m p, q < p → fu (pre ++ [q]) m p = fu pre m p
  | 0, _, _ => rfl
  | m + 1, p, h => by
    have e := has_n pre (q := q) (p := p) (by omega)
    cases z : has pre p
    · rw [fu_f z, fu_f (e.trans z), fu_later pre q m (p + 1) (by omega)]
    · rw [fu_t z, fu_t (e.trans z), fu_later pre q m (p + 1) (by omega)]
theorem fu_first (pre rest : List Nat) (q : Nat) : ∀ m p, fu pre m p = q :: rest → fu (pre ++ [q]) m p = rest ∧ has pre q = false ∧ p ≤ q ∧ q < p + m
  | 0, p, h => by cases h
  | m + 1, p, h => by
    cases z : has pre p
    · rw [fu_f z] at h
      injection h with h1 h2
      subst h1
      rw [fu_t (has_m pre p), fu_later pre p m (p + 1) (by omega)]
      exact ⟨h2, z, Nat.le_refl _, by omega⟩
    · rw [fu_t z] at h
      obtain ⟨a, b, c, d⟩ := fu_first pre rest q m (p + 1) h
      have ne : q ≠ p := by omega
      rw [fu_t (by rw [has_n pre ne]; exact z)]
      exact ⟨a, b, by omega, by omega⟩
theorem fu_len (pre : List Nat) (q : Nat) (hq : has pre q = false) : ∀ m p, p ≤ q → q < p + m → (fu (pre ++ [q]) m p).length + 1 = (fu pre m p).length
  | 0, p, h1, h2 => by omega
  | m + 1, p, h1, h2 => by
    by_cases e : p = q
    · subst e
      rw [fu_t (has_m pre p), fu_later pre p m (p + 1) (by omega), fu_f hq]
      rfl
    · have e2 := has_n pre (q := q) (p := p) (by omega)
      have ih := fu_len pre q hq m (p + 1) (by omega) (by omega)
      cases z : has pre p
      · rw [fu_f z, fu_f (e2.trans z)]
        show (fu (pre ++ [q]) m (p + 1)).length + 1 + 1 = (fu pre m (p + 1)).length + 1
        rw [ih]
      · rw [fu_t z, fu_t (e2.trans z)]
        exact ih
theorem fu_0 : ∀ m p, (fu [] m p).length = m
  | 0, _ => rfl
  | m + 1, p => congrArg (· + 1) (fu_0 m (p + 1))
theorem fu_gt : ∀ m p i, i < m → gt (fu [] m p) i = p + i
  | 0, _, _, h => absurd h (Nat.not_lt_zero _)
  | m + 1, p, 0, _ => rfl
  | m + 1, p, i + 1, h => by
    show gt (fu [] m (p + 1)) i = _
    rw [fu_gt m (p + 1) i (by omega)]
    omega
theorem cml_t {c : List Nat → List (List Nat)} {pre : List Nat} {m p : Nat} (h : has pre p = true) : cml c pre (m + 1) p = cml c pre m (p + 1) := by
  show (bif has pre p then [] else c (pre ++ [p])) ++ cml c pre m (p + 1) = _
  rw [h]; rfl
theorem cml_f {c : List Nat → List (List Nat)} {pre : List Nat} {m p : Nat} (h : has pre p = false) : cml c pre (m + 1) p = c (pre ++ [p]) ++ cml c pre m (p + 1) := by
  show (bif has pre p then [] else c (pre ++ [p])) ++ cml c pre m (p + 1) = _
  rw [h]; rfl
theorem cml_first (c : List Nat → List (List Nat)) (pre rest : List Nat) (q : Nat) : ∀ m p, fu pre m p = q :: rest → ∃ tl, cml c pre m p = c (pre ++ [q]) ++ tl
  | 0, p, h => by cases h
  | m + 1, p, h => by
    cases z : has pre p
    · rw [fu_f z] at h
      injection h with h1 h2
      rw [cml_f z, h1]
      exact ⟨_, rfl⟩
    · rw [fu_t z] at h
      rw [cml_t z]
      exact cml_first c pre rest q m (p + 1) h
theorem cm_head (w : Nat) : ∀ (d : Nat) (pre : List Nat), (fu pre w 0).length = d → ∃ tl, cm w d pre = (pre ++ fu pre w 0) :: tl
  | 0, pre, h => by
    rw [List.eq_nil_of_length_eq_zero h, List.append_nil]
    exact ⟨[], rfl⟩
  | d + 1, pre, h => by
    cases e : fu pre w 0 with
    | nil => rw [e] at h; cases h
    | cons q rest =>
      rw [e] at h
      have h' : rest.length = d := Nat.succ.inj h
      obtain ⟨a, b, _, _⟩ := fu_first pre rest q w 0 e
      obtain ⟨tl, t1⟩ := cml_first (cm w d) pre rest q w 0 e
      obtain ⟨tl2, t2⟩ := cm_head w d (pre ++ [q]) (by rw [a]; exact h')
      refine ⟨tl2 ++ tl, ?_⟩
      show cml (cm w d) pre w 0 = _
      rw [t1, t2, a, List.append_assoc]
      rfl
theorem cml_in (c : List Nat → List (List Nat)) (pre l : List Nat) : ∀ m p, l ∈ cml c pre m p → ∃ q, has pre q = false ∧ l ∈ c (pre ++ [q])
  | 0, p, h => by cases h
  | m + 1, p, h => by
    cases z : has pre p
    · rw [cml_f z] at h
      rcases List.mem_append.mp h with h | h
      · exact ⟨p, z, h⟩
      · exact cml_in c pre l m (p + 1) h
    · rw [cml_t z] at h
      exact cml_in c pre l m (p + 1) h
theorem cm_in (w : Nat) : ∀ (d : Nat) (pre l : List Nat), l ∈ cm w d pre → ∃ r, l = pre ++ r ∧ r.length = d
  | 0, pre, l, h => by
    have : l = pre := List.mem_singleton.mp h
    exact ⟨[], by rw [this, List.append_nil], rfl⟩
  | d + 1, pre, l, h => by
    obtain ⟨q, _, h2⟩ := cml_in (cm w d) pre l w 0 h
    obtain ⟨r, r1, r2⟩ := cm_in w d (pre ++ [q]) l h2
    exact ⟨q :: r, by rw [r1, List.append_assoc]; rfl, by show r.length + 1 = _; rw [r2]⟩
def stp (g : pPg) (s : Nat × List Nat) (l : List Nat) : Nat × List Nat := if s.1 < rdB g l then (rdB g l, l) else s
theorem fo_keep (g : pPg) : ∀ (L : List (List Nat)) (M : Nat) (B : List Nat), (∀ l, l ∈ L → rdB g l ≤ M) → L.foldl (stp g) (M, B) = (M, B)
  | [], _, _, _ => rfl
  | l :: L, M, B, h => by
    show L.foldl (stp g) (stp g (M, B) l) = _
    have e : stp g (M, B) l = (M, B) := if_neg (by have := h l (List.mem_cons_self ..); show ¬ M < rdB g l; omega)
    rw [e]
    exact fo_keep g L M B (fun x hx => h x (List.mem_cons_of_mem _ hx))
theorem fo_bd (g : pPg) (w : Nat) : ∀ (L : List (List Nat)) (s : Nat × List Nat), (∀ l, l ∈ L → rdB g l ≤ w) → s.1 ≤ w → s.1 ≤ (L.foldl (stp g) s).1 ∧ (L.foldl (stp g) s).1 ≤ w
  | [], s, _, h => ⟨Nat.le_refl _, h⟩
  | l :: L, s, h, h2 => by
    show s.1 ≤ (L.foldl (stp g) (stp g s l)).1 ∧ (L.foldl (stp g) (stp g s l)).1 ≤ w
    have hl := h l (List.mem_cons_self ..)
    have e : s.1 ≤ (stp g s l).1 ∧ (stp g s l).1 ≤ w := by
      unfold stp
      split
      · next z => exact ⟨Nat.le_of_lt z, hl⟩
      · exact ⟨Nat.le_refl _, h2⟩
    have := fo_bd g w L (stp g s l) (fun x hx => h x (List.mem_cons_of_mem _ hx)) e.2
    omega
def Rd (g : pPg) (pre : List Nat) (left : Nat) : Prop := ∀ r, rbL g (pre ++ r) 0 g.1.1 = rbL g r pre.length left
theorem Rd_s {g : pPg} {pre : List Nat} {left p : Nat} (h : Rd g pre left) (hp : g.2.1 p ≤ left) : Rd g (pre ++ [p]) (spGive (g.2.2.2.1.2.2.1 pre.length) (left - g.2.1 p) g.1.1) := by
  intro r
  rw [List.append_assoc, h, List.length_append]
  show (if left < g.2.1 p then _ else rbL g r (pre.length + 1) _) = _
  rw [if_neg (by omega)]
  rfl
theorem Rd_stuck {g : pPg} {pre : List Nat} {left p : Nat} (h : Rd g pre left) (hp : left < g.2.1 p) (r : List Nat) : rdB g ((pre ++ [p]) ++ r) = pre.length := by
  unfold rdB
  rw [List.append_assoc, h]
  show (if left < g.2.1 p then pre.length else _) = _
  rw [if_pos hp]
theorem fo_first {g : pPg} {w d left M : Nat} {pre B : List Nat} (hd : (fu pre w 0).length = d) (hR : Rd g pre left) (hM : M < pre.length) : (cm w d pre).foldl (stp g) (M, B) = (cm w d pre).foldl (stp g) (pre.length, pre ++ fu pre w 0) := by
  obtain ⟨tl, h⟩ := cm_head w d pre hd
  rw [h]
  show tl.foldl (stp g) (stp g (M, B) (pre ++ fu pre w 0)) = tl.foldl (stp g) (stp g (pre.length, pre ++ fu pre w 0) (pre ++ fu pre w 0))
  have ge : pre.length ≤ rdB g (pre ++ fu pre w 0) := by
    unfold rdB
    rw [hR]
    exact (rbL_le g _ _ _).1
  have e1 : stp g (M, B) (pre ++ fu pre w 0) = (rdB g (pre ++ fu pre w 0), pre ++ fu pre w 0) := if_pos (show M < rdB g (pre ++ fu pre w 0) by omega)
  have e2 : stp g (pre.length, pre ++ fu pre w 0) (pre ++ fu pre w 0) = (rdB g (pre ++ fu pre w 0), pre ++ fu pre w 0) := by
    unfold stp
    by_cases z : pre.length < rdB g (pre ++ fu pre w 0)
    · rw [if_pos z]
    · rw [if_neg z]
      have : rdB g (pre ++ fu pre w 0) = pre.length := by omega
      rw [this]
  rw [e1, e2]
theorem rd_w {g : pPg} {w d : Nat} {pre l : List Nat} (h : pre.length + d = w) (hl : l ∈ cm w d pre) : rdB g l ≤ w := by
  obtain ⟨r, r1, r2⟩ := cm_in w d pre l hl
  have := (rbL_le g l 0 g.1.1).2
  unfold rdB
  rw [r1, List.length_append] at this
  rw [r1]
  omega
/-- the search's state -/
def oS (g : pPg) (pre : List Nat) (σ : ss_M) (M : Nat) (B : List Nat) : Prop := LAY σ ∧ cPg σ 0 g ∧ sG σ 2 0 = nI M ∧ rw28 g.1.2.2.1 B (sA σ 2 0) ∧ (∀ i, i < g.1.2.2.1 → sA σ 100 0 i = if has pre i = true then 1 else 0) ∧ ∀ i, i < pre.length → sA σ 3 0 i = nI (gt pre i)
theorem v_kr24 {w : Nat} {pre : List Nat} (hw : w ≤ 7) : ∀ m p : Nat, p + m = w → ∀ (pl : Nat) (σ : ss_M) (n : Nat), m < n → pl + (fu pre m p).length = w → (∀ i, i < w → sA σ 100 0 i = if has pre i = true then 1 else 0) → ∃ a', f_X3_keepRow_L24 (nI w) n (nI pl) (nI p) σ = some (sAu σ 2 0 a') ∧ (∀ i, i < pl → a' i = sA σ 2 0 i) ∧ ∀ i, i < (fu pre m p).length → a' (pl + i) = nI (gt (fu pre m p) i) := by
  intro m
  induction m with
  | zero =>
    intro p hp pl σ n hn hl hu
    obtain ⟨n', rfl⟩ : ∃ n', n = n' + 1 := ⟨n - 1, by omega⟩
    refine ⟨sA σ 2 0, ?_, fun _ _ => rfl, fun i hi => absurd hi (Nat.not_lt_zero _)⟩
    rw [f_X3_keepRow_L24, if_pos (nI_le (by omega) (by omega)), ex_sA]
  | succ m ih =>
    intro p hp pl σ n hn hl hu
    obtain ⟨n', rfl⟩ : ∃ n', n = n' + 1 := ⟨n - 1, by omega⟩
    have e7 : gd (nI p) 7 = true := gd_nI (by omega) (by decide)
    by_cases z7 : 7 ≤ pl
    · have h0 : (fu pre (m + 1) p).length = 0 := by omega
      refine ⟨sA σ 2 0, ?_, fun _ _ => rfl, fun i hi => by omega⟩
      rw [f_X3_keepRow_L24, if_neg (lit_nle (by omega) (by omega) (by omega)), if_pos (show (7 : Int32) ≤ nI pl from nI_le (a := 7) z7 (by omega)), ex_sA]
    · have n7 : ¬ (7 : Int32) ≤ nI pl := lit_nle (a := 7) (by decide) (by omega) (by omega)
      cases z : has pre p
      · rw [fu_f z] at hl ⊢
        have hl' : pl + ((fu pre m (p + 1)).length + 1) = w := hl
        obtain ⟨a', d1, d2, d3⟩ := ih (p + 1) (by omega) (pl + 1) (sAu σ 2 0 (upd (sA σ 2 0) pl (nI p))) n' (by omega) (by omega) (fun i hi => by rw [sA_n _ _ (by omega)]; exact hu i hi)
        refine ⟨a', ?_, fun i hi => ?_, fun i hi => ?_⟩
        · rw [f_X3_keepRow_L24, if_neg (lit_nle (by omega) (by omega) (by omega)), if_neg n7, if_pos e7, nI_clamp (show p < 2 ^ 31 by omega), hu p (by omega), z, if_neg (show ¬ false = true by decide), if_pos rfl, if_pos (gd_nI (show pl < 7 by omega) (by decide)), nI_clamp (show pl < 2 ^ 31 by omega)]
          unfold f_X3_keepRow_j57
          rw [nIa1, nIa1, d1, sA_2]
        · rw [d2 i (by omega), sA_m, upd_n (by omega)]
        · cases i with
          | zero =>
            show a' pl = nI p
            rw [d2 pl (by omega), sA_m, upd_m]
          | succ i =>
            have hi' : i + 1 < (fu pre m (p + 1)).length + 1 := hi
            have := d3 i (by omega)
            have e : pl + (i + 1) = pl + 1 + i := by omega
            rw [e]
            exact this
      · rw [fu_t z] at hl ⊢
        obtain ⟨a', d1, d2, d3⟩ := ih (p + 1) (by omega) pl σ n' (by omega) hl hu
        refine ⟨a', ?_, d2, d3⟩
        rw [f_X3_keepRow_L24, if_neg (lit_nle (by omega) (by omega) (by omega)), if_neg n7, if_pos e7, nI_clamp (show p < 2 ^ 31 by omega), hu p (by omega), z, if_pos rfl, if_neg n10]
        unfold f_X3_keepRow_j57
        rw [nIa1]
        exact d1
theorem v_keep {n0 d M : Nat} {g : pPg} {pre B : List Nat} {σ : ss_M} (hg : gOk n0 g) (hw : g.1.2.2.1 ≤ 7) (hd : pre.length + d = g.1.2.2.1) (hf : (fu pre g.1.2.2.1 0).length = d) (h : oS g pre σ M B) : ∃ σ', f_X3_keepRow (nI g.1.2.2.1) (nI pre.length) σ = some σ' ∧ QC σ σ' ∧ oS g pre σ' pre.length (pre ++ fu pre g.1.2.2.1 0) := by
  obtain ⟨hL, hc, hM, hB, hu, hr⟩ := h
  obtain ⟨σ0, hσ0⟩ : ∃ σ0, σ0 = sGu σ 2 0 (nI pre.length) := ⟨_, rfl⟩
  obtain ⟨σ1, hσ1⟩ : ∃ σ1, σ1 = sAu σ0 2 0 (va_cpy (sA σ0 3 0) (sA σ0 2 0) 0 0 pre.length) := ⟨_, rfl⟩
  have q0 : QC σ σ0 := by rw [hσ0]; exact QC_s hL (Or.inl rfl)
  have q1 : QC σ σ1 := by rw [hσ1]; exact q0.tr (QC_a q0.1.1 (by omega))
  have u1 : ∀ i, i < g.1.2.2.1 → sA σ1 100 0 i = if has pre i = true then 1 else 0 := fun i hi => by rw [hσ1, sA_n _ _ (by omega), hσ0]; exact hu i hi
  obtain ⟨a', d1, d2, d3⟩ := v_kr24 hw g.1.2.2.1 0 (Nat.zero_add _) pre.length σ1 FU (FU_gt (by omega)) (by omega) u1
  have q2 : QC σ (sAu σ1 2 0 a') := q1.tr (QC_a q1.1.1 (by omega))
  refine ⟨sAu σ1 2 0 a', ?_, q2, q2.1.1, hc.same hL (by decide) hg q2.2, ?_, fun i hi => ?_, fun i hi => by rw [sA_n _ _ (by omega)]; exact u1 i hi, fun i hi => ?_⟩
  · unfold f_X3_keepRow
    rw [if_pos (gdcK (by omega)), c_0, nI_clamp (show pre.length < 2 ^ 31 by omega), ← hσ0, ← hσ1, ss_let]
    exact d1
  · rw [sG_A, hσ1, sG_A, hσ0, sG_m]
  · rw [sA_m]
    by_cases z : i < pre.length
    · rw [d2 i z, gt_1 _ _ _ z, hσ1, sA_m, pk_cpy_in (by omega) (by omega)]
      have e : (0 : Nat) + (i - 0) = i := by omega
      rw [e, hσ0]
      exact hr i z
    · obtain ⟨k, rfl⟩ : ∃ k, i = pre.length + k := ⟨i - pre.length, by omega⟩
      rw [gt_2]
      exact d3 k (by omega)
  · rw [sA_n _ _ (by omega), hσ1, sA_n _ _ (by omega), hσ0]
    exact hr i hi
def extOK (g : pPg) (d D : Nat) : Prop := ∀ (pre : List Nat) (left : Nat), pre.length + d = g.1.2.2.1 → (fu pre g.1.2.2.1 0).length = d → Rd g pre left → left ≤ g.1.1 → ∀ (σ : ss_M) (M : Nat) (B : List Nat), oS g pre σ M B → M ≤ g.1.2.2.1 → ∃ σ', f_X3_extend D 0 (nI pre.length) (nI left) σ = some σ' ∧ QC σ σ' ∧ oS g pre σ' ((cm g.1.2.2.1 d pre).foldl (stp g) (M, B)).1 ((cm g.1.2.2.1 d pre).foldl (stp g) (M, B)).2
theorem v_extL {n0 d D left : Nat} {g : pPg} {pre : List Nat} (hg : gOk n0 g) (hw : g.1.2.2.1 ≤ 7) (IH : extOK g d D) (hd : pre.length + (d + 1) = g.1.2.2.1) (hf : (fu pre g.1.2.2.1 0).length = d + 1) (hR : Rd g pre left) (hl : left ≤ g.1.1) : ∀ m p : Nat, p + m = g.1.2.2.1 → ∀ (σ : ss_M) (M : Nat) (B : List Nat) (n : Nat), m < n → oS g pre σ M B → pre.length ≤ M → M ≤ g.1.2.2.1 → ∃ σ', f_X3_extend_L27 (f_X3_extend D) 0 (nI pre.length) (nI left) n (nI p) σ = some σ' ∧ QC σ σ' ∧ oS g pre σ' ((cml (cm g.1.2.2.1 d) pre m p).foldl (stp g) (M, B)).1 ((cml (cm g.1.2.2.1 d) pre m p).foldl (stp g) (M, B)).2 := by
  have hB := hg.1.2
  intro m
  induction m with
  | zero =>
    intro p hp σ M B n hn hS h1 h2
    obtain ⟨n', rfl⟩ : ∃ n', n = n' + 1 := ⟨n - 1, by omega⟩
    refine ⟨σ, ?_, QC.rf hS.1, hS⟩
    rw [f_X3_extend_L27, hS.2.1.1.2.2.1, if_pos (nI_le (by omega) (by omega))]
  | succ m ih =>
    intro p hp σ M B n hn hS h1 h2
    obtain ⟨n', rfl⟩ : ∃ n', n = n' + 1 := ⟨n - 1, by omega⟩
    obtain ⟨hL, hc, hM, hBs, hu, hr⟩ := hS
    have hpw : p < g.1.2.2.1 := by omega
    have lw : ∀ l, l ∈ cml (cm g.1.2.2.1 d) pre (m + 1) p → rdB g l ≤ g.1.2.2.1 := fun l hlm => by
      obtain ⟨q, _, q2⟩ := cml_in _ _ _ _ _ hlm
      exact rd_w (by rw [List.length_append]; show pre.length + 1 + d = _; omega) q2
    by_cases zM : g.1.2.2.1 ≤ M
    · rw [fo_keep g _ M B (fun l h => Nat.le_trans (lw l h) zM)]
      refine ⟨σ, ?_, QC.rf hL, hL, hc, hM, hBs, hu, hr⟩
      rw [f_X3_extend_L27, hc.1.2.2.1, if_neg (lit_nle (by omega) (by omega) (by omega)), if_neg (show ¬ (7 : Int32) ≤ nI p from lit_nle (a := 7) (by decide) (by omega) (by omega)), hM, if_pos (nI_le zM (by omega))]
    · have e7 : gd (nI p) 7 = true := gd_nI (by omega) (by decide)
      have ep : (nI p).toNatClampNeg = p := nI_clamp (by omega)
      have l9 := (hg.2.2.2.2.2.1 p hpw).2
      have E : ∀ X : Option ss_M, (∀ r6 : Int32, r6 = (if g.2.1 p ≤ left then nI (spGive (g.2.2.2.1.2.2.1 pre.length) (left - g.2.1 p) g.1.1) else -1) → (if sA σ 100 0 p = 0 then (if r6 = -1 then f_X3_extend_j123 (nI p) (f_X3_extend_L27 (f_X3_extend D) 0 (nI pre.length) (nI left) n') σ else if gd (nI p) 7 = true then (if gd (nI pre.length) 7 = true then ss_let (sAu (sAu σ 100 0 (upd (sA σ 100 0) p 1)) 3 0 (upd (sA (sAu σ 100 0 (upd (sA σ 100 0) p 1)) 3 0) (nI pre.length).toNatClampNeg (nI p))) (fun σm12 => Option.bind (f_X3_extend D 0 (nI pre.length + 1) r6 σm12) (fun σ13 => if gd (nI p) 7 = true then f_X3_extend_j123 (nI p) (f_X3_extend_L27 (f_X3_extend D) 0 (nI pre.length) (nI left) n') (sAu σ13 100 0 (upd (sA σ13 100 0) p 0)) else none)) else none) else none) else f_X3_extend_j123 (nI p) (f_X3_extend_L27 (f_X3_extend D) 0 (nI pre.length) (nI left) n') σ) = X) → f_X3_extend_L27 (f_X3_extend D) 0 (nI pre.length) (nI left) (n' + 1) (nI p) σ = X := by
        intro X h
        rw [f_X3_extend_L27, hc.1.2.2.1, if_neg (lit_nle (by omega) (by omega) (by omega)), if_neg (show ¬ (7 : Int32) ≤ nI p from lit_nle (a := 7) (by decide) (by omega) (by omega)), hM, if_neg (lit_nle (by omega) (by omega) (by omega)), if_pos (gd_nI (show p < 12 by omega) (by decide)), ep, hc.2.1 p hpw, hc.1.1, v_left (show pre.length < 12 by omega) (by omega) (by omega) (by omega), ss_bd_e, if_pos e7, hc.2.2.2.1.2.2.1 pre.length (by omega)]
        exact h _ rfl
      cases z : has pre p
      · have u0 : sA σ 100 0 p = 0 := by rw [hu p hpw, z, if_neg (show ¬ false = true by decide)]
        rw [cml_f z, List.foldl_append]
        by_cases zl : g.2.1 p ≤ left
        · obtain ⟨G, hG⟩ : ∃ G, G = spGive (g.2.2.2.1.2.2.1 pre.length) (left - g.2.1 p) g.1.1 := ⟨_, rfl⟩
          have hGB : G ≤ g.1.1 := by rw [hG]; exact spGive_le (by omega)
          obtain ⟨σ0, hσ0⟩ : ∃ σ0, σ0 = sAu σ 100 0 (upd (sA σ 100 0) p 1) := ⟨_, rfl⟩
          obtain ⟨σ1, hσ1⟩ : ∃ σ1, σ1 = sAu σ0 3 0 (upd (sA σ0 3 0) pre.length (nI p)) := ⟨_, rfl⟩
          have q0 : QC σ σ0 := by rw [hσ0]; exact QC_a hL (by omega)
          have q1 : QC σ σ1 := by rw [hσ1]; exact q0.tr (QC_a q0.1.1 (by omega))
          have len1 : (pre ++ [p]).length = pre.length + 1 := by rw [List.length_append]; rfl
          have S1 : oS g (pre ++ [p]) σ1 M B := by
            refine ⟨q1.1.1, hc.same hL (by decide) hg q1.2, by rw [hσ1, hσ0]; exact hM, fun i hi => ?_, fun i hi => ?_, fun i hi => ?_⟩
            · rw [hσ1, sA_n _ _ (by omega), hσ0, sA_n _ _ (by omega)]; exact hBs i hi
            · rw [hσ1, sA_n _ _ (by omega), hσ0, sA_m]
              by_cases y : i = p
              · rw [y, upd_m, has_m, if_pos rfl]
              · rw [upd_n y, has_n pre (fun x => y x.symm)]; exact hu i hi
            · rw [len1] at hi
              rw [hσ1, sA_m]
              by_cases y : i = pre.length
              · rw [y, upd_m]
                have := gt_2 pre [p] 0
                rw [Nat.add_zero] at this
                rw [this]
                rfl
              · rw [upd_n y, gt_1 _ _ _ (by omega), hσ0, sA_n _ _ (by omega)]
                exact hr i (by omega)
          have fl := fu_len pre p z g.1.2.2.1 0 (by omega) (by omega)
          have R1 := Rd_s hR zl
          rw [← hG] at R1
          obtain ⟨σ2, d1, d2, d3⟩ := IH (pre ++ [p]) G (by omega) (by omega) R1 hGB σ1 M B S1 h2
          have bd := fo_bd g g.1.2.2.1 (cm g.1.2.2.1 d (pre ++ [p])) (M, B) (fun l hl' => rd_w (by omega) hl') h2
          obtain ⟨s, hs⟩ : ∃ s, s = (cm g.1.2.2.1 d (pre ++ [p])).foldl (stp g) (M, B) := ⟨_, rfl⟩
          rw [← hs] at d3 bd ⊢
          obtain ⟨σ3, hσ3⟩ : ∃ σ3, σ3 = sAu σ2 100 0 (upd (sA σ2 100 0) p 0) := ⟨_, rfl⟩
          obtain ⟨kL, kc, kM, kB, ku, kr⟩ := d3
          have q3 : QC σ2 σ3 := by rw [hσ3]; exact QC_a kL (by omega)
          have S3 : oS g pre σ3 s.1 s.2 := by
            refine ⟨q3.1.1, kc.same kL (by decide) hg q3.2, by rw [hσ3]; exact kM, fun i hi => ?_, fun i hi => ?_, fun i hi => ?_⟩
            · rw [hσ3, sA_n _ _ (by omega)]; exact kB i hi
            · rw [hσ3, sA_m]
              by_cases y : i = p
              · rw [y, upd_m, z, if_neg (show ¬ false = true by decide)]
              · rw [upd_n y, ku i hi, has_n pre (fun x => y x.symm)]
            · rw [hσ3, sA_n _ _ (by omega), kr i (by omega), gt_1 _ _ _ hi]
          have bd' : M ≤ s.1 := bd.1
          obtain ⟨σ', e1, e2, e3⟩ := ih (p + 1) (by omega) σ3 s.1 s.2 n' (by omega) S3 (by omega) bd.2
          refine ⟨σ', E _ (fun r6 hr6 => ?_), (q1.tr d2).tr (q3.tr e2), e3⟩
          rw [if_pos zl, ← hG] at hr6
          rw [len1] at d1
          rw [if_pos u0, hr6, if_neg (nm1 (by omega)), if_pos e7, if_pos (gd_nI (by omega) (by decide)), nI_clamp (show pre.length < 2 ^ 31 by omega), ← hσ0, ← hσ1, ss_let, nIa1, d1, Option.bind_some, if_pos e7, ← hσ3]
          unfold f_X3_extend_j123
          rw [nIa1]
          exact e1
        · have st0 : (cm g.1.2.2.1 d (pre ++ [p])).foldl (stp g) (M, B) = (M, B) := fo_keep g _ M B (fun l hl' => by
            obtain ⟨r, r1, _⟩ := cm_in _ _ _ _ hl'
            rw [r1, Rd_stuck hR (by omega)]
            exact h1)
          rw [st0]
          obtain ⟨σ', e1, e2, e3⟩ := ih (p + 1) (by omega) σ M B n' (by omega) ⟨hL, hc, hM, hBs, hu, hr⟩ h1 h2
          refine ⟨σ', E _ (fun r6 hr6 => ?_), e2, e3⟩
          rw [if_neg zl] at hr6
          rw [if_pos u0, if_pos hr6]
          unfold f_X3_extend_j123
          rw [nIa1]
          exact e1
      · rw [cml_t z]
        have u1 : ¬ sA σ 100 0 p = 0 := by rw [hu p hpw, z, if_pos rfl]; decide
        obtain ⟨σ', e1, e2, e3⟩ := ih (p + 1) (by omega) σ M B n' (by omega) ⟨hL, hc, hM, hBs, hu, hr⟩ h1 h2
        refine ⟨σ', E _ (fun r6 hr6 => ?_), e2, e3⟩
        rw [if_neg u1]
        unfold f_X3_extend_j123
        rw [nIa1]
        exact e1
theorem v_ext {n0 : Nat} {g : pPg} (hg : gOk n0 g) (hw : g.1.2.2.1 ≤ 7) : ∀ d D : Nat, d < D → extOK g d D := by
  intro d
  induction d with
  | zero =>
    intro D hD pre left hd hf hR hl σ M B hS hM
    obtain ⟨D', rfl⟩ : ∃ n', D = n' + 1 := ⟨D - 1, by omega⟩
    have fin : ∀ σ1 M1 B1, oS g pre σ1 M1 B1 → pre.length ≤ M1 → M1 ≤ g.1.2.2.1 → f_X3_extend_j17 (f_X3_extend D') 0 (nI pre.length) (nI left) σ1 = some σ1 ∧ (cm g.1.2.2.1 0 pre).foldl (stp g) (M1, B1) = (M1, B1) := by
      intro σ1 M1 B1 hS1 h1 h2
      refine ⟨?_, fo_keep g _ M1 B1 (fun l hl' => Nat.le_trans (rd_w hd hl') (by omega))⟩
      unfold f_X3_extend_j17
      split
      · rw [show FU = 9999 + 1 from rfl, f_X3_extend_L27, hS1.2.1.1.2.2.1]
        by_cases w0 : g.1.2.2.1 = 0
        · rw [if_pos (show nI g.1.2.2.1 ≤ (0 : Int32) by rw [w0]; decide)]
        · rw [if_neg (show ¬ nI g.1.2.2.1 ≤ (0 : Int32) from lit_nle (i := 0) (by omega) (by decide) (by omega)), if_neg (show ¬ (7 : Int32) ≤ 0 by decide), hS1.2.2.1, if_pos (nI_le (by omega) (by omega))]
      · rfl
    by_cases z : pre.length ≤ M
    · obtain ⟨f1, f2⟩ := fin σ M B hS z hM
      rw [f2]
      refine ⟨σ, ?_, QC.rf hS.1, hS⟩
      rw [f_X3_extend, hS.2.2.1, if_pos (nI_le z (by omega))]
      exact f1
    · obtain ⟨σ1, k1, k2, k3⟩ := v_keep hg hw hd hf hS
      obtain ⟨f1, f2⟩ := fin σ1 _ _ k3 (Nat.le_refl _) (by omega)
      rw [fo_first hf hR (by omega), f2]
      refine ⟨σ1, ?_, k2, k3⟩
      rw [f_X3_extend, hS.2.2.1, if_neg (lit_nle (by omega) (by omega) (by omega)), hS.2.1.1.2.2.1, k1, Option.bind_some]
      exact f1
  | succ d ih =>
    intro D hD pre left hd hf hR hl σ M B hS hM
    obtain ⟨D', rfl⟩ : ∃ n', D = n' + 1 := ⟨D - 1, by omega⟩
    have fin : ∀ σ1 M1 B1, oS g pre σ1 M1 B1 → pre.length ≤ M1 → M1 ≤ g.1.2.2.1 → ∃ σ', f_X3_extend_j17 (f_X3_extend D') 0 (nI pre.length) (nI left) σ1 = some σ' ∧ QC σ1 σ' ∧ oS g pre σ' ((cm g.1.2.2.1 (d + 1) pre).foldl (stp g) (M1, B1)).1 ((cm g.1.2.2.1 (d + 1) pre).foldl (stp g) (M1, B1)).2 := by
      intro σ1 M1 B1 hS1 h1 h2
      unfold f_X3_extend_j17
      rw [if_pos (show nI pre.length < (7 : Int32) from nI_lt (b := 7) (by omega) (by decide))]
      exact v_extL hg hw (ih D' (by omega)) hd hf hR hl g.1.2.2.1 0 (Nat.zero_add _) σ1 M1 B1 FU (FU_gt (by omega)) hS1 h1 h2
    by_cases z : pre.length ≤ M
    · obtain ⟨σ', f1, f2, f3⟩ := fin σ M B hS z hM
      refine ⟨σ', ?_, f2, f3⟩
      rw [f_X3_extend, hS.2.2.1, if_pos (nI_le z (by omega))]
      exact f1
    · obtain ⟨σ1, k1, k2, k3⟩ := v_keep hg hw hd hf hS
      obtain ⟨σ', f1, f2, f3⟩ := fin σ1 _ _ k3 (Nat.le_refl _) (by omega)
      rw [← fo_first (M := M) (B := B) hf hR (by omega)] at f3
      refine ⟨σ', ?_, k2.tr f2, f3⟩
      rw [f_X3_extend, hS.2.2.1, if_neg (lit_nle (by omega) (by omega) (by omega)), hS.2.1.1.2.2.1, k1, Option.bind_some]
      exact f1
