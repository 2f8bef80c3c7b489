/-! THE FIRST STATE OF THE CLASS: the constructor's cells, by their codes; class and reference stand alike -/
def nR (p i : Nat) : Nat := if i < 8 then 4 + 8 * p + i else 36 + 4 * i + p
def σ0 : ss_M := (fun f _ => if f = 3 then 10 else if f = 4 then 2 else 0, fun _ _ _ => 0, fun f => if f = 1 then 1 else 0, fun _ _ => 0, nR)
/-- which page's past, and which place in it, a Marks object is -/
def mP (k : Nat) : Nat × Nat := if k < 36 then ((k - 4) / 8, (k - 4) % 8) else ((k - 36) % 4, (k - 36) / 4)
theorem mP_R {p i : Nat} (hp : p < 4) : ¬ nR p i < 4 ∧ mP (nR p i) = (p, i) := by
  unfold nR
  by_cases h : i < 8
  · rw [if_pos h]
    refine ⟨by omega, ?_⟩
    unfold mP
    rw [if_pos (by omega), show (4 + 8 * p + i - 4) / 8 = p by omega, show (4 + 8 * p + i - 4) % 8 = i by omega]
  · rw [if_neg h]
    refine ⟨by omega, ?_⟩
    unfold mP
    rw [if_neg (by omega), show (36 + 4 * i + p - 36) % 4 = p by omega, show (36 + 4 * i + p - 36) / 4 = i by omega]
def aM (U : Nat → pgS) (k : Nat) : Nat × Nat × Nat := if k < 4 then ((U k).1 1, (U k).1 2, (U k).1 3) else (U (mP k).1).2 (mP k).2
def ssA (h : Nat) (P : Nat → Nat) (U : Nat → pgS) (z : Nat → Nat) (v : plS) (sK sV : Nat → Nat) : ss_A := fun t c o => match t with
  | 0 => (match c with
    | 0 => z 12
    | 1 => (aM U o).1
    | 2 => z 8
    | 3 => P o
    | 4 => z 7
    | 5 => z 2
    | _ => h)
  | 1 => (match c with
    | 0 => (aM U o).2.1
    | 1 => (aM U o).2.2
    | 2 => z 9
    | 3 => z 10
    | 4 => (U o).1 0
    | 5 => (U o).1 4
    | 6 => v.2.1 o
    | 7 => v.2.2.1 o
    | 8 => v.2.2.2 o
    | 9 => v.1 3
    | 10 => v.1 4
    | 11 => z 3
    | 12 => z 4
    | 13 => z 5
    | 14 => z 6
    | _ => z 15)
  | 2 => (match c with
    | 0 => z 11
    | _ => z 1)
  | 3 => (match c with
    | 0 => z 13
    | _ => z 14)
  | 4 => (match c with
    | 0 => (U o).1 5
    | 1 => z 0
    | 2 => v.1 0
    | 3 => v.1 1
    | _ => v.1 2)
  | _ => (match c with
    | 0 => sK o
    | _ => sV o)
def Kmk (k : Nat) : List ss_K := [(0, 1, k), (1, 0, k), (1, 1, k)]
def Kpg (p : Nat) : List ss_K := (0, 3, p) :: (4, 0, p) :: ((1, 4, p) :: (Kmk p ++ [(1, 5, p)]) ++ (List.range 8).flatMap fun j => Kmk (nR p j))
def Ktx : List ss_K := [(0, 5, 0), (1, 11, 0), (1, 12, 0), (1, 13, 0), (1, 14, 0)]
def Kpl : List ss_K := ((0, 4, 0) :: (4, 2, 0) :: (List.range 13).map fun i => (1, 6, i)) ++ (((4, 3, 0) :: (List.range 13).map fun i => (1, 7, i)) ++ ((4, 4, 0) :: ((List.range 12).map (fun i => (1, 8, i)) ++ [(1, 9, 0), (1, 10, 0)])))
def Kor : List ss_K := [(0, 2, 0), (1, 2, 0), (1, 3, 0), (2, 0, 0)]
def Kch : List ss_K := [(0, 0, 0), (3, 0, 0), (3, 1, 0)]
def K0 : List ss_K := (0, 6, 0) :: (4, 1, 0) :: (Kpg 0 ++ (Kpg 1 ++ (Kpg 2 ++ (Kpg 3 ++ ((2, 1, 0) :: (Ktx ++ (Kpl ++ (Kor ++ (Kch ++ [(1, 15, 0)])))))))))
set_option maxRecDepth 100000 in
theorem K0_all : ∀ k ∈ kS 0, k ∈ K0 := by decide +kernel
section SSA
variable {Y : Nat → ClassId} {h : Nat} {P : Nat → Nat} {U : Nat → pgS} {z : Nat → Nat} {v : plS} {sK sV : Nat → Nat}
theorem kE_mk (k : Nat) : mW Y (aM U k).1 (aM U k).2.1 (aM U k).2.2 = wsK Y (ssA h P U z v sK sV) σ0 (Kmk k) := rfl
theorem kE_pg {p : Nat} (hp : p < 4) : pgW Y (P p) (U p) = wsK Y (ssA h P U z v sK sV) σ0 (Kpg p) := by
  have e1 : (fun j => some ((U p).2 j).1) = fun i => some (ssA h P U z v sK sV 0 1 (nR p i)) := by
    funext j
    have q := mP_R (p := p) (i := j) hp
    show _ = some (aM U (nR p j)).1
    unfold aM
    rw [if_neg q.1, q.2]
  have e2 : mW Y ((U p).1 1) ((U p).1 2) ((U p).1 3) = wsK Y (ssA h P U z v sK sV) σ0 (Kmk p) := by
    rw [← kE_mk p]
    unfold aM
    rw [if_pos hp]
  have e3 : mkL Y 8 (U p).2 = wsK Y (ssA h P U z v sK sV) σ0 ((List.range 8).flatMap fun j => Kmk (nR p j)) := by
    unfold mkL wsK
    rw [List.map_flatMap]
    refine fm_congr (fun j _ => ?_)
    have q := mP_R (p := p) (i := j) hp
    have e : aM U (nR p j) = (U p).2 j := by
      unfold aM
      rw [if_neg q.1, q.2]
    rw [← e]
    rfl
  unfold pgW pgX
  rw [e1, e2, e3]
  unfold Kpg
  have e4 : aM U p = ((U p).1 1, (U p).1 2, (U p).1 3) := if_pos hp
  show _ = (P p, .inr (3, [.int 10, .int 2, .int 0, .int 0, .int 0, .ref ((U p).1 0), .ref (aM U p).1, .ref ((U p).1 4), .ref ((U p).1 5)])) :: ((U p).1 5, qE (Y 3) 8 (fun i => some (ssA h P U z v sK sV 0 1 (nR p i)))) :: wsK Y (ssA h P U z v sK sV) σ0 (((1, 4, p) :: (Kmk p ++ [(1, 5, p)])) ++ (List.range 8).flatMap fun j => Kmk (nR p j))
  rw [e4, wsK_app]
  show _ = _ :: _ :: (((U p).1 0, iE Y 12) :: wsK Y (ssA h P U z v sK sV) σ0 (Kmk p ++ [(1, 5, p)])) ++ _
  rw [wsK_app]
  rfl
theorem kE_pl : plV Y (z 7) v.1 v.2.1 v.2.2.1 v.2.2.2 = wsK Y (ssA h P U z v sK sV) σ0 Kpl := rfl
theorem kE_all : ssW Y h (P, U, z, v) = wsK Y (ssA h P U z v sK sV) σ0 K0 := by
  unfold ssW ssX K0
  show (h, .inr (6, ssO P z)) :: (z 0, qE (Y 4) 2 (fun i => some (P (2 + i)))) :: _ = (h, .inr (6, ssO P z)) :: (z 0, qE (Y 4) 2 (fun i => some (P (2 + i)))) :: wsK Y (ssA h P U z v sK sV) σ0 (Kpg 0 ++ (Kpg 1 ++ (Kpg 2 ++ (Kpg 3 ++ ((2, 1, 0) :: (Ktx ++ (Kpl ++ (Kor ++ (Kch ++ [(1, 15, 0)])))))))))
  rw [wsK_app, wsK_app, wsK_app, wsK_app, ← kE_pg (by decide), ← kE_pg (by decide), ← kE_pg (by decide), ← kE_pg (by decide)]
  show _ = (h, .inr (6, ssO P z)) :: (z 0, qE (Y 4) 2 (fun i => some (P (2 + i)))) :: (pgW Y (P 0) (U 0) ++ (pgW Y (P 1) (U 1) ++ (pgW Y (P 2) (U 2) ++ (pgW Y (P 3) (U 3) ++ ((z 1, .inl (Y 2, 2, .inl (fun _ => 0))) :: wsK Y (ssA h P U z v sK sV) σ0 (Ktx ++ (Kpl ++ (Kor ++ (Kch ++ [(1, 15, 0)])))))))))
  rw [wsK_app, wsK_app, wsK_app, wsK_app, ← kE_pl]
  rfl
end SSA
/-- class and reference stand alike when they are new -/
theorem Cpl_0 : Cpl 0 σ0 τJ := by
  refine ⟨fun p hp => ⟨fun j hj => ?_, fun i j hi hj e => ?_⟩, ⟨((10, 2, 0, 0, 0), fun _ => 1, fun _ => 0, (0, 0, fun _ => 0, fun _ => 0), fun _ => (0, 0, fun _ => 0, fun _ => 0)), ?_, ?_, ?_⟩, ⟨0, by decide, rfl, rfl, fun i hi => absurd hi (Nat.not_lt_zero _)⟩, ⟨rfl, rfl⟩, ⟨rfl, rfl, rfl⟩, Or.inl ⟨rfl, rfl⟩, Or.inl ⟨rfl, rfl⟩⟩
  · show 4 + 8 * p ≤ nR p j ∧ nR p j < 12 + 8 * p
    unfold nR
    rw [if_pos hj]
    omega
  · have e : nR p i = nR p j := e
    unfold nR at e
    rw [if_pos hi, if_pos hj] at e
    omega
  · exact ⟨by decide, by decide, by decide, by decide, by decide, fun i hi => absurd hi (Nat.not_lt_zero _), ⟨by decide, by decide, fun i hi => absurd hi (Nat.not_lt_zero _)⟩, fun i hi => absurd hi (Nat.not_lt_zero _)⟩
  · exact ⟨⟨rfl, rfl, rfl, rfl, rfl⟩, fun i hi => absurd hi (Nat.not_lt_zero _), fun i hi => absurd hi (Nat.not_lt_zero _), ⟨rfl, rfl, fun i hi => absurd hi (Nat.not_lt_zero _), fun i hi => absurd hi (Nat.not_lt_zero _)⟩, fun i hi => absurd hi (Nat.not_lt_zero _)⟩
  · exact ⟨⟨rfl, rfl, rfl, rfl, rfl⟩, fun i hi => absurd hi (Nat.not_lt_zero _), fun i hi => absurd hi (Nat.not_lt_zero _), ⟨rfl, rfl, fun i hi => absurd hi (Nat.not_lt_zero _), fun i hi => absurd hi (Nat.not_lt_zero _)⟩, fun i hi => absurd hi (Nat.not_lt_zero _)⟩
