/-! odds, the whole -/
def iOn (g : pPg) (f : Nat → Nat) (σ τ : ss_M) : Prop := LAY σ ∧ cPg σ 0 g ∧ mPg τ g ∧ rwN (sB σ 0) f ∧ rwN (sB τ 2) f
theorem pl_L {n0 p : Nat} {g : pPg} (k1 : Int64 → ss_M → Option ss_M) (k2 : Int64 → ss_M → Option (Int32 × ss_M)) (hg : gOk n0 g) (hp : p ≤ 10) : ∀ m i : Nat, i + m = g.1.2.2.1 → ∀ (f : Nat → Nat) (T : Nat) (σ τ : ss_M) (n1 n2 : Nat), iOn g f σ τ → smK f 31 ≤ T → (∀ x, g.1.1 < x → x < 31 → f x = 0) → 0 < T → T * 10 ^ m ≤ 10 ^ 12 → m < n1 → m < n2 → ∃ f' T' σ' τ', f_X0_reckon_L23 0 (nI p) k1 n1 (lN T) (nI i) σ = k1 (lN T') σ' ∧ f_X8_odds_L53 (nI p) k2 n2 (lN T) (nI i) τ = k2 (lN T') τ' ∧ iOn g f' σ' τ' ∧ smK f' 31 ≤ T' ∧ (∀ x, g.1.1 < x → x < 31 → f' x = 0) ∧ 0 < T' ∧ T' ≤ 10 ^ 12 ∧ QC σ σ' ∧ QM τ τ' := by
  have h12 := hg.2.2.1
  have hB := hg.1.2
  intro m
  induction m with
  | zero =>
    intro i hi f T σ τ n1 n2 I hs hz h0 hT h1 h2
    obtain ⟨n1', rfl⟩ : ∃ n', n1 = n' + 1 := ⟨n1 - 1, by omega⟩
    obtain ⟨n2', rfl⟩ : ∃ n', n2 = n' + 1 := ⟨n2 - 1, by omega⟩
    refine ⟨f, T, σ, τ, ?_, ?_, I, hs, hz, h0, by rw [Nat.pow_zero, Nat.mul_one] at hT; exact hT, QC.rf I.1, QM.rf⟩
    · rw [f_X0_reckon_L23, I.2.1.1.2.2.1, if_pos (nI_le (by omega) (by omega))]
    · rw [f_X8_odds_L53, I.2.2.1.1.2.2.1, if_pos (nI_le (by omega) (by omega))]
  | succ m ih =>
    intro i hi f T σ τ n1 n2 I hs hz h0 hT h1 h2
    obtain ⟨n1', rfl⟩ : ∃ n', n1 = n' + 1 := ⟨n1 - 1, by omega⟩
    obtain ⟨n2', rfl⟩ : ∃ n', n2 = n' + 1 := ⟨n2 - 1, by omega⟩
    have hiw : i < g.1.2.2.1 := by omega
    have l9 := (hg.2.2.2.2.2.1 i hiw).2
    have nw : ¬ nI g.1.2.2.1 ≤ nI i := lit_nle (by omega) (by omega) (by omega)
    have e12 : gd (nI i) 12 = true := gd_nI (by omega) (by decide)
    have ei : (nI i).toNatClampNeg = i := nI_clamp (by omega)
    obtain ⟨mk, hmk⟩ : ∃ mk : Bool, mk = !decide (g.2.2.2.1.2.2.1 i = -1) := ⟨_, rfl⟩
    obtain ⟨a, ha⟩ : ∃ a, a = if mk then p else 1 := ⟨_, rfl⟩
    obtain ⟨b, hb⟩ : ∃ b, b = if mk then 10 - p else 0 := ⟨_, rfl⟩
    obtain ⟨W, hW⟩ : ∃ W, W = if mk then 10 else 1 := ⟨_, rfl⟩
    have hab : a + b = W := by rw [ha, hb, hW]; cases mk <;> simp <;> omega
    obtain ⟨σ1, hσ1⟩ : ∃ σ1, σ1 = sBu σ 1 (flB (sB σ 1) 0 31) := ⟨_, rfl⟩
    obtain ⟨τ1, hτ1⟩ : ∃ τ1, τ1 = sBu τ 3 (flB (sB τ 3) 0 31) := ⟨_, rfl⟩
    have qc1 : QC σ σ1 := by rw [hσ1]; exact QC_b I.1
    have qm1 : QM τ τ1 := by rw [hτ1]; exact QM_b
    have I1 : iOd g f (fun _ => 0) σ1 τ1 := by
      refine ⟨by rw [hσ1]; exact I.1, I.2.1.same I.1 (by decide) hg qc1.2, I.2.2.1.same qm1.2, ⟨?_, ?_⟩, ?_, ?_⟩
      · rw [hσ1, sB_n _ _ (by decide)]; exact I.2.2.2.1
      · rw [hτ1, sB_n _ _ (by decide)]; exact I.2.2.2.2
      · rw [hσ1, sB_m]; intro c hc; unfold flB; rw [if_pos hc]; rfl
      · rw [hτ1, sB_m]; intro c hc; unfold flB; rw [if_pos hc]; rfl
    have z0 : ∀ k, smK (fun _ => 0) k = 0 := by
      intro k
      induction k with
      | zero => rfl
      | succ k ih => rw [smK, ih]
    obtain ⟨h', σ2, τ2, d1, d2, d3, d4, d5, d6, d7⟩ := od_L f_X0_step_j103 (f_X8_odds_j225 (lN T) (nI i) (f_X8_odds_L53 (nI p) k2 n2') (if mk then 1 else 0)) hg hiw hp mk a b ⟨ha, hb⟩ 31 (g.2.1 i) (by omega) (Nat.le_refl _) (by omega) (fun _ => 0) σ1 τ1 FU FU I1 (by rw [z0]; exact Nat.zero_le _) (fun _ _ _ => rfl) (FU_gt (by decide)) (FU_gt (by decide))
    obtain ⟨σ3, hσ3⟩ : ∃ σ3, σ3 = sBu σ2 0 (va_cpy (sB σ2 1) (sB σ2 0) 0 0 31) := ⟨_, rfl⟩
    obtain ⟨τ3, hτ3⟩ : ∃ τ3, τ3 = sBu τ2 2 (cpB (sB τ2 2) (sB τ2 3) 31) := ⟨_, rfl⟩
    have qc3 : QC σ2 σ3 := by rw [hσ3]; exact QC_b d3.1
    have qm3 : QM τ2 τ3 := by rw [hτ3]; exact QM_b
    have I3 : iOn g h' σ3 τ3 := by
      refine ⟨by rw [hσ3]; exact d3.1, d3.2.1.same d3.1 (by decide) hg qc3.2, d3.2.2.1.same qm3.2, ?_, ?_⟩
      · rw [hσ3, sB_m]
        intro c hc
        rw [pk_cpy_in (by omega) (by omega)]
        have : (0 : Nat) + (c - 0) = c := by omega
        rw [this]
        exact d3.2.2.2.2.1 c hc
      · rw [hτ3, sB_m]
        intro c hc
        unfold cpB
        rw [if_pos hc]
        exact d3.2.2.2.2.2 c hc
    have hmono : smK f (max (g.2.1 i) (g.1.1 + 1)) ≤ smK f 31 := sm_mono f (by omega)
    have s3 : smK h' 31 ≤ T * W := by
      rw [hab] at d4
      have e1 := Nat.mul_le_mul_left W (Nat.le_trans hmono hs)
      rw [Nat.mul_comm T W]
      omega
    have hW1 : 1 ≤ W ∧ W ≤ 10 := by rw [hW]; cases mk <;> simp
    have hT2 : T * W * 10 ^ m ≤ 10 ^ 12 := by
      have e1 : T * W * 10 ^ m ≤ T * 10 * 10 ^ m := Nat.mul_le_mul_right _ (Nat.mul_le_mul_left _ hW1.2)
      have e2 : T * 10 * 10 ^ m = T * 10 ^ (m + 1) := by rw [Nat.pow_succ, Nat.mul_assoc, Nat.mul_comm 10 (10 ^ m)]
      omega
    obtain ⟨f', T', σ', τ', b1, b2, b3, b4, b5, b6, b7, b8, b9⟩ := ih (i + 1) (by omega) h' (T * W) σ3 τ3 n1' n2' I3 s3 d5 (Nat.mul_pos h0 (by omega)) hT2 (by omega) (by omega)
    have st : f_X0_step 0 (nI i) (nI a) (nI b) σ = some σ3 := by
      unfold f_X0_step
      rw [v_fillB, Option.bind_some, ← hσ1, if_pos e12, ei, I1.2.1.2.1 i hiw]
      refine Eq.trans d1 ?_
      unfold f_X0_step_j103
      rw [if_pos gdc31, c_0, c31, ← hσ3]
    refine ⟨f', T', σ', τ', ?_, ?_, b3, b4, b5, b6, b7, ((qc1.tr d6).tr qc3).tr b8, ((qm1.tr d7).tr qm3).tr b9⟩
    · rw [f_X0_reckon_L23, I.2.1.1.2.2.1, if_neg nw, if_pos e12, ei, I.2.1.2.2.2.1.2.2.1 i hiw]
      unfold f_X0_reckon_j51 f_X0_reckon_j67 f_X0_reckon_j80 f_X0_reckon_j96
      rw [nIa1]
      by_cases z : g.2.2.2.1.2.2.1 i = -1
      · have hm : mk = false := by rw [hmk, decide_eq_true z]; rfl
        rw [hm] at ha hb hW
        rw [if_pos z, if_pos rfl, if_pos rfl, show (1 : Int32) = nI a by rw [ha]; rfl, show (0 : Int32) = nI b by rw [hb]; rfl, st, Option.bind_some, if_pos rfl, show (1 : Int64) = lN W by rw [hW]; rfl, lN_mul]
        exact b1
      · have hm : mk = true := by rw [hmk, decide_eq_false z]; rfl
        rw [hm] at ha hb hW
        rw [if_neg z, if_neg n10, if_neg n10, show (10 : Int32) = nI 10 from rfl, nIs hp, show nI (10 - p) = nI b by rw [hb]; rfl, show nI p = nI a by rw [ha]; rfl] at *
        rw [st, Option.bind_some, if_neg n10, show (10 : Int64) = lN W by rw [hW]; rfl, lN_mul]
        exact b1
    · have fa := wB_L65 (f_X8_odds_j86 (nI p) (lN T) (nI i) (f_X8_odds_L53 (nI p) k2 n2')) τ (sB τ 3) 31 0 rfl FU (FU_gt (by decide))
      rw [flB_0, ex_sB, ← hτ1] at fa
      have fb := wB_L228 (f_X8_odds_j255 (lN T) (nI i) (f_X8_odds_L53 (nI p) k2 n2') (if mk then 1 else 0)) τ2 (sB τ2 2) 31 0 rfl FU (FU_gt (by decide))
      rw [cpB_0, ex_sB, ← hτ3] at fb
      have fc : f_X8_odds_j225 (lN T) (nI i) (f_X8_odds_L53 (nI p) k2 n2') (if mk then 1 else 0) τ2 = k2 (lN T') τ' := by
        refine Eq.trans fb ?_
        unfold f_X8_odds_j255 f_X8_odds_j268
        rw [nIa1]
        cases mk
        · rw [if_neg (show ¬ false = true by decide), if_pos rfl, show (1 : Int64) = lN W by rw [hW]; rfl, lN_mul]
          exact b2
        · rw [if_pos rfl, if_neg n10, show (10 : Int64) = lN W by rw [hW]; rfl, lN_mul]
          exact b2
      have fd := d2.trans fc
      rw [f_X8_odds_L53, I.2.2.1.1.2.2.1, if_neg nw]
      refine Eq.trans fa ?_
      unfold f_X8_odds_j86 f_X8_odds_j102
      rw [if_pos e12, ei, I1.2.2.1.2.2.2.1.2.2.1 i hiw, I1.2.2.1.2.1 i hiw, if_pos e12, if_pos e12]
      by_cases z : g.2.2.2.1.2.2.1 i = -1
      · have hm : mk = false := by rw [hmk, decide_eq_true z]; rfl
        rw [hm] at fd
        rw [if_pos z]
        exact fd
      · have hm : mk = true := by rw [hmk, decide_eq_false z]; rfl
        rw [hm] at fd
        rw [if_neg z]
        exact fd
theorem sim_odds {n : Nat} {σ τ : ss_M} (H : Cpl n σ τ) (p0 : Int32) : simI n (f_X7_odds p0 σ) (f_X8_odds p0 τ) := by
  obtain ⟨g, hg, hc, hm⟩ := H.2.1
  have hB := hg.1.2
  have h12 := hg.2.2.1
  unfold f_X7_odds f_X8_odds
  by_cases h : 0 ≤ p0 ∧ p0 ≤ 10
  · obtain ⟨p, -, hp, rfl⟩ := i_mid (a := 0) (b := 10) (by omega) h.1 h.2 (by omega)
    rw [v_in1 h, w_in1 h, ss_bd_e, ss_bd_e, if_neg n10, if_neg n10]
    obtain ⟨σ1, hσ1⟩ : ∃ σ1, σ1 = sBu σ 0 (vp_updL (flB (sB σ 0) 0 31) g.1.1 1) := ⟨_, rfl⟩
    obtain ⟨τ1, hτ1⟩ : ∃ τ1, τ1 = sBu τ 2 (stL g.1.1 (sB τ 2) 31) := ⟨_, rfl⟩
    have qc1 : QC σ σ1 := by rw [hσ1]; exact QC_b H.1
    have qm1 : QM τ τ1 := by rw [hτ1]; exact QM_b
    obtain ⟨f, hf⟩ : ∃ f : Nat → Nat, f = adN (fun _ => 0) g.1.1 1 := ⟨_, rfl⟩
    have z0 : ∀ k, smK (fun _ => 0) k = 0 := by
      intro k
      induction k with
      | zero => rfl
      | succ k ih => rw [smK, ih]
    have I : iOn g f σ1 τ1 := by
      refine ⟨by rw [hσ1]; exact H.1, hc.same H.1 (by decide) hg qc1.2, hm.same qm1.2, ?_, ?_⟩
      · rw [hσ1, sB_m, hf]
        intro c hc'
        unfold adN
        by_cases q : c = g.1.1
        · rw [q, pk_uLs, if_pos rfl]; rfl
        · rw [pk_uLn q, if_neg q]
          unfold flB
          rw [if_pos hc']; rfl
      · rw [hτ1, sB_m, hf]
        intro c hc'
        unfold stL adN
        rw [if_pos hc']
        by_cases q : c = g.1.1
        · rw [if_pos q, if_pos q]; rfl
        · rw [if_neg q, if_neg q]; rfl
    have s0 : smK f 31 ≤ 1 := by
      rw [hf, sm_ad, z0]
      split <;> omega
    have p12 : 1 * 10 ^ g.1.2.2.1 ≤ 10 ^ 12 := by
      rw [Nat.one_mul]
      exact Nat.pow_le_pow_right (by decide) h12
    obtain ⟨f', T', σ2, τ2, d1, d2, d3, d4, d5, d6, d7, d8, d9⟩ := pl_L (f_X0_reckon_j104 0) f_X8_odds_j276 hg hp g.1.2.2.1 0 (Nat.zero_add _) f 1 σ1 τ1 FU FU I s0 (fun x x1 x2 => by rw [hf]; unfold adN; rw [if_neg (by omega)]) (by decide) p12 (FU_gt (by omega)) (FU_gt (by omega))
    have t62 : T' < 2 ^ 62 := by omega
    have s62 : smK f' 31 < 2 ^ 62 := by omega
    have eS : smK f' (g.1.1 + 1) = smK f' 31 := (sm_z d5 31 (by omega) (by omega)).symm
    have sv := v_sum (f_X0_reckon_j137 (lN T')) hB d3.2.1.1.1 d3.2.2.2.1 (g.1.1 + 1) 0 (Nat.zero_add _) FU (FU_gt (by omega))
    have sw := w_sum (f_X8_odds_j307 (lN T')) d3.2.2.2.2 31 0 rfl FU (FU_gt (by omega))
    obtain ⟨G, hG⟩ : ∃ G, G = lN (Nat.gcd (smK f' 31) T') := ⟨_, rfl⟩
    have e1 : f_X0_reckon 0 (nI p) σ = some (sLu (sLu σ2 0 (lN (smK f' 31) / G)) 1 (lN T' / G)) := by
      unfold f_X0_reckon
      rw [v_fillB, Option.bind_some, sG_B', hc.1.1, if_pos (gd_nI (by omega) (by decide)), nI_clamp (by omega), sB_m, sB_2, ← hσ1]
      refine Eq.trans d1 ?_
      unfold f_X0_reckon_j104
      refine Eq.trans sv ?_
      unfold f_X0_reckon_j137
      rw [eS, v_lowest s62 t62 d6, Option.bind_some, ← hG]
    have e2 : f_X8_odds_L17 (f_X8_odds_j48 (nI p)) FU 0 τ = some (1, sLu (sLu τ2 2 (lN (smK f' 31) / G)) 3 (lN T' / G)) := by
      have fa := wB_L17 (f_X8_odds_j48 (nI p)) τ (sB τ 2) hB hm.1.1 31 0 rfl FU (FU_gt (by decide))
      rw [show stL g.1.1 (sB τ 2) 0 = sB τ 2 by funext j; unfold stL; rw [if_neg (by omega)], ex_sB, ← hτ1] at fa
      refine fa.trans (Eq.trans d2 ?_)
      unfold f_X8_odds_j276
      refine Eq.trans sw ?_
      unfold f_X8_odds_j307
      rw [w_lowest s62 t62 d6, Option.bind_some, ← hG]
    rw [e1, Option.bind_some, e2]
    have H2 := H.q (qc1.tr d8) (qm1.tr d9)
    obtain ⟨a1, a2, a3, a4, a5, a6, a7⟩ := H2
    refine ⟨1, _, _, rfl, rfl, ⟨a1, a2, a3, ⟨?_, ?_⟩, a5, a6, a7⟩⟩
    · rw [sL_n _ _ (by decide), sL_m, sL_n _ _ (by decide), sL_m]
    · rw [sL_m, sL_m]
  · rw [v_in0 h, w_in0 h, ss_bd_e, ss_bd_e, if_pos rfl, if_pos rfl, v_bad, w_bad]
    exact ⟨_, _, _, rfl, rfl, R_bad H⟩
