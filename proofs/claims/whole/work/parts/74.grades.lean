/-! PURE: grades; the first state -/
theorem mk_s : ∀ k, k < 31 → (mk8 8 (nI k) = nI k ∧ nw8 8 (nI k) = nI k) ∧ mk8 16 (nI k) = nI k ∧ nw8 16 (nI k) = nI k := by decide +kernel
theorem mk_small {b : Int32} (hb : b = 8 ∨ b = 16 ∨ b = 32) {k : Nat} (hk : k < 31) : mk8 b (nI k) = nI k ∧ nw8 b (nI k) = nI k := by
  rcases hb with rfl | rfl | rfl
  · exact (mk_s k hk).1
  · exact (mk_s k hk).2
  · exact ⟨rfl, rfl⟩
/-- a number of a sheet, told either way, is 1 to 30, or is not -/
theorem mk_30 {b S : Int32} (hb : b = 8 ∨ b = 16 ∨ b = 32) (hS : nw8 b S = S) : (iw (mk8 b S) 1 30 = 0 ↔ iw S 1 30 = 0) ∧ (¬ iw S 1 30 = 0 → mk8 b S = S ∧ ∃ k, 1 ≤ k ∧ k ≤ 30 ∧ S = nI k) := by
  have h2 : ¬ iw S 1 30 = 0 → mk8 b S = S ∧ ∃ k, 1 ≤ k ∧ k ≤ 30 ∧ S = nI k := by
    intro h
    obtain ⟨k, k1, k2, rfl⟩ := iw_nat (a := 1) (b := 30) (iw_of h).1 (iw_of h).2 (by decide) (by decide)
    exact ⟨(mk_small hb (by omega)).1, k, k1, k2, rfl⟩
  refine ⟨⟨fun h => ?_, fun h => ?_⟩, h2⟩
  · by_cases z : iw S 1 30 = 0
    · exact z
    · rw [(h2 z).1] at h; exact h
  · by_cases z : iw (mk8 b S) 1 30 = 0
    · exact z
    · exfalso
      obtain ⟨k, k1, k2, e⟩ := iw_nat (a := 1) (b := 30) (iw_of z).1 (iw_of z).2 (by decide) (by decide)
      obtain ⟨s1, s2⟩ := mk_small hb (show k < 31 by omega)
      have : nw8 b S = nw8 b (nI k) := mk_iff.mp (by rw [e, s1])
      rw [hS, s2] at this
      rw [e] at z
      rw [this] at h
      exact z h
theorem Wf_grades {g h : Nat → Int32} {n nt no nf u : Nat} (hu : u ≤ 6) (E : ∀ k, (k < 8 ∨ 8 + u ≤ k) → h k = g k) (hS : ∀ i, i < u → ∃ v, 1 ≤ v ∧ v ≤ 30 ∧ h (8 + i) = nI v) (hW : Wf g n nt no nf) : Wf h n nt no nf := by
  obtain ⟨h0, ⟨h1, h2, h3, h4⟩, h5, h6, h7, h8, h9, h10⟩ := hW
  refine ⟨h0, ⟨by rw [E _ (by omega), h1], by rw [E _ (by omega), h2], by rw [E _ (by omega), h3], by rw [E _ (by omega), h4]⟩, fun k hk => by rw [E _ (by omega)]; exact h5 k hk, fun k hk => ?_, fun t ht => WfT_upd (fun k q1 q2 => E k (by omega)) (h7 t ht), fun o ho => WfO_upd (fun k q1 q2 => E k (by omega)) (h8 o ho), fun o t ho ht => by rw [E _ (by omega)]; exact h9 o t ho ht, fun k hk => by rw [E _ (by omega), E _ (by omega)]; exact h10 k hk⟩
  by_cases z : k < u
  · exact hS k z
  · rw [E _ (by omega)]; exact h6 k hk
theorem s_grades {σ : Sg} (hI : Inv σ) (a1 : Int32) : Two (fX10_grades 0 a1) (fX11_grades 373 a1) σ := by
  obtain ⟨n, nt, no, nf, hL, hW, h4, h7, h13, h3⟩ := hI.k
  obtain ⟨g0, g14, g40, g161⟩ := hW.2.1
  have hn := hW.st
  have hn2 : 2 ≤ n := hW.1.1.1
  have hSh : Shs σ := by obtain ⟨_, _, _, _, -, -, -, hS, -⟩ := hI; exact hS
  by_cases A : iw a1 0 3 = 0
  · refine two_find (-100001) hI ?_ (fun τ hτ => ?_)
    · unfold fX10_grades
      rw [e10_isSheet, bd_v, if_pos A, e10_finding, bd_v]
    · unfold fX11_grades
      rw [e11_isSheet, bd_v, if_pos A, e11_finds, bd_v]
  obtain ⟨x, -, hx, rfl⟩ := iw_nat (a := 0) (b := 3) (iw_of A).1 (iw_of A).2 (by decide) (by decide)
  obtain ⟨t1, t2, ⟨c, hc60, t3, t4⟩, t5⟩ := hSh x (by omega)
  obtain ⟨s1, s2, s3⟩ := rf_sh x (by omega)
  have pn : nI n - 1 = nI (n - 1) := by obtain ⟨j, rfl⟩ : ∃ j, n = j + 1 := ⟨n - 1, by omega⟩; rw [nI_pred]; rfl
  obtain ⟨u, hu, hu6, hu60, ecl, erf⟩ : ∃ u, u = (if c < n - 1 then c else n - 1) ∧ u ≤ 6 ∧ u ≤ c ∧ (fX10_grades 0 (nI x) σ = if σ 376 x = 0 then some (-100002, wr σ 0 5 (σ 0 5 + 1)) else lq1 (fX10_grades_58 0 (shX x) (nI u)) FU 0 σ) ∧ ∀ τ : Sg, τ 374 = σ 374 → τ 376 = σ 376 → τ 377 = σ 377 → fX11_grades 373 (nI x) τ = if σ 376 x = 0 then some (-100002, wr τ 373 4 (τ 373 4 + 1)) else lq1 (fX11_grades_68 373 (nI x) (nI u)) FU 0 τ := by
    refine ⟨if c < n - 1 then c else n - 1, rfl, by split <;> omega, by split <;> omega, ?_, fun τ q1 q2 q3 => ?_⟩
    · unfold fX10_grades
      rw [e10_isSheet, bd_v, if_neg A, ln_sh, gd_in (n := 4) (by omega) (by decide), nI_cl (by omega), s1, e7_isMissing, bd_v, t2, rf_0_2, rf_3_0, h4, pn, t4]
      by_cases z : σ 376 x = 0
      · rw [if_pos z, if_neg (by decide), if_pos z, e10_finding, bd_v]
      · rw [if_neg z, if_pos rfl, if_neg z, lt_v, lt_v]
        by_cases y : c < n - 1
        · rw [if_neg (nI_nlt (by omega) (by omega)), if_pos y]
        · rw [if_neg y]
          by_cases y2 : n - 1 < c
          · rw [if_pos (nI_lt y2 (by omega))]
          · rw [if_neg (nI_nlt (by omega) (by omega)), show c = n - 1 from by omega]
    · unfold fX11_grades fX11_grades_65
      rw [e11_isSheet, bd_v, if_neg A, rf_373_5, rf_373_6, rf_373_0, ln_374, ln_376, ln_377, gd_in (n := 4) (by omega) (by decide), gd_in (n := 4) (by omega) (by decide), gd_in (n := 4) (by omega) (by decide), gd_t (show inR (0 : Int32) 174 by decide), gd_t (show inR (0 : Int32) 174 by decide), cl0, nI_cl (by omega), q1, q2, q3, g0, pn, t3, e11_finds]
      simp only [lt_v, bd_v]
      by_cases z : σ 376 x = 0
      · rw [if_pos z, if_pos z]
      · rw [if_neg z, if_neg z]
        by_cases y : c < n - 1
        · rw [if_neg (nle_of (by omega) (by omega)), if_pos y]
        · rw [if_pos (nI_le (by omega) (by omega)), if_neg y]
  by_cases G : σ 376 x = 0
  · refine two_find (-100002) hI (by rw [ecl, if_pos G]) (fun τ hτ => ?_)
    rw [erf τ (row374 hτ) (by rw [hτ, wr_r (by decide)]) (by rw [hτ, wr_r (by decide)]), if_pos G]
  have hB := t1.resolve_left G
  rw [if_neg G] at ecl
  -- the class's numbers
  have hcc : ∀ i, i < u → ∀ K, fX10_grades_58 0 (shX x) (nI u) K (nI i) σ = if iw (σ 378 (60 * x + i)) 1 30 = 0 then some (-100001, wr σ 0 5 (σ 0 5 + 1)) else K (nI (i + 1)) σ := by
    intro i hi K
    obtain ⟨r1, r2⟩ := t5 i (by omega)
    have hm := mk_30 hB r1
    unfold fX10_grades_58
    rw [if_neg (nle_of hi (by omega)), s2, s3, gd_in (n := 60) (by omega) (by decide), nI_cl (by omega), r2, e8_areMinutes, bd_v, e10_finding, lt_v, nI_1, bd_v]
    by_cases z : iw (σ 378 (60 * x + i)) 1 30 = 0
    · rw [if_pos (hm.1.mpr z), if_pos z]
    · rw [if_neg (fun q => z (hm.1.mp q)), if_neg z]
  have hrr : ∀ τ : Sg, τ 378 = σ 378 → ∀ i, i < u → ∀ K, fX11_grades_68 373 (nI x) (nI u) K (nI i) τ = if iw (σ 378 (60 * x + i)) 1 30 = 0 then some (-100001, wr τ 373 4 (τ 373 4 + 1)) else K (nI (i + 1)) τ := by
    intro τ hτ i hi K
    have x60 : (60 : Int32) * nI x + nI i = nI (60 * x + i) := by rw [show (60 : Int32) = nI 60 from rfl, pk_mul, nI_add]
    unfold fX11_grades_68
    rw [if_neg (nle_of hi (by omega)), x60, rf_373_7, ln_378, gd_in (n := 240) (by omega) (by decide), nI_cl (by omega), hτ, e11_in, bd_v, e11_finds, lt_v, nI_1, bd_v]
  by_cases K : ∃ i, i < u ∧ iw (σ 378 (60 * x + i)) 1 30 = 0
  · refine two_find (-100001) hI ?_ (fun τ hτ => ?_)
    · rw [ecl]
      rcases fl1 (b := fX10_grades_58 0 (shX x) (nI u)) (σ := σ) u (fun i => iw (σ 378 (60 * x + i)) 1 30 = 0) (fun _ => some (-100001, wr σ 0 5 (σ 0 5 + 1))) (fun i hi h K => by rw [hcc i hi K, if_neg h]) (fun i hi h K => by rw [hcc i hi K, if_pos h]) u 0 FU (by omega) (by rw [FU_s]; omega) with ⟨j, -, -, -, -, h⟩ | ⟨h, -⟩
      · exact h
      · obtain ⟨i, hi, hz⟩ := K
        exact absurd hz (h i (by omega) hi)
    · rw [erf τ (row374 hτ) (by rw [hτ, wr_r (by decide)]) (by rw [hτ, wr_r (by decide)]), if_neg G]
      have h378 : τ 378 = σ 378 := by rw [hτ, wr_r (by decide)]
      rcases fl1 (b := fX11_grades_68 373 (nI x) (nI u)) (σ := τ) u (fun i => iw (σ 378 (60 * x + i)) 1 30 = 0) (fun _ => some (-100001, wr τ 373 4 (τ 373 4 + 1))) (fun i hi h K => by rw [hrr τ h378 i hi K, if_neg h]) (fun i hi h K => by rw [hrr τ h378 i hi K, if_pos h]) u 0 FU (by omega) (by rw [FU_s]; omega) with ⟨j, -, -, -, -, h⟩ | ⟨h, -⟩
      · exact h
      · obtain ⟨i, hi, hz⟩ := K
        exact absurd hz (h i (by omega) hi)
  have hok : ∀ i, i < u → ¬ iw (σ 378 (60 * x + i)) 1 30 = 0 := fun i hi hz => K ⟨i, hi, hz⟩
  have hnum : ∀ i, i < u → σ (shX x + 1) i = σ 378 (60 * x + i) ∧ ∃ v, 1 ≤ v ∧ v ≤ 30 ∧ σ 378 (60 * x + i) = nI v := fun i hi => by
    obtain ⟨r1, r2⟩ := t5 i (by omega)
    obtain ⟨q1, q2⟩ := (mk_30 hB r1).2 (hok i hi)
    exact ⟨by rw [r2, q1], q2⟩
  have fcl : ∃ fu, fX10_grades 0 (nI x) σ = fX10_grades_58 0 (shX x) (nI u) (lq1 (fX10_grades_58 0 (shX x) (nI u)) fu) (nI u) σ := by
    rw [ecl]
    rcases fl1 (b := fX10_grades_58 0 (shX x) (nI u)) (σ := σ) u (fun i => iw (σ 378 (60 * x + i)) 1 30 = 0) (fun _ => some (-100001, wr σ 0 5 (σ 0 5 + 1))) (fun i hi h K => by rw [hcc i hi K, if_neg h]) (fun i hi h K => by rw [hcc i hi K, if_pos h]) u 0 FU (by omega) (by rw [FU_s]; omega) with ⟨j, -, hj, h, -, -⟩ | ⟨-, h⟩
    · exact absurd h (hok j hj)
    · exact h
  obtain ⟨fu, ecl2⟩ := fcl
  have frf : ∀ τ : Sg, τ 374 = σ 374 → τ 376 = σ 376 → τ 377 = σ 377 → τ 378 = σ 378 → ∃ fu', fX11_grades 373 (nI x) τ = fX11_grades_68 373 (nI x) (nI u) (lq1 (fX11_grades_68 373 (nI x) (nI u)) fu') (nI u) τ := by
    intro τ q1 q2 q3 q4
    rw [erf τ q1 q2 q3, if_neg G]
    rcases fl1 (b := fX11_grades_68 373 (nI x) (nI u)) (σ := τ) u (fun i => iw (σ 378 (60 * x + i)) 1 30 = 0) (fun _ => some (-100001, wr τ 373 4 (τ 373 4 + 1))) (fun i hi h K => by rw [hrr τ q4 i hi K, if_neg h]) (fun i hi h K => by rw [hrr τ q4 i hi K, if_pos h]) u 0 FU (by omega) (by rw [FU_s]; omega) with ⟨j, -, hj, h, -, -⟩ | ⟨-, h⟩
    · exact absurd h (hok j hj)
    · exact h
  -- both keep, and write
  obtain ⟨nx, ct, b1, b2, b3, b4, b5, b6⟩ := hI.h
  obtain ⟨τ, ek, hK, hl⟩ := e10_keep b1 b2 b5 b6
  have hshx : 365 ≤ shX x ∧ shX x ≤ 371 := by unfold shX; omega
  have kfar : ∀ c i, (365 ≤ c ∧ c < 373) → τ c i = σ c i := fun c i hc => hK.2.2.1 c i (by omega) (by omega) (by omega) (by omega)
  generalize hσ1 : cpy τ (shX x + 1) 6 0 0 u = σ1
  have e1 : fX10_grades 0 (nI x) σ = some (nI u, σ1) := by
    rw [ecl2]
    generalize lq1 (fX10_grades_58 0 (shX x) (nI u)) fu = KK
    unfold fX10_grades_58
    have hcp : cpR 0 0 (nI u) 60 6 := ⟨⟨by decide, by decide⟩, ⟨nI_pos (by omega), by rw [nI_cl (by omega), cl0]; omega⟩, by rw [nI_cl (by omega), cl0]; omega⟩
    rw [if_pos (nI_le (Nat.le_refl _) (by omega)), ek, bd_v, s2, s3, rf_0_2, rf_3_0, rf_4_2, ln_6, gd_t hcp, lt_v, cl0, nI_cl (by omega), hσ1]
  have w1 : ∀ c i, c ≠ 6 → σ1 c i = τ c i := fun c i hc => by rw [← hσ1]; exact cpy_o hc
  have w2 : ∀ i, i < u → σ1 6 i = σ 378 (60 * x + i) := fun i hi => by rw [← hσ1, cpy_i hi, kfar _ _ (by omega), (hnum i hi).1]
  have w3 : ∀ i, u ≤ i → σ1 6 i = σ 6 i := fun i hi => by
    rw [← hσ1, cpy_row, pk_cpy_out (by omega), hl 6 i (by decide) (by decide)]
  have hK1 : KC nx ct σ σ1 := KC_fr hK (fun c i hc => w1 c i (by omega))
  have k8 : ∀ c i, 373 ≤ c → σ1 c i = σ c i := fun c i hc => by rw [w1 c i (by omega), hK.2.2.2.2 c i hc]
  obtain ⟨ρ, er, hR, hl2⟩ := e11_keep (σ := σ1) (nx := nx) (ct := ct) (by rw [k8 _ _ (by decide), b3]) (by rw [k8 _ _ (by decide), b4]) b5 b6
  have r378 : ∀ i, ρ 378 i = σ 378 i := fun i => by rw [hR.2.2.2.2 _ _ (by decide) (by decide) (by decide), k8 _ _ (by decide)]
  have r374 : ∀ i, ρ 374 i = σ 374 i := fun i => by rw [hl2, k8 _ _ (by decide)]
  have hst : ∀ i (μ : Sg), i < u → ((∀ c j, c ≠ 374 → μ c j = ρ c j) ∧ (∀ k, (k < 8 ∨ 8 + i ≤ k) → μ 374 k = σ 374 k) ∧ ∀ k, k < i → μ 374 (8 + k) = σ 378 (60 * x + k)) → ∃ μ', (∀ K, fX11_grades_112 373 (nI x) (nI u) K (nI i) μ = K (nI (i + 1)) μ') ∧ ((∀ c j, c ≠ 374 → μ' c j = ρ c j) ∧ (∀ k, (k < 8 ∨ 8 + (i + 1) ≤ k) → μ' 374 k = σ 374 k) ∧ ∀ k, k < i + 1 → μ' 374 (8 + k) = σ 378 (60 * x + k)) := by
    rintro i μ hi ⟨m1, m2, m3⟩
    have x60 : (60 : Int32) * nI x + nI i = nI (60 * x + i) := by rw [show (60 : Int32) = nI 60 from rfl, pk_mul, nI_add]
    refine ⟨wr μ 374 (8 + i) (σ 378 (60 * x + i)), fun K => ?_, fun c j hc => by rw [wr_c hc, m1 c j hc], fun k hk => by rw [wr_i (by omega), m2 k (by omega)], fun k hk => ?_⟩
    · unfold fX11_grades_112
      rw [if_neg (nle_of hi (by omega)), x60, show (8 : Int32) + nI i = nI (8 + i) from nI_add 8 i, rf_373_0, rf_373_7, ln_374, ln_378, gd_in (n := 240) (by omega) (by decide), gd_in (n := 174) (by omega) (by decide), lt_v, lt_v, nI_1, nI_cl (by omega), nI_cl (by omega), m1 _ _ (by decide), r378]
    · by_cases z : k = i
      · subst z; rw [wr_eq]
      · rw [wr_i (by omega), m3 k (by omega)]
  obtain ⟨σ2, fu2, e2, m1, m2, m3⟩ := sl1 (b := fX11_grades_112 373 (nI x) (nI u)) u _ hst u 0 FU ρ (by omega) (by rw [FU_s]; omega) ⟨fun c j _ => rfl, fun k _ => r374 k, fun k hk => by omega⟩
  have erf2 : fX11_grades 373 (nI x) σ1 = some (nI u, σ2) := by
    obtain ⟨fu', e3⟩ := frf σ1 (funext fun k => k8 _ _ (by decide)) (funext fun k => k8 _ _ (by decide)) (funext fun k => k8 _ _ (by decide)) (funext fun k => k8 _ _ (by decide))
    rw [e3]
    generalize lq1 (fX11_grades_68 373 (nI x) (nI u)) fu' = KK
    unfold fX11_grades_68
    rw [if_pos (nI_le (Nat.le_refl _) (by omega)), er, bd_v, lt_v]
    refine Eq.trans e2 ?_
    generalize lq1 (fX11_grades_112 373 (nI x) (nI u)) fu2 = KK2
    unfold fX11_grades_112
    rw [if_pos (nI_le (Nat.le_refl _) (by omega))]
  refine two_mk (r := nI u) (σ1 := σ1) (σ2 := σ2) e1 erf2 ?_
  refine Inv_act hI b1 b2 b5 b6 hK1 (KR_fr hR m1) ?_ (n := n) (nt := nt) (no := no) (nf := nf) (Wf_grades hu6 m2 (fun i hi => by rw [m3 i hi]; exact (hnum i hi).2) hW)
  refine LR_mk fun c i j hr hc => ?_
  have h40 : σ2 374 40 = σ 374 40 := m2 _ (by omega)
  rw [h40] at hc
  have hfr : σ2 c i = σ1 c i := by
    have := Rel_lt hr
    rw [m1 _ _ (by omega), hR.2.2.2.2 c i (by omega) (by omega) (by omega)]
  rw [hfr]
  by_cases z : c = 6
  · subst z
    obtain ⟨q1, rfl⟩ : i < 6 ∧ j = 8 + i := by unfold Rel at hr; omega
    by_cases y : i < u
    · rw [w2 i y, m3 i y]
    · rw [w3 i (by omega), m2 _ (by omega)]
      exact LR_rel hL hr hc
  · have hj : j < 8 ∨ 8 + 6 ≤ j := by unfold Rel at hr; omega
    have := Rel_lt hr
    rw [w1 c i z, hl c i (by omega) (by omega), m2 j (by omega)]
    exact LR_rel hL hr hc
/-! the first state -/
theorem zO {c : Nat} (h : kd c < 12) (j : Nat) : sg0 c j = (obT.getD c []).getD j 0 := by
  unfold sg0
  rw [if_pos h]
theorem zA0 {c : Nat} (h : ¬ kd c < 12 ∧ frT.getD c 0 = 0) (j : Nat) : sg0 c j = 0 := by
  unfold sg0
  rw [if_neg h.1, h.2, if_neg (by decide), if_neg (by decide)]
theorem zA1 {c : Nat} (h : ¬ kd c < 12 ∧ frT.getD c 0 = 1) {j : Nat} (hj : j < ln c) : sg0 c j = 10 := by
  unfold sg0
  rw [if_neg h.1, h.2, if_pos rfl, if_pos hj]
theorem z374 : sg0 374 = nowI := by
  funext j
  unfold sg0
  rw [if_neg (by decide +kernel), if_neg (by decide +kernel), if_pos (by decide +kernel)]
theorem now0 {j : Nat} (h : (14 ≤ j ∧ j < 101) ∨ 161 ≤ j) : nowI j = 0 := by
  unfold nowI
  rw [if_neg (by omega), if_neg (by omega), if_neg (by omega), if_neg (by omega)]
theorem now10 {j : Nat} (h : 1 ≤ j ∧ j < 14) : nowI j = 10 := by
  unfold nowI
  rw [if_neg (by omega)]
  by_cases q : 8 ≤ j ∧ j < 14
  · rw [if_pos q]
  · rw [if_neg q, if_pos (by omega)]
theorem inv_first : Inv sg0 := by
  have zz : ∀ c, (8 ≤ c ∧ c < 13) ∨ (14 ≤ c ∧ c < 22) → ¬ kd c < 12 ∧ frT.getD c 0 = 0 := by
    have : ∀ c, c < 22 → ((8 ≤ c ∧ c < 13) ∨ (14 ≤ c ∧ c < 22)) → ¬ kd c < 12 ∧ frT.getD c 0 = 0 := by decide +kernel
    intro c hc
    exact this c (by omega) hc
  have z0 : ∀ c, (8 ≤ c ∧ c < 13) ∨ (14 ≤ c ∧ c < 22) → ∀ j, sg0 c j = 0 := fun c hc j => zA0 (zz c hc) j
  have o40 : sg0 4 0 = 3 := by rw [zO (by decide +kernel)]; decide +kernel
  have o70 : sg0 7 0 = 0 := by rw [zO (by decide +kernel)]; decide +kernel
  have o130 : sg0 13 0 = 0 := by rw [zO (by decide +kernel)]; decide +kernel
  have o33 : sg0 3 3 = 0 := by rw [zO (by decide +kernel)]; decide +kernel
  refine ⟨3, 0, 0, 0, ?_, ?_, ?_, ?_, ?_, ?_, Or.inl ?_, Or.inl ?_, Or.inl ?_⟩
  · rw [z374]
    refine ⟨⟨by rw [o40]; rfl, by rw [o70]; rfl, by rw [o130]; rfl, by rw [o33]; rfl⟩, fun k hk => ?_, fun k hk => ?_, fun t ht => ?_, fun o ho => ?_, fun o t ho ht hot => ?_, fun k hk => ?_⟩
    · rw [zA1 (by decide +kernel) (by rw [ln_5]; exact hk), now10 (by omega)]
    · rw [zA1 (by decide +kernel) (by rw [ln_6]; exact hk), now10 (by omega)]
    · rw [z0 _ (by omega), z0 _ (by omega), z0 _ (by omega), z0 _ (by omega), z0 _ (by omega), now0 (by omega), now0 (by omega), now0 (by omega), now0 (by omega), now0 (by omega)]
      exact ⟨⟨rfl, rfl, rfl⟩, rfl, rfl⟩
    · rw [z0 _ (by omega), z0 _ (by omega), z0 _ (by omega), z0 _ (by omega), z0 _ (by omega), now0 (by omega), now0 (by omega), now0 (by omega), now0 (by omega), now0 (by omega)]
      exact ⟨⟨rfl, rfl, rfl⟩, rfl, rfl⟩
    · rw [now0 (by omega)] at hot
      exact absurd hot (not_lt0 (by omega))
    · rw [z0 _ (by omega), z0 _ (by omega), now0 (by omega), now0 (by omega)]
      exact ⟨rfl, rfl⟩
  · rw [z374]
    refine ⟨⟨by omega, by omega, by omega, by omega⟩, ⟨rfl, rfl, rfl, rfl⟩, fun k hk => ⟨10, by omega, ?_⟩, fun k hk => ⟨10, by omega, by omega, ?_⟩, fun t ht => by omega, fun o ho => by omega, fun o t ho => by omega, fun k hk => by omega⟩
    · rw [now10 (by omega)]; rfl
    · rw [now10 (by omega)]; rfl
  · refine ⟨0, 0, by omega, by omega, ⟨?_, ?_, ?_, ?_⟩, fun d q1 q2 => by omega⟩
    · rw [zO (by decide +kernel)]; decide +kernel
    · rw [zO (by decide +kernel)]; decide +kernel
    · rw [zO (by decide +kernel)]; decide +kernel
    · rw [zO (by decide +kernel)]; decide +kernel
  · intro s hs
    have q6 : ∀ j, sg0 376 j = 0 := fun j => zA0 (by decide +kernel) j
    have q7 : ∀ j, sg0 377 j = 0 := fun j => zA0 (by decide +kernel) j
    have q8 : ∀ j, sg0 378 j = 0 := fun j => zA0 (by decide +kernel) j
    have sh : ∀ s, s < 4 → (kd (shX s) < 12 ∧ (obT.getD (shX s) []).getD 0 0 = 0 ∧ (obT.getD (shX s) []).getD 1 0 = 0) ∧ ¬ kd (shX s + 1) < 12 ∧ frT.getD (shX s + 1) 0 = 0 := by decide +kernel
    obtain ⟨⟨p1, p2, p3⟩, p4⟩ := sh s hs
    rw [q6, q7]
    refine ⟨Or.inl rfl, by rw [zO p1, p2], ⟨0, by omega, rfl, by rw [zO p1, p3]; rfl⟩, fun i hi => ?_⟩
    rw [q8, zA0 p4]
    exact ⟨by decide, by decide⟩
  · rw [zO (by decide +kernel), zO (by decide +kernel)]; decide +kernel
  · intro t ht
    have : ∀ t, t < 5 → kd (37 + 4 * t) < 12 ∧ (obT.getD (37 + 4 * t) []).getD 0 0 = nI t := by decide +kernel
    obtain ⟨p1, p2⟩ := this t ht
    rw [zO p1, p2]
  · rw [zO (by decide +kernel)]; decide +kernel
  · rw [zO (by decide +kernel)]; decide +kernel
  · rw [zO (by decide +kernel)]; decide +kernel
