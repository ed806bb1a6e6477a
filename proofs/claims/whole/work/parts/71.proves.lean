/-! PURE: proves -/
theorem r_firstWrong {τ : Sg} {C x : Nat} {B : Int32} {S P : Nat → Int32} (hC : C ≤ 42) (hx : x < 4) (h39 : τ 373 39 = nI C) (hb : τ 376 x = B) (hS : ∀ i, i < C → τ 378 (60 * x + i) = S i) (hP : ∀ i, i < C → τ 398 i = P i) : (∃ i, i < C ∧ ¬ S i = nw8 B (P i) ∧ (∀ q, q < i → S q = nw8 B (P q)) ∧ lq1 (fX11_proves_175 373 (nI x)) FU 0 τ = some (nI i, τ)) ∨ ((∀ i, i < C → S i = nw8 B (P i)) ∧ lq1 (fX11_proves_175 373 (nI x)) FU 0 τ = some (-1, τ)) := by
  have hc : ∀ i, i < C → ∀ K, fX11_proves_175 373 (nI x) K (nI i) τ = if S i = nw8 B (P i) then K (nI (i + 1)) τ else some (nI i, τ) := by
    intro i hi K
    have x60 : (60 : Int32) * nI x + nI i = nI (60 * x + i) := by rw [show (60 : Int32) = nI 60 from rfl, pk_mul, nI_add]
    unfold fX11_proves_175
    simp only [h39, if_neg (nle_of hi (show C < 2 ^ 31 by omega)), x60, rf_373_5, rf_373_7, rf_373_38, ln_376, ln_378, ln_398, gd_in (show 60 * x + i < 240 by omega) (show 240 < 2147483648 by decide), gd_in hx (show 4 < 2147483648 by decide), gd_in (show i < 42 by omega) (show 42 < 2147483648 by decide), nI_cl (show x < 2147483648 by omega), nI_cl (show i < 2147483648 by omega), nI_cl (show 60 * x + i < 2147483648 by omega), e11_narrowed, bd_v, hb, hS i hi, hP i hi, lt_v, nI_1]
  rcases fl1 (b := fX11_proves_175 373 (nI x)) (σ := τ) C (fun i => ¬ S i = nw8 B (P i)) (fun i => some (nI i, τ)) (fun i hi h K => by rw [hc i hi K, if_pos (Decidable.not_not.mp h)]) (fun i hi h K => by rw [hc i hi K, if_neg h]) C 0 FU (by omega) (by rw [FU_s]; omega) with ⟨j, -, a2, a3, a4, a5⟩ | ⟨a1, fu, a2⟩
  · exact Or.inl ⟨j, a2, a3, fun q hq => Decidable.not_not.mp (a4 q (by omega) hq), a5⟩
  · refine Or.inr ⟨fun i hi => Decidable.not_not.mp (a1 i (by omega) hi), Eq.trans a2 ?_⟩
    generalize lq1 (fX11_proves_175 373 (nI x)) fu = KK
    unfold fX11_proves_175
    rw [h39, if_pos (nI_le (Nat.le_refl _) (by omega))]
theorem s_proves {σ : Sg} (hI : Inv σ) (a1 a2 a3 a4 : Int32) : Two (fX10_proves 0 a1 a2 a3 a4) (fX11_proves 373 a1 a2 a3 a4) σ := by
  obtain ⟨n, nt, no, nf, hL, hW, h4, h7, h13, h3⟩ := hI.k
  obtain ⟨g0, g14, g40, g161⟩ := hW.2.1
  have hnt : nt ≤ 5 := hW.1.2.1
  have hn := hW.st
  have hSh : Shs σ := by obtain ⟨_, _, _, _, -, -, -, hS, -⟩ := hI; exact hS
  have cref := c_refusal hW hL a1 a2 a3
  have ecl : ∀ v : Int32, (if iw a4 0 3 = 0 then -100001 else rfm (σ 374) n nt a1 a2 a3) = v → fX10_proves 0 a1 a2 a3 a4 σ = fX10_proves_20 0 a1 a2 a3 a4 v σ := by
    intro v hv
    unfold fX10_proves
    rw [e10_isSheet, bd_v]
    by_cases z : iw a4 0 3 = 0
    · rw [if_pos z] at hv ⊢
      rw [hv]
    · rw [if_neg z] at hv ⊢
      rw [cref, bd_v, hv]
  have fin : ∀ v : Int32, (if iw a4 0 3 = 0 then -100001 else rfm (σ 374) n nt a1 a2 a3) = v → ¬ v = 0 → (∀ τ, τ = wr σ 0 5 (σ 0 5 + 1) → fX11_proves 373 a1 a2 a3 a4 τ = some (v, wr τ 373 4 (τ 373 4 + 1))) → Two (fX10_proves 0 a1 a2 a3 a4) (fX11_proves 373 a1 a2 a3 a4) σ := by
    intro v hv h0 hG
    refine two_find v hI ?_ hG
    rw [ecl v hv]
    unfold fX10_proves_20
    rw [lt_v, if_neg h0, e10_finding, bd_v]
  have rr : ∀ τ : Sg, τ 374 = σ 374 → fX11_proves 373 a1 a2 a3 a4 τ = if ib a1 nt = 0 ∨ ib a2 nt = 0 ∨ ib a3 n = 0 ∨ iw a4 0 3 = 0 then some (-100001, wr τ 373 4 (τ 373 4 + 1)) else bd (fX11_wayOf 373 a1 τ) fun r_41 s_41 => bd (fX11_wayOf 373 a2 s_41) fun r_46 s_46 => if r_41 = r_46 then some (-100003, wr s_46 373 4 (s_46 373 4 + 1)) else gd (inR a4 4) (if s_46 376 a4.toNatClampNeg = 0 then some (-100002, wr s_46 373 4 (s_46 373 4 + 1)) else bd (fX11_findMeets 373 s_46) fun _ s_78 => if a2 ≤ a1 then fX11_proves_91 373 a1 a2 a3 a4 a2 s_78 else fX11_proves_91 373 a1 a2 a3 a4 a1 s_78) := by
    intro τ hτ
    unfold fX11_proves
    rw [e11_isTrain (n := nt) (by rw [hτ, g14]) (by omega), bd_v, e11_isTrain (n := nt) (by rw [hτ, g14]) (by omega), bd_v, e11_isStation (n := n) (by rw [hτ, g0]) (by omega), bd_v, e11_isSheet, bd_v]
    simp only [e11_finds, bd_v, rf_373_5, ln_376]
    by_cases A : ib a1 nt = 0
    · rw [if_pos A, if_pos (Or.inl A)]
    rw [if_neg A]
    by_cases B : ib a2 nt = 0
    · rw [if_pos B, if_pos (Or.inr (Or.inl B))]
    rw [if_neg B]
    by_cases C : ib a3 n = 0
    · rw [if_pos C, if_pos (Or.inr (Or.inr (Or.inl C)))]
    rw [if_neg C]
    by_cases D : iw a4 0 3 = 0
    · rw [if_pos D, if_pos (Or.inr (Or.inr (Or.inr D)))]
    rw [if_neg D, if_neg (fun h => h.elim A (fun h => h.elim B (fun h => h.elim C D)))]
  by_cases Z : ib a1 nt = 0 ∨ ib a2 nt = 0 ∨ ib a3 n = 0 ∨ iw a4 0 3 = 0
  · refine fin (-100001) ?_ (by decide) (fun τ hτ => by rw [rr τ (row374 hτ), if_pos Z])
    by_cases D : iw a4 0 3 = 0
    · rw [if_pos D]
    · rw [if_neg D]
      unfold rfm
      by_cases A : ib a1 nt = 0
      · rw [if_pos A]
      rw [if_neg A]
      by_cases B : ib a2 nt = 0
      · rw [if_pos B]
      rw [if_neg B]
      rw [if_pos (Z.resolve_left A |>.resolve_left B |>.resolve_right D)]
  have A : ¬ ib a1 nt = 0 := fun h => Z (Or.inl h)
  have B : ¬ ib a2 nt = 0 := fun h => Z (Or.inr (Or.inl h))
  have C : ¬ ib a3 n = 0 := fun h => Z (Or.inr (Or.inr (Or.inl h)))
  have D : ¬ iw a4 0 3 = 0 := fun h => Z (Or.inr (Or.inr (Or.inr h)))
  obtain ⟨x, hx, rfl⟩ := ib_of (by omega) A
  obtain ⟨y, hy, rfl⟩ := ib_of (by omega) B
  obtain ⟨s, hs, rfl⟩ := ib_of (by omega) C
  obtain ⟨u, -, hu, rfl⟩ := iw_nat (a := 0) (b := 3) (iw_of D).1 (iw_of D).2 (by decide) (by decide)
  have rr2 : ∀ τ : Sg, τ 374 = σ 374 → fX11_proves 373 (nI x) (nI y) (nI s) (nI u) τ = if gw (σ 374) x = gw (σ 374) y then some (-100003, wr τ 373 4 (τ 373 4 + 1)) else if τ 376 u = 0 then some (-100002, wr τ 373 4 (τ 373 4 + 1)) else bd (fX11_findMeets 373 τ) fun _ s_78 => if nI y ≤ nI x then fX11_proves_91 373 (nI x) (nI y) (nI s) (nI u) (nI y) s_78 else fX11_proves_91 373 (nI x) (nI y) (nI s) (nI u) (nI x) s_78 := by
    intro τ hτ
    rw [rr τ hτ, if_neg Z, e11_wayOf τ x (by omega), bd_v, e11_wayOf τ y (by omega), bd_v, hτ, gd_in (n := 4) (by omega) (by decide), nI_cl (by omega)]
  by_cases F : gw (σ 374) x = gw (σ 374) y
  · refine fin (-100003) ?_ (by decide) (fun τ hτ => by rw [rr2 τ (row374 hτ), if_pos F])
    unfold rfm
    rw [if_neg D, if_neg A, if_neg B, if_neg C, nI_cl (by omega), nI_cl (by omega), if_pos F]
  have hrf0 : (if iw (nI u) 0 3 = 0 then -100001 else rfm (σ 374) n nt (nI x) (nI y) (nI s)) = 0 := by
    unfold rfm
    rw [if_neg D, if_neg A, if_neg B, if_neg C, nI_cl (by omega), nI_cl (by omega), if_neg F]
  have ec0 := ecl 0 hrf0
  obtain ⟨t1, t2, ⟨c, hc60, t3, t4⟩, t5⟩ := hSh u (by omega)
  obtain ⟨s1, s2, s3⟩ := rf_sh u (by omega)
  have g4 : ∀ {G : Option (Int32 × Sg)}, gd (inR (nI u) 4) G = G := fun {G} => gd_in (n := 4) (by omega) (by decide)
  have e20 : fX10_proves_20 0 (nI x) (nI y) (nI s) (nI u) 0 σ = if σ 376 u = 0 then some (-100002, wr σ 0 5 (σ 0 5 + 1)) else bd (fX4_findBest 1 σ) fun r_58 s_58 => bd (fX4_placeOf (nI x) (nI y) (nI s) s_58) fun r_64 s_64 => if r_58 = r_64 then bd (fX4_countMeets 1 s_64) fun r_81 s_81 => if s_81 (shX u) 1 = r_81 then bd (fX4_firstWrong 1 (shX u) s_81) fun r s => some (r, s) else some (r_81, s_81) else some (-100004, wr s_64 0 5 (s_64 0 5 + 1)) := by
    unfold fX10_proves_20
    simp only [lt_v, if_true, ln_sh, g4, nI_cl (show u < 2147483648 by omega), s1, e7_isMissing, bd_v, e10_finding, rf_0_0, t2]
    by_cases z : σ 376 u = 0
    · rw [if_pos z, if_pos z, if_neg (by decide)]
    · rw [if_neg z, if_neg z, if_pos rfl]
  by_cases G : σ 376 u = 0
  · refine two_find (-100002) hI (by rw [ec0, e20, if_pos G]) (fun τ hτ => ?_)
    rw [rr2 τ (row374 hτ), if_neg F, if_pos]
    rw [hτ, wr_c (by decide), G]
  have hB := t1.resolve_left G
  obtain ⟨pv, hV⟩ := PV_ex hW hL hI.own (fun k _ => rfl)
  obtain ⟨hMC, hGR⟩ := hI.mc hW
  have h42 := cm_42 (σ 374) n nt
  have g42 : ∀ {x : Nat} {F : Option (Int32 × Sg)}, x < 42 → gd (inR (nI x) 42) F = F := fun h => gd_in h (by decide)
  -- the lesser and the greater one
  obtain ⟨a, b, hab, hb, hpl, hor⟩ : ∃ a b, a < b ∧ b < nt ∧ ((if nI y < nI x then nI y else nI x) * 5 + (if nI x < nI y then nI y else nI x)) * 7 + nI s = nI (plK a b s) ∧ ((x = a ∧ y = b) ∨ (x = b ∧ y = a)) := by
    have pe : ∀ a b, (nI a * 5 + nI b) * 7 + nI s = nI (plK a b s) := fun a b => by
      unfold plK
      rw [show (5 : Int32) = nI 5 from rfl, show (7 : Int32) = nI 7 from rfl, pk_mul, nI_add, pk_mul, nI_add]
    have hxy : x ≠ y := fun q => F (by rw [q])
    rcases Nat.lt_or_ge x y with q | q
    · refine ⟨x, y, q, hy, ?_, Or.inl ⟨rfl, rfl⟩⟩
      rw [if_neg (nI_nlt (by omega) (by omega)), if_pos (nI_lt q (by omega)), pe]
    · refine ⟨y, x, by omega, hx, ?_, Or.inr ⟨rfl, rfl⟩⟩
      rw [if_pos (nI_lt (by omega) (by omega)), if_neg (nI_nlt (by omega) (by omega)), pe]
  obtain ⟨d1, d2, d3⟩ := pl_i (a := a) (b := b) (s := s) (by omega) (by omega)
  have hk : plK a b s < 175 := by unfold plK; omega
  have hck : cm (σ 374) n nt (plK a b s) = true := by
    refine cm_iff.mpr ⟨by omega, by omega, ?_, by omega⟩
    rw [d1, d2]
    rcases hor with ⟨rfl, rfl⟩ | ⟨rfl, rfl⟩
    · exact F
    · exact fun q => F q.symm
  have hC0 : ¬ cn (cm (σ 374) n nt) 175 = 0 := by
    have := cn_lt (f := cm (σ 374) n nt) hk hck
    omega
  obtain ⟨r, σ1, eb, hM1, hr⟩ := c_findBest hW hL (fun k _ => rfl) hV hMC
  obtain ⟨j, hj, rfl⟩ := hr.resolve_left (fun q => hC0 q.1)
  have hj1 := hj.1
  -- the reference behind its search
  have r91 : ∀ τ : Sg, (if nI y ≤ nI x then fX11_proves_91 373 (nI x) (nI y) (nI s) (nI u) (nI y) τ else fX11_proves_91 373 (nI x) (nI y) (nI s) (nI u) (nI x) τ) = fX11_proves_103 373 (nI s) (nI u) (nI a) (nI b) τ := by
    intro τ
    unfold fX11_proves_91
    simp only [lt_v]
    rcases hor with ⟨rfl, rfl⟩ | ⟨rfl, rfl⟩
    · rw [if_neg (nle_of hab (by omega)), if_neg (nle_of hab (by omega))]
    · rw [if_pos (nI_le (by omega) (by omega)), if_pos (nI_le (by omega) (by omega))]
  have rd : ∀ (τ0 τ : Sg), RQ (σ 374) n nt pv τ0 175 τ → cn (cm (σ 374) n nt) j < 42 ∧ τ 373 40 = nI (cn (cm (σ 374) n nt) j) ∧ (τ 395 (cn (cm (σ 374) n nt) j) = nI (j / 7 / 5) ∧ τ 396 (cn (cm (σ 374) n nt) j) = nI (j / 7 % 5)) ∧ τ 397 (cn (cm (σ 374) n nt) j) = nI (j % 7) ∧ τ 398 (cn (cm (σ 374) n nt) j) = pv j := by
    intro τ0 τ hQ
    obtain ⟨i, hi, e40⟩ := hQ.2.2.2.resolve_left (fun q => hC0 q.1)
    obtain rfl := bst_u hi hj
    have := cn_lt (f := cm (σ 374) n nt) hj.1 hj.2.1
    exact ⟨by omega, e40, hQ.2.2.1 i hj.1 hj.2.1⟩
  have r103 : ∀ (τ0 τ : Sg), RQ (σ 374) n nt pv τ0 175 τ → τ 377 u = nI c → fX11_proves_103 373 (nI s) (nI u) (nI a) (nI b) τ = if j = plK a b s then (if c = cn (cm (σ 374) n nt) 175 then lq1 (fX11_proves_175 373 (nI u)) FU 0 τ else some (nI (cn (cm (σ 374) n nt) 175), τ)) else some (-100004, wr τ 373 4 (τ 373 4 + 1)) := by
    intro τ0 τ hQ h377
    obtain ⟨l1, l2, ⟨l3, l4⟩, l5, -⟩ := rd τ0 τ hQ
    have hjj : j = plK a b s ↔ j / 7 / 5 = a ∧ j / 7 % 5 = b ∧ j % 7 = s := by
      constructor
      · rintro rfl; exact ⟨d1, d2, d3⟩
      · rintro ⟨q1, q2, q3⟩
        have := plK_k (k := j)
        rw [q1, q2, q3] at this
        exact this.symm
    unfold fX11_proves_103
    simp only [lt_v, l2, rf_373_6, rf_373_35, rf_373_36, rf_373_37, ln_377, ln_395, ln_396, ln_397, g42 l1, nI_cl (show cn (cm (σ 374) n nt) j < 2147483648 by omega), l3, l4, l5, gd_in (show u < 4 by omega) (show 4 < 2147483648 by decide), nI_cl (show u < 2147483648 by omega), h377, hQ.2.1, e11_finds, bd_v, nI_eq (show j / 7 / 5 < 2 ^ 31 by omega) (show a < 2 ^ 31 by omega), nI_eq (show j / 7 % 5 < 2 ^ 31 by omega) (show b < 2 ^ 31 by omega), nI_eq (show j % 7 < 2 ^ 31 by omega) (show s < 2 ^ 31 by omega), nI_eq (show c < 2 ^ 31 by omega) (show cn (cm (σ 374) n nt) 175 < 2 ^ 31 by omega)]
    by_cases q1 : j / 7 / 5 = a
    · rw [if_pos q1]
      by_cases q2 : j / 7 % 5 = b
      · rw [if_pos q2]
        by_cases q3 : j % 7 = s
        · rw [if_pos q3, if_pos (hjj.mpr ⟨q1, q2, q3⟩)]
        · rw [if_neg q3, if_neg (fun q => q3 (hjj.mp q).2.2)]
      · rw [if_neg q2, if_neg (fun q => q2 (hjj.mp q).2.1)]
    · rw [if_neg q1, if_neg (fun q => q1 (hjj.mp q).1)]
  have h374 : σ1 374 = σ 374 := funext fun k => hM1.1 _ _ (by omega)
  have h376 : σ1 376 u = σ 376 u := hM1.1 _ _ (by omega)
  by_cases H : j = plK a b s
  · have ebest : fX10_proves 0 (nI x) (nI y) (nI s) (nI u) σ = if c = cn (cm (σ 374) n nt) 175 then bd (fX4_firstWrong 1 (shX u) σ1) fun r s => some (r, s) else some (nI (cn (cm (σ 374) n nt) 175), σ1) := by
      rw [ec0, e20, if_neg G, eb, bd_v]
      unfold fX4_placeOf
      rw [bd_v, hpl, if_pos (by rw [H]), c_count hW (hM1.lr hL), bd_v, hM1.1 _ _ (by unfold shX; omega), t4]
      by_cases z : c = cn (cm (σ 374) n nt) 175
      · rw [if_pos (by rw [z]), if_pos z]
      · rw [if_neg (fun q => z ((nI_eq (by omega) (by omega)).mp q)), if_neg z]
    by_cases K : c = cn (cm (σ 374) n nt) 175
    · obtain ⟨r, σ3, ew, hM3, hr3⟩ := c_firstWrong (x := u) (S := fun i => σ 378 (60 * u + i)) hW hL (fun k _ => rfl) hV (by omega) hB t2 (by rw [t4, K]) t5 175 0 FU σ1 (by omega) (by rw [FU_s]; omega) hM1 (fun i hi => by omega)
      have ew' : fX4_firstWrong 1 (shX u) σ1 = some (r, σ3) := by
        unfold fX4_firstWrong
        rw [lt_v, lt_v]
        exact ew
      obtain ⟨⟨σ2, e2, hQ, hI2⟩, -⟩ := mend_two hI hW hV hM3
      have f2 : ∀ cc i, (374 ≤ cc ∧ cc < 380) → σ2 cc i = σ cc i := fun cc i hcc => by rw [hQ.1.1 cc i (by omega), hM3.1 cc i (by omega)]
      have h3374 : σ3 374 = σ 374 := funext fun k => hM3.1 _ _ (by omega)
      have eref : fX11_proves 373 (nI x) (nI y) (nI s) (nI u) σ3 = lq1 (fX11_proves_175 373 (nI u)) FU 0 σ2 := by
        rw [rr2 σ3 h3374, if_neg F, if_neg (by rw [hM3.1 _ _ (by omega)]; exact G), e2, bd_v, r91, r103 σ3 σ2 hQ (by rw [f2 _ _ (by omega), t3]), if_pos H, if_pos K]
      -- prices by their numbers
      obtain ⟨P, hP⟩ : ∃ P : Nat → Int32, ∀ q, q < 175 → cm (σ 374) n nt q = true → σ2 398 (cn (cm (σ 374) n nt) q) = P (cn (cm (σ 374) n nt) q) ∧ P (cn (cm (σ 374) n nt) q) = pv q := ⟨σ2 398, fun q h1 h2 => ⟨rfl, (hQ.2.2.1 q h1 h2).2.2⟩⟩
      have rw1 := r_firstWrong (τ := σ2) (C := cn (cm (σ 374) n nt) 175) (x := u) (B := σ 376 u) (S := fun i => σ 378 (60 * u + i)) (P := σ2 398) h42 (by omega) hQ.2.1 (f2 _ _ (by omega)) (fun i _ => f2 _ _ (by omega)) (fun i _ => rfl)
      have hPv : ∀ q, q < 175 → cm (σ 374) n nt q = true → σ2 398 (cn (cm (σ 374) n nt) q) = pv q := fun q h1 h2 => (hQ.2.2.1 q h1 h2).2.2
      refine two_mk (r := r) (σ1 := σ3) (σ2 := σ2) (by rw [ebest, if_pos K, ew', bd_v]) ?_ hI2
      rw [eref]
      rcases hr3 with ⟨q, q1, q2, q3, q4, rfl⟩ | ⟨q1, rfl⟩
      · rcases rw1 with ⟨i, i1, i2, i3, i4⟩ | ⟨i1, -⟩
        · have hiq : i = cn (cm (σ 374) n nt) q := by
            obtain ⟨q', w1, w2, w3⟩ := cn_surj 175 i1
            rcases Nat.lt_trichotomy i (cn (cm (σ 374) n nt) q) with z | z | z
            · exfalso
              have hlt : q' < q := by
                rcases Nat.lt_or_ge q' q with y | y
                · exact y
                · have := cn_le (f := cm (σ 374) n nt) y
                  omega
              have := q4 q' hlt w2
              rw [w3] at this
              apply i2
              have hp := hPv q' w1 w2
              rw [w3] at hp
              rw [hp]
              exact this
            · exact z
            · exfalso
              apply q3
              have := i3 _ z
              rw [hPv q q1 q2] at this
              exact this
          rw [i4, hiq]
        · exfalso
          apply q3
          have := i1 _ (cn_lt (f := cm (σ 374) n nt) q1 q2)
          rw [hPv q q1 q2] at this
          exact this
      · rcases rw1 with ⟨i, i1, i2, i3, i4⟩ | ⟨-, i4⟩
        · exfalso
          obtain ⟨q', w1, w2, w3⟩ := cn_surj 175 i1
          apply i2
          have hp := hPv q' w1 w2
          have hq := q1 q' w1 w2
          rw [w3] at hp hq
          rw [hp]
          exact hq
        · exact i4
    · obtain ⟨⟨σ2, e2, hQ, hI2⟩, -⟩ := mend_two hI hW hV hM1
      refine two_mk (r := nI (cn (cm (σ 374) n nt) 175)) (σ1 := σ1) (σ2 := σ2) (by rw [ebest, if_neg K]) ?_ hI2
      rw [rr2 σ1 h374, if_neg F, if_neg (by rw [h376]; exact G), e2, bd_v, r91, r103 σ1 σ2 hQ (by rw [hQ.1.1 _ _ (by omega), hM1.1 _ _ (by omega), t3]), if_pos H, if_neg K]
  · obtain ⟨-, σ2, e2, hQ, hI2⟩ := mend_two hI hW hV hM1
    refine two_mk (r := -100004) (σ1 := wr σ1 0 5 (σ1 0 5 + 1)) (σ2 := wr σ2 373 4 (σ2 373 4 + 1)) ?_ ?_ hI2
    · rw [ec0, e20, if_neg G, eb, bd_v]
      unfold fX4_placeOf
      rw [bd_v, hpl, if_neg (fun q => H ((nI_eq (by omega) (by omega)).mp q))]
    · rw [rr2 _ (by rw [wr_r (by decide), h374]), if_neg F, if_neg (by rw [wr_c (by decide), h376]; exact G), e2, bd_v, r91, r103 _ σ2 hQ (by rw [hQ.1.1 _ _ (by omega), wr_c (by decide), hM1.1 _ _ (by omega), t3]), if_neg H]
