/-! PURE: what a day shows -/
theorem day_two {σ : Sg} {n nt no nf : Nat} (hI : Inv σ) (hW : Wf (σ 374) n nt no nf) : ∃ σ1, fX0_played 2 σ = some (22, σ1) ∧ (∀ c i, ((c < 22 ∧ c ≠ 2) ∨ 57 ≤ c) → σ1 c i = σ c i) ∧ (∃ σ2, fX11_runsAsItIs 373 σ1 = some ((), σ2) ∧ Obs nt σ1 σ2 ∧ σ2 374 = σ 374 ∧ Inv σ2) ∧ ∃ σ2, fX11_runsAsItIs 373 (wr σ1 0 5 (σ1 0 5 + 1)) = some ((), σ2) ∧ Obs nt σ1 σ2 ∧ σ2 374 = σ 374 ∧ Inv (wr σ2 373 4 (σ2 373 4 + 1)) := by
  obtain ⟨σ1, e1, f1, h⟩ := day_all hI hW
  have h5 : σ1 0 5 = σ 373 4 := by
    obtain ⟨_, _, _, _, -, -, -, -, a5, -⟩ := hI
    rw [f1 0 5 (by omega), a5]
  refine ⟨σ1, e1, f1, ?_, ?_⟩
  · obtain ⟨σ2, e2, hO, fr, e4, e374, hI2⟩ := h (σ1 0 5)
    rw [wr_self] at e2
    rw [h5, ← e4, wr_self] at hI2
    exact ⟨σ2, e2, hO, e374, hI2⟩
  · obtain ⟨σ2, e2, hO, fr, e4, e374, hI2⟩ := h (σ1 0 5 + 1)
    rw [h5, ← e4] at hI2
    exact ⟨σ2, e2, hO, e374, hI2⟩
theorem s_heads {σ : Sg} (hI : Inv σ) : Two (fX10_heads 0) (fX11_heads 373) σ := by
  obtain ⟨n, nt, no, nf, hL, hW, h4, h7, h13, h3⟩ := hI.k
  obtain ⟨σ1, e1, f1, ⟨σ2, e2, hO, e374, hI2⟩, -⟩ := day_two hI hW
  refine two_mk (r := σ1 22 6) (σ1 := σ1) (σ2 := σ2) ?_ ?_ hI2
  · unfold fX10_heads
    rw [rf_0_1, e1, bd_v]
  · unfold fX11_heads
    rw [e2, bd_v, hO.2.2.2.2.1]
theorem s_fouls {σ : Sg} (hI : Inv σ) : Two (fX10_fouls 0) (fX11_fouls 373) σ := by
  obtain ⟨n, nt, no, nf, hL, hW, h4, h7, h13, h3⟩ := hI.k
  obtain ⟨σ1, e1, f1, ⟨σ2, e2, hO, e374, hI2⟩, -⟩ := day_two hI hW
  refine two_mk (r := σ1 22 11) (σ1 := σ1) (σ2 := σ2) ?_ ?_ hI2
  · unfold fX10_fouls
    rw [rf_0_1, e1, bd_v]
  · unfold fX11_fouls
    rw [e2, bd_v, hO.2.2.2.2.2.2.1]
theorem e11_delays {τ : Sg} {n nt no nf : Nat} (hW : Wf (τ 374) n nt no nf) : fX11_delays 373 τ = some (dl (τ 374) (τ 385) nt, τ) := by
  have hnt := hW.nt
  have hn : n ≤ 7 := hW.1.1.2
  have t14 := hW.2.1.2.1
  have hst : ∀ i (v : Int32) (ρ : Sg), i < nt → (ρ = τ ∧ v = dl (τ 374) (τ 385) i) → ∃ v' ρ', (∀ K, fX11_delays_4 373 K v (nI i) ρ = K v' (nI (i + 1)) ρ') ∧ (ρ' = τ ∧ v' = dl (τ 374) (τ 385) (i + 1)) := by
    rintro i v ρ hi ⟨hρ, hv⟩
    obtain ⟨k, f, d, len, tm, a1, a2, a3, a4, a5, a6, a7, e1, e2, e3, e4, e5⟩ := hW.2.2.2.2.1 i hi
    refine ⟨dl (τ 374) (τ 385) (i + 1), τ, fun K => ?_, rfl, rfl⟩
    rw [hρ, hv]
    show _ = K (dl (τ 374) (τ 385) i + dlt (τ 374) (τ 385) i) _ _
    unfold fX11_delays_4 fX11_delays_74 fX11_delays_75 dlt
    simp only [rf_373_0, ln_374, gd14, cl14, t14, if_neg (nle_of hi (show nt < 2 ^ 31 by omega)), e11_fromOf τ i (show i < 5 by omega), e11_toOf τ i (show i < 5 by omega), e11_timeOf τ i (show i < 5 by omega), e11_kindOf τ i (show i < 5 by omega), bd_v, lt_v, e2, e3, e11_between τ f d (by omega) (by omega), rf_373_15, ln_385, gd5 (show i < 5 by omega), nI_cl (show i < 2147483648 by omega), nI_cl (show f < 2147483648 by omega), nI_cl (show d < 2147483648 by omega), nI_1]
    by_cases A : τ 385 i < 0
    · rw [if_neg (Int32.not_le.mpr A), if_pos A]
    · rw [if_pos (Int32.not_lt.mp A), if_neg A]
      by_cases B : τ 374 (15 + 5 * i) = 3
      · rw [if_pos B, if_pos B]
      · rw [if_neg B, if_neg B]
  obtain ⟨v, ρ, fu, e, hρ, hv⟩ := sl2 (b := fX11_delays_4 373) nt _ hst nt 0 FU 0 τ (by omega) (by rw [FU_s]; omega) ⟨rfl, rfl⟩
  unfold fX11_delays
  rw [lt_v, lt_v]
  refine Eq.trans e ?_
  rw [hρ, hv]
  generalize lq2 (fX11_delays_4 373) fu = KK
  unfold fX11_delays_4
  rw [rf_373_0, ln_374, gd14, cl14, t14, if_pos (nI_le (Nat.le_refl _) (by omega))]
theorem s_delay {σ : Sg} (hI : Inv σ) : Two (fX10_delay 0) (fX11_delay 373) σ := by
  obtain ⟨n, nt, no, nf, hL, hW, h4, h7, h13, h3⟩ := hI.k
  obtain ⟨σ1, e1, f1, ⟨σ2, e2, hO, e374, hI2⟩, -⟩ := day_two hI hW
  refine two_mk (r := σ1 22 12) (σ1 := σ1) (σ2 := σ2) ?_ ?_ hI2
  · unfold fX10_delay
    rw [rf_0_1, e1, bd_v]
  · unfold fX11_delay
    rw [e2, bd_v, e11_delays (τ := σ2) (by rw [e374]; exact hW), bd_v, hO.2.2.2.2.2.2.2.1]
theorem s_where {σ : Sg} (hI : Inv σ) (a1 a2 : Int32) : Two (fX10_where 0 a1 a2) (fX11_where 373 a1 a2) σ := by
  obtain ⟨n, nt, no, nf, hL, hW, h4, h7, h13, h3⟩ := hI.k
  obtain ⟨g0, g14, g40, g161⟩ := hW.2.1
  have hnt : nt ≤ 5 := hW.1.2.1
  unfold fX10_where fX11_where
  simp only [rf_0_1, rf_0_2, rf_3_1, e9_has (v0 := 7) h7, bd_v, e10_finding, e11_finds, e10_isWithin, e11_isMinute]
  by_cases A : ib a1 nt = 0
  · exact two_find (-100001) hI (by simp only [e9_has (v0 := 7) h7, bd_v, A, if_true]) (fun τ hτ => by
      rw [e11_isTrain (n := nt) (by rw [row374 hτ, g14]) (by omega), bd_v, if_pos A])
  obtain ⟨t, ht, rfl⟩ := ib_of (by omega) A
  by_cases B : iw a2 0 500 = 0
  · exact two_find (-100001) hI (by simp only [e9_has (v0 := 7) h7, bd_v, if_neg A, B, if_true]) (fun τ hτ => by
      rw [e11_isTrain (n := nt) (by rw [row374 hτ, g14]) (by omega), bd_v, if_neg A, if_pos B])
  obtain ⟨m, -, hm, rfl⟩ := iw_nat (a := 0) (b := 500) (iw_of B).1 (iw_of B).2 (by decide) (by decide)
  obtain ⟨σ1, e1, f1, ⟨σ2, e2, hO, e374, hI2⟩, -⟩ := day_two hI hW
  refine two_mk (r := if σ1 22 0 ≤ nI m then 300 else σ1 23 (501 * t + m)) (σ1 := σ1) (σ2 := σ2) ?_ ?_ hI2
  · simp only [e9_has (v0 := 7) h7, bd_v, if_neg A, if_neg B, e1]
    unfold fX1_placeBehind
    rw [i501, rf_22_1, ln_23, gd_in (n := 2505) (by omega) (by decide), nI_cl (by omega)]
    by_cases z : σ1 22 0 ≤ nI m
    · rw [if_pos z, if_pos z, bd_v]
    · rw [if_neg z, if_neg z, bd_v]
  · have g14' : σ1 374 14 = nI nt := by rw [f1 _ _ (by omega), g14]
    simp only [e11_isTrain (n := nt) g14' (show nt < 2 ^ 31 by omega), bd_v, if_neg A, if_neg B, e2]
    rw [j501, rf_373_19, ln_389, gd_in (n := 2505) (by omega) (by decide), nI_cl (by omega), hO.1 t m ht hm]
theorem s_why {σ : Sg} (hI : Inv σ) (a1 a2 : Int32) : Two (fX10_why 0 a1 a2) (fX11_why 373 a1 a2) σ := by
  obtain ⟨n, nt, no, nf, hL, hW, h4, h7, h13, h3⟩ := hI.k
  obtain ⟨g0, g14, g40, g161⟩ := hW.2.1
  have hnt : nt ≤ 5 := hW.1.2.1
  unfold fX10_why fX11_why
  simp only [rf_0_1, rf_0_2, rf_3_1, e9_has (v0 := 7) h7, bd_v, e10_finding, e11_finds, e10_isWithin, e11_isMinute, lt_v]
  by_cases A : ib a1 nt = 0
  · exact two_find (-100001) hI (by simp only [e9_has (v0 := 7) h7, bd_v, A, if_true]) (fun τ hτ => by
      rw [e11_isTrain (n := nt) (by rw [row374 hτ, g14]) (by omega), bd_v, if_pos A])
  obtain ⟨t, ht, rfl⟩ := ib_of (by omega) A
  by_cases B : iw a2 0 500 = 0
  · exact two_find (-100001) hI (by simp only [e9_has (v0 := 7) h7, bd_v, if_neg A, B, if_true]) (fun τ hτ => by
      rw [e11_isTrain (n := nt) (by rw [row374 hτ, g14]) (by omega), bd_v, if_neg A, if_pos B])
  obtain ⟨m, -, hm, rfl⟩ := iw_nat (a := 0) (b := 500) (iw_of B).1 (iw_of B).2 (by decide) (by decide)
  obtain ⟨σ1, e1, f1, ⟨σ2, e2, hO, e374, hI2⟩, σ2', e2', hO', e374', hI2'⟩ := day_two hI hW
  have hre : fX1_reasonIn 22 (nI t) (nI m) σ1 = some (if σ1 22 0 ≤ nI m then -1 else σ1 24 (501 * t + m), σ1) := by
    unfold fX1_reasonIn
    rw [i501, rf_22_2, ln_24, gd_in (n := 2505) (by omega) (by decide), nI_cl (by omega)]
    by_cases z : σ1 22 0 ≤ nI m
    · rw [if_pos z, if_pos z]
    · rw [if_neg z, if_neg z]
  generalize hv : (if σ1 22 0 ≤ nI m then (-1 : Int32) else σ1 24 (501 * t + m)) = v at hre
  have o1 := hO.2.1 t m ht hm
  have o2 := hO'.2.1 t m ht hm
  rw [hv] at o1 o2
  have g14' : σ1 374 14 = nI nt := by rw [f1 _ _ (by omega), g14]
  by_cases z : v = -1
  · refine two_mk (r := -100006) (σ1 := wr σ1 0 5 (σ1 0 5 + 1)) (σ2 := wr σ2' 373 4 (σ2' 373 4 + 1)) ?_ ?_ hI2'
    · simp only [e9_has (v0 := 7) h7, bd_v, if_neg A, if_neg B, e1, hre, if_pos z]
    · have h6 : σ2' 390 (501 * t + m) = -100006 := by
        have q := o2.1
        rw [z] at q
        by_cases y : σ2' 390 (501 * t + m) = -100006
        · exact y
        · rw [if_neg y] at q; exact absurd q.symm o2.2
      simp only [e11_isTrain (n := nt) (σ := wr σ1 0 5 (σ1 0 5 + 1)) (by rw [wr_c (by decide)]; exact g14') (show nt < 2 ^ 31 by omega), bd_v, if_neg A, if_neg B, e2']
      rw [j501, rf_373_20, ln_390, gd_in (n := 2505) (by omega) (by decide), nI_cl (by omega), if_pos h6]
  · refine two_mk (r := v) (σ1 := σ1) (σ2 := σ2) ?_ ?_ hI2
    · simp only [e9_has (v0 := 7) h7, bd_v, if_neg A, if_neg B, e1, hre, if_neg z]
    · have h6 : ¬ σ2 390 (501 * t + m) = -100006 := fun y => z (by rw [o1.1, if_pos y])
      have h7' : σ2 390 (501 * t + m) = v := by rw [o1.1, if_neg h6]
      simp only [e11_isTrain (n := nt) g14' (show nt < 2 ^ 31 by omega), bd_v, if_neg A, if_neg B, e2]
      rw [j501, rf_373_20, ln_390, gd_in (n := 2505) (by omega) (by decide), nI_cl (by omega), if_neg h6, h7']
theorem m1nn : ¬ (0 : Int32) ≤ -1 := by decide
theorem s_came {σ : Sg} (hI : Inv σ) (a1 a2 : Int32) : Two (fX10_came 0 a1 a2) (fX11_came 373 a1 a2) σ := by
  obtain ⟨n, nt, no, nf, hL, hW, h4, h7, h13, h3⟩ := hI.k
  obtain ⟨g0, g14, g40, g161⟩ := hW.2.1
  have hnt : nt ≤ 5 := hW.1.2.1
  have hn := hW.st
  unfold fX10_came fX11_came
  simp only [rf_0_1, rf_0_2, rf_3_0, rf_3_1, e9_has (v0 := 7) h7, e8_hasStation (v0 := 4) h4, bd_v, e10_finding, e11_finds, lt_v]
  by_cases A : ib a1 nt = 0
  · exact two_find (-100001) hI (by simp only [e9_has (v0 := 7) h7, bd_v, A, if_true]) (fun τ hτ => by
      rw [e11_isTrain (n := nt) (by rw [row374 hτ, g14]) (by omega), bd_v, if_pos A])
  obtain ⟨t, ht, rfl⟩ := ib_of (by omega) A
  by_cases D : ib a2 n = 0
  · exact two_find (-100001) hI (by simp only [e9_has (v0 := 7) h7, e8_hasStation (v0 := 4) h4, bd_v, if_neg A, D, if_true]) (fun τ hτ => by
      rw [e11_isTrain (n := nt) (by rw [row374 hτ, g14]) (by omega), bd_v, if_neg A, e11_isStation (n := n) (by rw [row374 hτ, g0]) (by omega), bd_v, if_pos D])
  obtain ⟨s, hs, rfl⟩ := ib_of (by omega) D
  obtain ⟨σ1, e1, f1, ⟨σ2, e2, hO, e374, hI2⟩, σ2', e2', hO', e374', hI2'⟩ := day_two hI hW
  obtain ⟨o1, o2⟩ := hO.2.2.1 t s ht (by omega)
  obtain ⟨o3, -⟩ := hO'.2.2.1 t s ht (by omega)
  have g14' : σ1 374 14 = nI nt := by rw [f1 _ _ (by omega), g14]
  have g0' : σ1 374 0 = nI n := by rw [f1 _ _ (by omega), g0]
  by_cases z : σ1 25 (7 * t + s) = -1
  · refine two_mk (r := -100006) (σ1 := wr σ1 0 5 (σ1 0 5 + 1)) (σ2 := wr σ2' 373 4 (σ2' 373 4 + 1)) ?_ ?_ hI2'
    · simp only [e9_has (v0 := 7) h7, e8_hasStation (v0 := 4) h4, bd_v, if_neg A, if_neg D, e1]
      rw [i7, rf_22_3, ln_25, gd35 (by omega), nI_cl (by omega), if_pos z]
    · simp only [e11_isTrain (n := nt) (σ := wr σ1 0 5 (σ1 0 5 + 1)) (by rw [wr_c (by decide)]; exact g14') (show nt < 2 ^ 31 by omega), e11_isStation (n := n) (σ := wr σ1 0 5 (σ1 0 5 + 1)) (by rw [wr_c (by decide)]; exact g0') (show n < 2 ^ 31 by omega), bd_v, if_neg A, if_neg D, e2']
      simp only [j7, rf_373_16, ln_386, gd35 (show 7 * t + s < 35 by omega), nI_cl (show 7 * t + s < 2147483648 by omega), ← o3, z, if_neg m1nn]
  · have hnn : 0 ≤ σ1 25 (7 * t + s) := by
      rcases o2 with q | q
      · rw [← o1] at q; exact absurd q z
      · rw [o1]; exact Int32.not_lt.mp q
    refine two_mk (r := σ1 25 (7 * t + s)) (σ1 := σ1) (σ2 := σ2) ?_ ?_ hI2
    · simp only [e9_has (v0 := 7) h7, e8_hasStation (v0 := 4) h4, bd_v, if_neg A, if_neg D, e1]
      rw [i7, rf_22_3, ln_25, gd35 (by omega), nI_cl (by omega), if_neg z]
    · simp only [e11_isTrain (n := nt) g14' (show nt < 2 ^ 31 by omega), e11_isStation (n := n) g0' (show n < 2 ^ 31 by omega), bd_v, if_neg A, if_neg D, e2]
      rw [j7, rf_373_16, ln_386, gd35 (by omega), gd35 (by omega), nI_cl (by omega), ← o1, if_pos hnn]
theorem s_left {σ : Sg} (hI : Inv σ) (a1 a2 : Int32) : Two (fX10_left 0 a1 a2) (fX11_left 373 a1 a2) σ := by
  obtain ⟨n, nt, no, nf, hL, hW, h4, h7, h13, h3⟩ := hI.k
  obtain ⟨g0, g14, g40, g161⟩ := hW.2.1
  have hnt : nt ≤ 5 := hW.1.2.1
  have hn := hW.st
  unfold fX10_left fX11_left
  simp only [rf_0_1, rf_0_2, rf_3_0, rf_3_1, e9_has (v0 := 7) h7, e8_hasStation (v0 := 4) h4, bd_v, e10_finding, e11_finds, lt_v]
  by_cases A : ib a1 nt = 0
  · exact two_find (-100001) hI (by simp only [e9_has (v0 := 7) h7, bd_v, A, if_true]) (fun τ hτ => by
      rw [e11_isTrain (n := nt) (by rw [row374 hτ, g14]) (by omega), bd_v, if_pos A])
  obtain ⟨t, ht, rfl⟩ := ib_of (by omega) A
  by_cases D : ib a2 n = 0
  · exact two_find (-100001) hI (by simp only [e9_has (v0 := 7) h7, e8_hasStation (v0 := 4) h4, bd_v, if_neg A, D, if_true]) (fun τ hτ => by
      rw [e11_isTrain (n := nt) (by rw [row374 hτ, g14]) (by omega), bd_v, if_neg A, e11_isStation (n := n) (by rw [row374 hτ, g0]) (by omega), bd_v, if_pos D])
  obtain ⟨s, hs, rfl⟩ := ib_of (by omega) D
  obtain ⟨σ1, e1, f1, ⟨σ2, e2, hO, e374, hI2⟩, σ2', e2', hO', e374', hI2'⟩ := day_two hI hW
  obtain ⟨o1, o2⟩ := hO.2.2.2.1 t s ht (by omega)
  obtain ⟨o3, -⟩ := hO'.2.2.2.1 t s ht (by omega)
  have g14' : σ1 374 14 = nI nt := by rw [f1 _ _ (by omega), g14]
  have g0' : σ1 374 0 = nI n := by rw [f1 _ _ (by omega), g0]
  by_cases z : σ1 26 (7 * t + s) = -1
  · refine two_mk (r := -100006) (σ1 := wr σ1 0 5 (σ1 0 5 + 1)) (σ2 := wr σ2' 373 4 (σ2' 373 4 + 1)) ?_ ?_ hI2'
    · simp only [e9_has (v0 := 7) h7, e8_hasStation (v0 := 4) h4, bd_v, if_neg A, if_neg D, e1]
      rw [i7, rf_22_4, ln_26, gd35 (by omega), nI_cl (by omega), if_pos z]
    · simp only [e11_isTrain (n := nt) (σ := wr σ1 0 5 (σ1 0 5 + 1)) (by rw [wr_c (by decide)]; exact g14') (show nt < 2 ^ 31 by omega), e11_isStation (n := n) (σ := wr σ1 0 5 (σ1 0 5 + 1)) (by rw [wr_c (by decide)]; exact g0') (show n < 2 ^ 31 by omega), bd_v, if_neg A, if_neg D, e2']
      simp only [j7, rf_373_17, ln_387, gd35 (show 7 * t + s < 35 by omega), nI_cl (show 7 * t + s < 2147483648 by omega), ← o3, z, if_neg m1nn]
  · have hnn : 0 ≤ σ1 26 (7 * t + s) := by
      rcases o2 with q | q
      · rw [← o1] at q; exact absurd q z
      · rw [o1]; exact Int32.not_lt.mp q
    refine two_mk (r := σ1 26 (7 * t + s)) (σ1 := σ1) (σ2 := σ2) ?_ ?_ hI2
    · simp only [e9_has (v0 := 7) h7, e8_hasStation (v0 := 4) h4, bd_v, if_neg A, if_neg D, e1]
      rw [i7, rf_22_4, ln_26, gd35 (by omega), nI_cl (by omega), if_neg z]
    · simp only [e11_isTrain (n := nt) g14' (show nt < 2 ^ 31 by omega), e11_isStation (n := n) g0' (show n < 2 ^ 31 by omega), bd_v, if_neg A, if_neg D, e2]
      rw [j7, rf_373_17, ln_387, gd35 (by omega), gd35 (by omega), nI_cl (by omega), ← o1, if_pos hnn]
theorem s_head {σ : Sg} (hI : Inv σ) (a1 : Int32) : Two (fX10_head 0 a1) (fX11_head 373 a1) σ := by
  obtain ⟨n, nt, no, nf, hL, hW, h4, h7, h13, h3⟩ := hI.k
  obtain ⟨σ1, e1, f1, ⟨σ2, e2, hO, e374, hI2⟩, σ2', e2', hO', e374', hI2'⟩ := day_two hI hW
  have k1 := hO.2.2.2.2.1
  have k2 := hO'.2.2.2.2.1
  unfold fX10_head fX11_head
  simp only [rf_0_1, e1, bd_v, e10_finding, e11_finds, e10_isWithin]
  by_cases A : σ1 22 6 = 0
  · refine two_mk (r := -100006) (σ1 := wr σ1 0 5 (σ1 0 5 + 1)) (σ2 := wr σ2' 373 4 (σ2' 373 4 + 1)) ?_ ?_ hI2'
    · simp only [e1, bd_v, if_pos A]
    · simp only [e2', bd_v]
      rw [← k2, if_pos A]
  · by_cases B : iw a1 0 3 = 0
    · have nb : a1 ≠ 0 ∧ a1 ≠ 1 ∧ a1 ≠ 2 ∧ a1 ≠ 3 := by
        refine ⟨?_, ?_, ?_, ?_⟩ <;> (rintro rfl; exact absurd B (by decide))
      refine two_mk (r := -100001) (σ1 := wr σ1 0 5 (σ1 0 5 + 1)) (σ2 := wr σ2' 373 4 (σ2' 373 4 + 1)) ?_ ?_ hI2'
      · simp only [e1, bd_v, if_neg A, if_pos B]
      · simp only [e2', bd_v]
        rw [← k2, if_neg A, if_neg nb.1, if_neg nb.2.1, if_neg nb.2.2.1, if_neg nb.2.2.2]
    · obtain ⟨k, -, hk, rfl⟩ := iw_nat (a := 0) (b := 3) (iw_of B).1 (iw_of B).2 (by decide) (by decide)
      have hz : ¬ σ2 373 25 = 0 := by rw [← k1]; exact A
      obtain ⟨⟨q1, q2, q3, q4⟩, -⟩ := hO.2.2.2.2.2.1 hz
      have tell : ∀ r, fX1_tellHead 22 (nI k) σ1 = some (r, σ1) → (if nI k = 0 then some (σ2 373 26, σ2) else if nI k = 1 then some (σ2 373 27, σ2) else if nI k = 2 then some (σ2 373 28, σ2) else if nI k = 3 then some (σ2 373 29, σ2) else some (-100001, wr σ2 373 4 (σ2 373 4 + 1))) = some (r, σ2) → Two (fun σ => bd (fX0_played 2 σ) fun r_4 s_4 => if s_4 r_4 6 = 0 then some (-100006, wr s_4 0 5 (s_4 0 5 + 1)) else if iw (nI k) 0 3 = 0 then some (-100001, wr s_4 0 5 (s_4 0 5 + 1)) else bd (fX1_tellHead r_4 (nI k) s_4) fun r_40 s_40 => some (r_40, s_40)) (fun σ => bd (fX11_runsAsItIs 373 σ) fun _ s_1 => if s_1 373 25 = 0 then some (-100006, wr s_1 373 4 (s_1 373 4 + 1)) else if nI k = 0 then some (s_1 373 26, s_1) else if nI k = 1 then some (s_1 373 27, s_1) else if nI k = 2 then some (s_1 373 28, s_1) else if nI k = 3 then some (s_1 373 29, s_1) else some (-100001, wr s_1 373 4 (s_1 373 4 + 1))) σ := by
        intro r h1 h2
        refine two_mk (r := r) (σ1 := σ1) (σ2 := σ2) ?_ ?_ hI2
        · simp only [e1, bd_v, if_neg A, if_neg B, h1]
        · simp only [e2, bd_v, if_neg hz]
          exact h2
      rcases (by omega : k = 0 ∨ k = 1 ∨ k = 2 ∨ k = 3) with rfl | rfl | rfl | rfl
      · exact tell (σ1 22 7) rfl (by rw [if_pos (show nI 0 = 0 from rfl), q1])
      · exact tell (σ1 22 8) rfl (by rw [if_neg (show ¬ nI 1 = 0 by decide), if_pos (show nI 1 = 1 from rfl), q2])
      · exact tell (σ1 22 9) rfl (by rw [if_neg (show ¬ nI 2 = 0 by decide), if_neg (show ¬ nI 2 = 1 by decide), if_pos (show nI 2 = 2 from rfl), q3])
      · exact tell (σ1 22 10) rfl (by rw [if_neg (show ¬ nI 3 = 0 by decide), if_neg (show ¬ nI 3 = 1 by decide), if_neg (show ¬ nI 3 = 2 by decide), if_pos (show nI 3 = 3 from rfl), q4])
