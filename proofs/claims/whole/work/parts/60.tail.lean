/-! PURE: the reference's day when all are off; its begin -/
theorem off_minute {τ : Sg} {g : Nat → Int32} {n nt no nf m : Nat} (hW : Wf g n nt no nf) (hO : On τ g) (hm : m ≤ 500) (hoff : ∀ t, t < nt → τ 381 t = 3) (K6 : Int32 → Sg → Option (Unit × Sg)) : ∃ τ', fX11_runs_6 373 K6 (nI m) τ = K6 (nI (m + 1)) τ' ∧ (∀ c i, c ≠ 389 → c ≠ 390 → τ' c i = τ c i) ∧ (∀ j, (∀ t, t < nt → j ≠ 501 * t + m) → τ' 389 j = τ 389 j ∧ τ' 390 j = τ 390 j) ∧ ∀ t, t < nt → τ' 389 (501 * t + m) = 300 ∧ τ' 390 (501 * t + m) = -100006 := by
  have hnt := hW.nt
  have t14 := hO.nt hW
  -- coming in
  obtain ⟨τ1, f1, e1, h1⟩ := sl1 (b := fX11_runs_15 373 (nI m) K6) nt (fun _ ρ => ρ = τ) (by
    intro i ρ hi hρ
    refine ⟨τ, fun K => ?_, rfl⟩
    rw [hρ]
    unfold fX11_runs_15 fX11_runs_67
    simp only [rf_373_0, ln_374, gd14, cl14, t14, if_neg (nle_of hi (show nt < 2 ^ 31 by omega)), rf_373_11, ln_381, gd5 (show i < 5 by omega), nI_cl (show i < 2147483648 by omega), hoff i hi, if_neg (show ¬ (3 : Int32) = 2 by decide), lt_v, nI_1]) nt 0 FU τ (by omega) (by rw [FU_s]; omega) rfl
  have x1 : lq1 (fX11_runs_15 373 (nI m) K6) FU 0 τ = lq1 (fX11_runs_75 373 (nI m) K6) FU 0 τ := by
    refine Eq.trans e1 ?_
    rw [h1]
    generalize lq1 (fX11_runs_15 373 (nI m) K6) f1 = KK
    unfold fX11_runs_15
    rw [rf_373_0, ln_374, gd14, cl14, t14, if_pos (nI_le (Nat.le_refl _) (by omega)), lt_v]
  obtain ⟨τ2, f2, e2, h2⟩ := sl1 (b := fX11_runs_75 373 (nI m) K6) nt (fun _ ρ => ρ = τ) (by
    intro i ρ hi hρ
    refine ⟨τ, fun K => ?_, rfl⟩
    rw [hρ]
    unfold fX11_runs_75 fX11_runs_115
    simp only [rf_373_0, ln_374, gd14, cl14, t14, if_neg (nle_of hi (show nt < 2 ^ 31 by omega)), rf_373_11, ln_381, gd5 (show i < 5 by omega), nI_cl (show i < 2147483648 by omega), hoff i hi, if_neg (show ¬ (3 : Int32) = 0 by decide), lt_v, nI_1]) nt 0 FU τ (by omega) (by rw [FU_s]; omega) rfl
  have x2 : lq1 (fX11_runs_75 373 (nI m) K6) FU 0 τ = lq1 (fX11_runs_123 373 (nI m) K6) FU 0 τ := by
    refine Eq.trans e2 ?_
    rw [h2]
    generalize lq1 (fX11_runs_75 373 (nI m) K6) f2 = KK
    unfold fX11_runs_75
    rw [rf_373_0, ln_374, gd14, cl14, t14, if_pos (nI_le (Nat.le_refl _) (by omega)), lt_v]
  -- leaving
  have hst3 : ∀ i (ρ : Sg), i < nt → ((∀ c j, c ≠ 390 → ρ c j = τ c j) ∧ (∀ j, (∀ t, t < i → j ≠ 501 * t + m) → ρ 390 j = τ 390 j) ∧ ∀ t, t < i → ρ 390 (501 * t + m) = -100006) → ∃ ρ', (∀ K, fX11_runs_123 373 (nI m) K6 K (nI i) ρ = K (nI (i + 1)) ρ') ∧ ((∀ c j, c ≠ 390 → ρ' c j = τ c j) ∧ (∀ j, (∀ t, t < i + 1 → j ≠ 501 * t + m) → ρ' 390 j = τ 390 j) ∧ ∀ t, t < i + 1 → ρ' 390 (501 * t + m) = -100006) := by
    rintro i ρ hi ⟨k1, k2, k3⟩
    refine ⟨wr ρ 390 (501 * i + m) (-100006), fun K => ?_, fun c j hc => by rw [wr_c hc, k1 c j hc], fun j hj => ?_, fun t ht => ?_⟩
    · unfold fX11_runs_123 fX11_runs_203
      simp only [lt_v, rf_373_0, ln_374, gd14, cl14, k1 374 14 (by decide), t14, if_neg (nle_of hi (show nt < 2 ^ 31 by omega)), j501, rf_373_20, ln_390, gd_in (show 501 * i + m < 2505 by omega) (show 2505 < 2147483648 by decide), nI_cl (show 501 * i + m < 2147483648 by omega), rf_373_11, ln_381, gd5 (show i < 5 by omega), nI_cl (show i < 2147483648 by omega), wr_c (show 381 ≠ 390 by decide), k1 381 i (by decide), hoff i hi, if_neg (show ¬ (3 : Int32) = 1 by decide), nI_1]
    · rw [wr_i (hj i (by omega)), k2 j (fun t ht => hj t (by omega))]
    · by_cases z : t = i
      · subst z; rw [wr_eq]
      · rw [wr_i (by omega), k3 t (by omega)]
  obtain ⟨τ3, f3, e3, k1, k2, k3⟩ := sl1 (b := fX11_runs_123 373 (nI m) K6) nt _ hst3 nt 0 FU τ (by omega) (by rw [FU_s]; omega) ⟨fun c j _ => rfl, fun j _ => rfl, fun t ht => by omega⟩
  have hO3 : On τ3 g := fun k hk => by rw [k1 _ _ (by decide)]; exact hO k hk
  have hl : fX11_looksAtHeads 373 (nI m) τ3 = some ((), τ3) := r_looks0 hW hO3 (fun a b hab hb q => by rw [k1 _ _ (by decide), hoff a (by omega)] at q; exact absurd q (by decide))
  have x3 : lq1 (fX11_runs_123 373 (nI m) K6) FU 0 τ = lq1 (fX11_runs_216 373 (nI m) K6) FU 0 τ3 := by
    refine Eq.trans e3 ?_
    generalize lq1 (fX11_runs_123 373 (nI m) K6) f3 = KK
    unfold fX11_runs_123
    rw [rf_373_0, ln_374, gd14, cl14, hO3.nt hW, if_pos (nI_le (Nat.le_refl _) (by omega)), hl, bd_v, lt_v]
  -- places
  have hst4 : ∀ i (ρ : Sg), i < nt → ((∀ c j, c ≠ 389 → ρ c j = τ3 c j) ∧ (∀ j, (∀ t, t < i → j ≠ 501 * t + m) → ρ 389 j = τ3 389 j) ∧ ∀ t, t < i → ρ 389 (501 * t + m) = 300) → ∃ ρ', (∀ K, fX11_runs_216 373 (nI m) K6 K (nI i) ρ = K (nI (i + 1)) ρ') ∧ ((∀ c j, c ≠ 389 → ρ' c j = τ3 c j) ∧ (∀ j, (∀ t, t < i + 1 → j ≠ 501 * t + m) → ρ' 389 j = τ3 389 j) ∧ ∀ t, t < i + 1 → ρ' 389 (501 * t + m) = 300) := by
    rintro i ρ hi ⟨j1, j2, j3⟩
    refine ⟨wr ρ 389 (501 * i + m) 300, fun K => ?_, fun c j hc => by rw [wr_c hc, j1 c j hc], fun j hj => ?_, fun t ht => ?_⟩
    · unfold fX11_runs_216 fX11_runs_297
      simp only [lt_v, rf_373_0, ln_374, gd14, cl14, j1 374 14 (by decide), hO3.nt hW, if_neg (nle_of hi (show nt < 2 ^ 31 by omega)), rf_373_11, rf_373_12, rf_373_19, ln_381, ln_382, ln_389, gd5 (show i < 5 by omega), nI_cl (show i < 2147483648 by omega), j501, gd_in (show 501 * i + m < 2505 by omega) (show 2505 < 2147483648 by decide), nI_cl (show 501 * i + m < 2147483648 by omega), j1 381 i (by decide), k1 381 i (by decide), hoff i hi, if_neg (show ¬ (3 : Int32) = 0 by decide), if_true, nI_1]
    · rw [wr_i (hj i (by omega)), j2 j (fun t ht => hj t (by omega))]
    · by_cases z : t = i
      · subst z; rw [wr_eq]
      · rw [wr_i (by omega), j3 t (by omega)]
  obtain ⟨τ4, f4, e4, j1, j2, j3⟩ := sl1 (b := fX11_runs_216 373 (nI m) K6) nt _ hst4 nt 0 FU τ3 (by omega) (by rw [FU_s]; omega) ⟨fun c j _ => rfl, fun j _ => rfl, fun t ht => by omega⟩
  refine ⟨τ4, ?_, fun c i q1 q2 => by rw [j1 c i q1, k1 c i q2], fun j hj => ⟨by rw [j2 j hj, k1 _ _ (by decide)], by rw [j1 _ _ (by decide), k2 j hj]⟩, fun t ht => ⟨j3 t ht, by rw [j1 _ _ (by decide), k3 t ht]⟩⟩
  unfold fX11_runs_6
  rw [if_neg (show ¬ (500 : Int32) < nI m from nI_nlt (b := m) (a := 500) hm (by decide)), lt_v, x1, x2, x3]
  refine Eq.trans e4 ?_
  generalize lq1 (fX11_runs_216 373 (nI m) K6) f4 = KK
  unfold fX11_runs_216
  rw [rf_373_0, ln_374, gd14, cl14, j1 374 14 (by decide), hO3.nt hW, if_pos (nI_le (Nat.le_refl _) (by omega)), lt_v, nI_1]
theorem r_tail {g : Nat → Int32} {n nt no nf : Nat} (hW : Wf g n nt no nf) : ∀ d m fr τ, m + d = 501 → d < fr → On τ g → (∀ t, t < nt → τ 381 t = 3) → ∃ τ', lq1 (fX11_runs_6 373) fr (nI m) τ = some ((), τ') ∧ (∀ c i, c ≠ 389 → c ≠ 390 → τ' c i = τ c i) ∧ (∀ t m', t < nt → m' < m → τ' 389 (501 * t + m') = τ 389 (501 * t + m') ∧ τ' 390 (501 * t + m') = τ 390 (501 * t + m')) ∧ ∀ t m', t < nt → m ≤ m' → m' ≤ 500 → τ' 389 (501 * t + m') = 300 ∧ τ' 390 (501 * t + m') = -100006 := by
  have hnt := hW.nt
  intro d
  induction d with
  | zero =>
    intro m fr τ h hf hO hoff
    obtain ⟨fr, rfl⟩ : ∃ k, fr = k + 1 := ⟨fr - 1, by omega⟩
    obtain rfl : m = 501 := by omega
    refine ⟨τ, ?_, fun c i _ _ => rfl, fun t m' _ _ => ⟨rfl, rfl⟩, fun t m' _ h1 h2 => by omega⟩
    change fX11_runs_6 373 (lq1 (fX11_runs_6 373) fr) (nI 501) τ = _
    generalize lq1 (fX11_runs_6 373) fr = KK
    unfold fX11_runs_6
    rw [if_pos (by decide)]
  | succ d ih =>
    intro m fr τ h hf hO hoff
    obtain ⟨fr, rfl⟩ : ∃ k, fr = k + 1 := ⟨fr - 1, by omega⟩
    obtain ⟨τ1, e1, h1, h2, h3⟩ := off_minute hW hO (show m ≤ 500 by omega) hoff (lq1 (fX11_runs_6 373) fr)
    obtain ⟨τ2, e2, k1, k2, k3⟩ := ih (m + 1) fr τ1 (by omega) (by omega) (fun k hk => by rw [h1 _ _ (by decide) (by decide)]; exact hO k hk) (fun t ht => by rw [h1 _ _ (by decide) (by decide)]; exact hoff t ht)
    refine ⟨τ2, Eq.trans e1 e2, fun c i q1 q2 => by rw [k1 c i q1 q2, h1 c i q1 q2], fun t m' ht hm' => ?_, fun t m' ht q1 q2 => ?_⟩
    · obtain ⟨a1, a2⟩ := k2 t m' ht (by omega)
      obtain ⟨b1, b2⟩ := h2 (501 * t + m') (fun x hx => by omega)
      exact ⟨a1.trans b1, a2.trans b2⟩
    · by_cases z : m' = m
      · subst z
        obtain ⟨a1, a2⟩ := k2 t m' ht (by omega)
        obtain ⟨b1, b2⟩ := h3 t ht
        exact ⟨a1.trans b1, a2.trans b2⟩
      · exact k3 t m' ht (by omega) q2
/-- the reference at the start of a day -/
def BR (g : Nat → Int32) (nt : Nat) (τ : Sg) : Prop := (∀ t, t < nt → τ 381 t = 0 ∧ τ 383 t = gw g t ∧ τ 391 t = 0 ∧ τ 385 t = -1) ∧ (∀ j, j < 35 → τ 386 j = -1 ∧ τ 387 j = -1 ∧ τ 392 j = 0 ∧ τ 393 j = 0) ∧ (∀ j, j < 14 → τ 388 j = -100) ∧ (∀ j, j < 25 → τ 394 j = 0) ∧ τ 373 25 = 0 ∧ τ 373 31 = 0
theorem rb_1 {τ : Sg} {g : Nat → Int32} {n nt no nf : Nat} (hW : Wf g n nt no nf) (hO : On τ g) : ∀ i (ρ : Sg), i < 5 → ((∀ c j, c ≠ 381 → c ≠ 382 → c ≠ 383 → c ≠ 385 → c ≠ 391 → ρ c j = τ c j) ∧ ∀ t, t < i → t < nt → ρ 381 t = 0 ∧ ρ 383 t = gw g t ∧ ρ 391 t = 0 ∧ ρ 385 t = -1) → ∃ ρ', (∀ K, fX11_begin_2 373 K (nI i) ρ = K (nI (i + 1)) ρ') ∧ ((∀ c j, c ≠ 381 → c ≠ 382 → c ≠ 383 → c ≠ 385 → c ≠ 391 → ρ' c j = τ c j) ∧ ∀ t, t < i + 1 → t < nt → ρ' 381 t = 0 ∧ ρ' 383 t = gw g t ∧ ρ' 391 t = 0 ∧ ρ' 385 t = -1) := by
  have hnt := hW.nt
  have t14 := hO.nt hW
  rintro i ρ hi ⟨k1, k2⟩
  have main : ∀ (p w : Int32), (i < nt → w = gw g i) → ((∀ c j, c ≠ 381 → c ≠ 382 → c ≠ 383 → c ≠ 385 → c ≠ 391 → wr (wr (wr (wr (wr ρ 381 i 0) 382 i p) 383 i w) 391 i 0) 385 i (-1) c j = τ c j) ∧ ∀ t, t < i + 1 → t < nt → wr (wr (wr (wr (wr ρ 381 i 0) 382 i p) 383 i w) 391 i 0) 385 i (-1) 381 t = 0 ∧ wr (wr (wr (wr (wr ρ 381 i 0) 382 i p) 383 i w) 391 i 0) 385 i (-1) 383 t = gw g t ∧ wr (wr (wr (wr (wr ρ 381 i 0) 382 i p) 383 i w) 391 i 0) 385 i (-1) 391 t = 0 ∧ wr (wr (wr (wr (wr ρ 381 i 0) 382 i p) 383 i w) 391 i 0) 385 i (-1) 385 t = -1) := by
    intro p w hw
    refine ⟨fun c j q1 q2 q3 q4 q5 => by rw [wr_c q4, wr_c q5, wr_c q3, wr_c q2, wr_c q1, k1 c j q1 q2 q3 q4 q5], fun t h1 h2 => ?_⟩
    by_cases z : t = i
    · subst z
      refine ⟨?_, ?_, ?_, ?_⟩
      · rw [wr_c (by decide), wr_c (by decide), wr_c (by decide), wr_c (by decide), wr_eq]
      · rw [wr_c (by decide), wr_c (by decide), wr_eq, hw h2]
      · rw [wr_c (by decide), wr_eq]
      · rw [wr_eq]
    · obtain ⟨a1, a2, a3, a4⟩ := k2 t (by omega) h2
      refine ⟨?_, ?_, ?_, ?_⟩
      · rw [wr_c (by decide), wr_c (by decide), wr_c (by decide), wr_c (by decide), wr_i z, a1]
      · rw [wr_c (by decide), wr_c (by decide), wr_i z, wr_c (by decide), wr_c (by decide), a2]
      · rw [wr_c (by decide), wr_i z, wr_c (by decide), wr_c (by decide), wr_c (by decide), a3]
      · rw [wr_i z, wr_c (by decide), wr_c (by decide), wr_c (by decide), wr_c (by decide), a4]
  have r14 : ρ 374 14 = nI nt := by rw [k1 _ _ (by decide) (by decide) (by decide) (by decide) (by decide), t14]
  have h65 : ∀ (K : Int32 → Sg → Option (Unit × Sg)) (s : Sg) (w : Int32), fX11_begin_65 373 (nI i) w (nI i) 383 K s = K (nI (i + 1)) (wr (wr (wr s 383 i w) 391 i 0) 385 i (-1)) := by
    intro K s w
    unfold fX11_begin_65
    rw [ln_383, gd5 hi, lt_v, rf_373_21, ln_391, gd5 hi, lt_v, rf_373_15, ln_385, gd5 hi, lt_v, lt_v, nI_cl (by omega), vb0, nI_1]
  have h39 : ∀ (K : Int32 → Sg → Option (Unit × Sg)) (s : Sg) (p : Int32), s 374 14 = nI nt → ((nt ≤ i → fX11_begin_39 373 (nI i) p (nI i) 382 K s = K (nI (i + 1)) (wr (wr (wr (wr s 382 i p) 383 i 0) 391 i 0) 385 i (-1))) ∧ (i < nt → fX11_begin_39 373 (nI i) p (nI i) 382 K s = K (nI (i + 1)) (wr (wr (wr (wr s 382 i p) 383 i (gw (wr s 382 i p 374) i)) 391 i 0) 385 i (-1)))) := by
    intro K s p hs
    unfold fX11_begin_39
    rw [ln_382, gd5 hi, lt_v, rf_373_0, ln_374, gd14, cl14, nI_cl (by omega), wr_c (by decide), hs, rf_373_13]
    refine ⟨fun q => ?_, fun q => ?_⟩
    · rw [if_pos (nI_le q (by omega)), h65]
    · rw [if_neg (nle_of q (by omega)), e11_wayOf _ i hi, bd_v, h65]
  have h2 : ∀ K, fX11_begin_2 373 K (nI i) ρ = if nt ≤ i then fX11_begin_39 373 (nI i) 0 (nI i) 382 K (wr ρ 381 i 0) else fX11_begin_39 373 (nI i) (ρ 374 (16 + 5 * i)) (nI i) 382 K (wr ρ 381 i 0) := by
    intro K
    have n5 : ¬ (5 : Int32) ≤ nI i := nle_of (a := 5) hi (by decide)
    unfold fX11_begin_2
    rw [if_neg n5, rf_373_11, ln_381, gd5 hi, lt_v, rf_373_0, ln_374, gd14, cl14, nI_cl (by omega), wr_c (by decide), r14, rf_373_12]
    by_cases A : nt ≤ i
    · rw [if_pos (nI_le A (by omega)), if_pos A]
    · rw [if_neg (nle_of (show i < nt by omega) (by omega)), e11_fromOf _ i hi, bd_v, if_neg A, wr_c (by decide)]
  have s14 : wr ρ 381 i 0 374 14 = nI nt := by rw [wr_c (by decide), r14]
  by_cases A : nt ≤ i
  · exact ⟨_, fun K => by rw [h2 K, if_pos A, (h39 K _ _ s14).1 A], main 0 0 (fun q => absurd q (by omega))⟩
  · have hgw : gw (wr (wr ρ 381 i 0) 382 i (ρ 374 (16 + 5 * i)) 374) i = gw g i := by
      unfold gw
      rw [wr_c (by decide), wr_c (by decide), wr_c (by decide), wr_c (by decide), k1 _ _ (by decide) (by decide) (by decide) (by decide) (by decide), k1 _ _ (by decide) (by decide) (by decide) (by decide) (by decide), hO _ (by omega), hO _ (by omega)]
    exact ⟨_, fun K => by rw [h2 K, if_neg A, (h39 K _ _ s14).2 (by omega), hgw], main (ρ 374 (16 + 5 * i)) (gw g i) (fun _ => rfl)⟩
theorem rb_2 {τ1 : Sg} : ∀ i (ρ : Sg), i < 35 → ((∀ c j, c ≠ 386 → c ≠ 387 → c ≠ 392 → c ≠ 393 → ρ c j = τ1 c j) ∧ ∀ t, t < i → ρ 386 t = -1 ∧ ρ 387 t = -1 ∧ ρ 392 t = 0 ∧ ρ 393 t = 0) → ∃ ρ', (∀ K, fX11_begin_88 373 K (nI i) ρ = K (nI (i + 1)) ρ') ∧ ((∀ c j, c ≠ 386 → c ≠ 387 → c ≠ 392 → c ≠ 393 → ρ' c j = τ1 c j) ∧ ∀ t, t < i + 1 → ρ' 386 t = -1 ∧ ρ' 387 t = -1 ∧ ρ' 392 t = 0 ∧ ρ' 393 t = 0) := by
  rintro i ρ hi ⟨k1, k2⟩
  refine ⟨wr (wr (wr (wr ρ 386 i (-1)) 387 i (-1)) 392 i 0) 393 i 0, fun K => ?_, fun c j q1 q2 q3 q4 => by rw [wr_c q4, wr_c q3, wr_c q2, wr_c q1, k1 c j q1 q2 q3 q4], fun t ht => ?_⟩
  · unfold fX11_begin_88
    simp only [if_neg (show ¬ (35 : Int32) ≤ nI i from nle_of (a := 35) hi (by decide)), lt_v, rf_373_16, rf_373_17, rf_373_22, rf_373_23, ln_386, ln_387, ln_392, ln_393, gd35 hi, nI_cl (show i < 2147483648 by omega), vb0, nI_1]
  · by_cases z : t = i
    · subst z
      exact ⟨by rw [wr_c (by decide), wr_c (by decide), wr_c (by decide), wr_eq], by rw [wr_c (by decide), wr_c (by decide), wr_eq], by rw [wr_c (by decide), wr_eq], wr_eq _ _ _ _⟩
    · obtain ⟨b1, b2, b3, b4⟩ := k2 t (by omega)
      exact ⟨by rw [wr_c (by decide), wr_c (by decide), wr_c (by decide), wr_i z, b1], by rw [wr_c (by decide), wr_c (by decide), wr_i z, wr_c (by decide), b2], by rw [wr_c (by decide), wr_i z, wr_c (by decide), wr_c (by decide), b3], by rw [wr_i z, wr_c (by decide), wr_c (by decide), wr_c (by decide), b4]⟩
theorem rb_3 {τ2 : Sg} : ∀ i (ρ : Sg), i < 14 → ((∀ c j, c ≠ 388 → ρ c j = τ2 c j) ∧ ∀ t, t < i → ρ 388 t = -100) → ∃ ρ', (∀ K, fX11_begin_130 373 K (nI i) ρ = K (nI (i + 1)) ρ') ∧ ((∀ c j, c ≠ 388 → ρ' c j = τ2 c j) ∧ ∀ t, t < i + 1 → ρ' 388 t = -100) := by
  rintro i ρ hi ⟨k1, k2⟩
  refine ⟨wr ρ 388 i (-100), fun K => ?_, fun c j q1 => by rw [wr_c q1, k1 c j q1], fun t ht => ?_⟩
  · unfold fX11_begin_130
    simp only [if_neg (show ¬ (14 : Int32) ≤ nI i from nle_of (a := 14) hi (by decide)), lt_v, rf_373_18, ln_388, gd_14 hi, nI_cl (show i < 2147483648 by omega), nI_1]
  · by_cases z : t = i
    · subst z; rw [wr_eq]
    · rw [wr_i z, k2 t (by omega)]
theorem rb_4 {τ3 : Sg} : ∀ i (ρ : Sg), i < 25 → ((∀ c j, c ≠ 394 → ρ c j = τ3 c j) ∧ ∀ t, t < i → ρ 394 t = 0) → ∃ ρ', (∀ K, fX11_begin_152 373 K (nI i) ρ = K (nI (i + 1)) ρ') ∧ ((∀ c j, c ≠ 394 → ρ' c j = τ3 c j) ∧ ∀ t, t < i + 1 → ρ' 394 t = 0) := by
  rintro i ρ hi ⟨k1, k2⟩
  refine ⟨wr ρ 394 i 0, fun K => ?_, fun c j q1 => by rw [wr_c q1, k1 c j q1], fun t ht => ?_⟩
  · unfold fX11_begin_152
    simp only [if_neg (show ¬ (25 : Int32) ≤ nI i from nle_of (a := 25) hi (by decide)), lt_v, rf_373_24, ln_394, gd_in hi (show 25 < 2147483648 by decide), nI_cl (show i < 2147483648 by omega), vb0, nI_1]
  · by_cases z : t = i
    · subst z; rw [wr_eq]
    · rw [wr_i z, k2 t (by omega)]
