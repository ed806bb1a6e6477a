/-! PURE: copy -/
theorem span_t {c f k m : Nat} {σ : Sg} (h : σ c 1 = nI m) (hm : m ≤ 60) (hfk : f + k ≤ m) : fX7_hasSpan c (nI f) (nI k) σ = some (1, σ) := by
  unfold fX7_hasSpan
  rw [if_neg (nI_pos (by omega)), if_neg (nI_pos (by omega)), h, if_neg (nI_nlt (by omega) (by omega)), pk_sub (by omega), if_neg (nI_nlt (by omega) (by omega))]
  rfl
theorem span_f {c m : Nat} {v w : Int32} {σ : Sg} (h : σ c 1 = nI m) (hm : m ≤ 60) (hn : ¬ ∃ f k, v = nI f ∧ w = nI k ∧ f + k ≤ m) : fX7_hasSpan c v w σ = some (0, σ) := by
  unfold fX7_hasSpan
  by_cases a : v < 0
  · rw [if_pos a]; rfl
  rw [if_neg a]
  by_cases b : w < 0
  · rw [if_pos b]; rfl
  rw [if_neg b, h]
  obtain ⟨f, hf, rfl⟩ := nI_of a
  obtain ⟨k, hk, rfl⟩ := nI_of b
  by_cases d : m < k
  · rw [if_pos (nI_lt d hk)]; rfl
  rw [if_neg (nI_nlt (by omega) (by omega)), pk_sub (by omega), if_pos (nI_lt (by rcases Nat.lt_or_ge (m - k) f with q | q; exact q; exact absurd ⟨f, k, rfl, rfl, by omega⟩ hn) hf)]
  rfl
theorem lgc {f k m : Nat} (hf : f < 2 ^ 31) (hk : k < 2 ^ 31) (hm : m < 2 ^ 31) : (0 < lg_cmp ((nI f).toInt64 + (nI k).toInt64) (nI m).toInt64) ↔ m < f + k := by
  rw [nI_l hf, nI_l hk, nI_l hm, lN_add]
  unfold lg_cmp
  by_cases a : m < f + k
  · rw [if_pos (show lN m < lN (f + k) from (pk_lLT (by omega) (by omega)).mpr a)]
    exact ⟨fun _ => a, fun _ => by decide⟩
  · rw [if_neg (show ¬ lN m < lN (f + k) from fun z => a ((pk_lLT (by omega) (by omega)).mp z))]
    split
    · exact ⟨fun h => absurd h (by decide), fun h => absurd h a⟩
    · exact ⟨fun h => absurd h (by decide), fun h => absurd h a⟩
theorem lgc2 (x y : Int64) : (lg_cmp x y ≤ 0) ↔ ¬ 0 < lg_cmp x y := by rw [Int32.not_lt]
theorem cp_1 (s f t g k : Nat) (hs : s < 4) (hf : f + k ≤ 60) (ht : t < 4) (hg : g + k ≤ 60) (σ : Sg) : ∀ d i fu, i + d = k → d < fu → lq1 (fX11_copy_128 373 (nI s) (nI f) (nI t) (nI g) (nI k)) fu (nI i) (upR σ 379 0 i (fun j => σ 378 (60 * s + f + j))) = lq1 (fX11_copy_165 373 (nI t) (nI g) (nI k)) FU 0 (upR σ 379 0 k (fun j => σ 378 (60 * s + f + j))) := by
  intro d
  induction d with
  | zero =>
    intro i fu h hf2
    obtain ⟨fu, rfl⟩ : ∃ q, fu = q + 1 := ⟨fu - 1, by omega⟩
    obtain rfl : i = k := by omega
    show fX11_copy_128 373 (nI s) (nI f) (nI t) (nI g) _ _ _ _ = _
    unfold fX11_copy_128
    rw [if_pos (Int32.le_refl _), lt_v]
  | succ d ih =>
    intro i fu h hf2
    obtain ⟨fu, rfl⟩ : ∃ q, fu = q + 1 := ⟨fu - 1, by omega⟩
    have ih' := ih (i + 1) fu (by omega) (by omega)
    change fX11_copy_128 373 (nI s) (nI f) (nI t) (nI g) (nI k) (lq1 (fX11_copy_128 373 (nI s) (nI f) (nI t) (nI g) (nI k)) fu) (nI i) _ = _
    generalize lq1 (fX11_copy_128 373 (nI s) (nI f) (nI t) (nI g) (nI k)) fu = K at ih' ⊢
    unfold fX11_copy_128
    have e : (60 : Int32) * nI s + nI f + nI i = nI (60 * s + f + i) := by rw [show (60 : Int32) = nI 60 from rfl, pk_mul, nI_add, nI_add]
    rw [if_neg (nI_ge (by omega) (by omega)), e, rf_373_7, rf_373_8, ln_378, ln_379, gd_in (by omega) (by decide), gd_in (by omega) (by decide), lt_v, lt_v, nI_1, nI_cl (by omega), nI_cl (by omega), upR_c (c' := 378) (by decide), upR_s _ _ _ _ _ (by omega) rfl]
    exact ih'
theorem cp_2 (t g k : Nat) (ht : t < 4) (hg : g + k ≤ 60) (σ : Sg) : ∀ d i fu, i + d = k → d < fu → lq1 (fX11_copy_165 373 (nI t) (nI g) (nI k)) fu (nI i) (upR σ 378 (60 * t + g) (60 * t + g + i) (fun j => σ 379 (j - (60 * t + g)))) = some (nI k, upR σ 378 (60 * t + g) (60 * t + g + k) (fun j => σ 379 (j - (60 * t + g)))) := by
  intro d
  induction d with
  | zero =>
    intro i fu h hf2
    obtain ⟨fu, rfl⟩ : ∃ q, fu = q + 1 := ⟨fu - 1, by omega⟩
    obtain rfl : i = k := by omega
    show fX11_copy_165 373 (nI t) (nI g) _ _ _ _ = _
    unfold fX11_copy_165
    rw [if_pos (Int32.le_refl _)]
  | succ d ih =>
    intro i fu h hf2
    obtain ⟨fu, rfl⟩ : ∃ q, fu = q + 1 := ⟨fu - 1, by omega⟩
    have ih' := ih (i + 1) fu (by omega) (by omega)
    change fX11_copy_165 373 (nI t) (nI g) (nI k) (lq1 (fX11_copy_165 373 (nI t) (nI g) (nI k)) fu) (nI i) _ = _
    generalize lq1 (fX11_copy_165 373 (nI t) (nI g) (nI k)) fu = K at ih' ⊢
    unfold fX11_copy_165
    have e : (60 : Int32) * nI t + nI g + nI i = nI (60 * t + g + i) := by rw [show (60 : Int32) = nI 60 from rfl, pk_mul, nI_add, nI_add]
    rw [if_neg (nI_ge (by omega) (by omega)), e, rf_373_7, rf_373_8, ln_378, ln_379, gd_in (by omega) (by decide), gd_in (by omega) (by decide), lt_v, lt_v, nI_1, nI_cl (by omega), nI_cl (by omega), upR_c (c' := 379) (by decide), upR_s _ _ _ _ _ (by omega) (by rw [show 60 * t + g + i - (60 * t + g) = i by omega])]
    exact ih'
theorem s_copy {σ : Sg} (hI : Inv σ) (a1 a2 a3 a4 a5 : Int32) : Two (fX10_copy 0 a1 a2 a3 a4 a5) (fX11_copy 373 a1 a2 a3 a4 a5) σ := by
  have hS : Shs σ := by obtain ⟨_, _, _, _, -, -, -, hS, -⟩ := hI; exact hS
  unfold fX10_copy fX11_copy
  simp only [e10_isSheet, e11_isSheet, bd_v, e10_finding, e11_finds, e7_isMissing]
  by_cases A : iw a1 0 3 = 0
  · exact two_find (-100001) hI (by rw [if_pos A]) (fun τ _ => by rw [if_pos A])
  obtain ⟨s, -, hs, rfl⟩ := iw_nat (a := 0) (b := 3) (iw_of A).1 (iw_of A).2 (by decide) (by decide)
  by_cases A2 : iw a3 0 3 = 0
  · exact two_find (-100001) hI (by rw [if_neg A, if_pos A2]) (fun τ _ => by rw [if_neg A, if_pos A2])
  obtain ⟨t, -, ht, rfl⟩ := iw_nat (a := 0) (b := 3) (iw_of A2).1 (iw_of A2).2 (by decide) (by decide)
  obtain ⟨r1, r2, r3⟩ := rf_sh s (by omega)
  obtain ⟨r4, r5, r6⟩ := rf_sh t (by omega)
  have hsx : shX s = 365 + 2 * s := rfl
  have htx : shX t = 365 + 2 * t := rfl
  obtain ⟨p1, p2, ⟨m, hm, p3, p4⟩, p5⟩ := hS s (by omega)
  obtain ⟨q1, q2, ⟨m2, hm2, q3, q4⟩, q5⟩ := hS t (by omega)
  have rr : ∀ {τ : Sg} {v : Int32}, τ = wr σ 0 5 v → τ 376 = σ 376 ∧ τ 377 = σ 377 := fun h => ⟨by rw [h, wr_r (by decide)], by rw [h, wr_r (by decide)]⟩
  simp (maxSteps := 4000000) (disch := omega) only [ln_sh, gd_in, nI_cl, r1, r2, r3, r4, r5, r6, rf_373_5, rf_373_6, ln_376, ln_377]
  by_cases B : σ 376 s = 0
  · refine two_find (-100002) hI ?_ (fun τ hτ => ?_)
    · simp only [if_neg A, if_neg A2, p2, if_pos B]
      rw [if_neg (by decide)]
    · rw [if_neg A, if_neg A2, (rr hτ).1, if_pos B]
  by_cases B2 : σ 376 t = 0
  · refine two_find (-100002) hI ?_ (fun τ hτ => ?_)
    · simp only [if_neg A, if_neg A2, p2, if_neg B, if_true, q2, if_pos B2]
      rw [if_neg (by decide)]
    · rw [if_neg A, if_neg A2, (rr hτ).1, if_neg B, if_pos B2]
  by_cases D : σ 376 s = σ 376 t
  · by_cases V : ∃ f g k, a2 = nI f ∧ a4 = nI g ∧ a5 = nI k ∧ f + k ≤ m ∧ g + k ≤ m2
    · obtain ⟨f, g, k, rfl, rfl, rfl, h1, h2⟩ := V
      have hcp : cpR (nI f) (nI g) (nI k) 60 60 := by
        refine ⟨⟨nI_pos (by omega), nI_pos (by omega)⟩, ⟨nI_pos (by omega), ?_⟩, ?_⟩
        · rw [nI_cl (by omega), nI_cl (by omega)]; omega
        · rw [nI_cl (by omega), nI_cl (by omega)]; omega
      refine two_mk (r := nI k) (σ1 := cpy σ (shX s + 1) (shX t + 1) f g k) (σ2 := upR (upR (cpy σ (shX s + 1) (shX t + 1) f g k) 379 0 k (fun j => σ 378 (60 * s + f + j))) 378 (60 * t + g) (60 * t + g + k) (fun j => σ 378 (60 * s + f + (j - (60 * t + g))))) ?_ ?_ ?_
      · simp only [if_neg A, if_neg A2, p2, if_neg B, if_true, q2, if_neg B2, D, span_t p4 hm h1, span_t q4 hm2 h2, bd_v]
        rw [if_neg (by decide), if_neg (by decide), gd_t hcp, lt_v, nI_cl (by omega), nI_cl (by omega), nI_cl (by omega)]
      · have c6 : (cpy σ (shX s + 1) (shX t + 1) f g k) 376 = σ 376 := (cpy_ne (by omega)).symm
        have c7 : (cpy σ (shX s + 1) (shX t + 1) f g k) 377 = σ 377 := (cpy_ne (by omega)).symm
        have c8 : (cpy σ (shX s + 1) (shX t + 1) f g k) 378 = σ 378 := (cpy_ne (by omega)).symm
        rw [if_neg A, if_neg A2, c6, if_neg B, if_neg B2, if_pos D, if_neg (nI_pos (by omega)), if_neg (nI_pos (by omega)), if_neg (nI_pos (by omega)), c7, p3, q3, if_neg (fun z => absurd ((lgc (by omega) (by omega) (by omega)).mp z) (by omega)), if_pos ((lgc2 _ _).mpr (fun z => absurd ((lgc (by omega) (by omega) (by omega)).mp z) (by omega))), lt_v]
        have e1 := cp_1 s f t g k (by omega) (by omega) (by omega) (by omega) (cpy σ (shX s + 1) (shX t + 1) f g k) k 0 FU (by omega) (by rw [FU_s]; omega)
        rw [upR_0] at e1
        have e0 : (0 : Int32) = nI 0 := rfl
        rw [e0, e1]
        have e2 := cp_2 t g k (by omega) (by omega) (upR (cpy σ (shX s + 1) (shX t + 1) f g k) 379 0 k (fun j => (cpy σ (shX s + 1) (shX t + 1) f g k) 378 (60 * s + f + j))) k 0 FU (by omega) (by rw [FU_s]; omega)
        rw [show 60 * t + g + 0 = 60 * t + g from rfl, upR_0] at e2
        rw [e0, e2, c8]
        refine congrArg (fun z => some (nI k, z)) ?_
        funext c i
        unfold upR
        by_cases x : c = 378 ∧ 60 * t + g ≤ i ∧ i < 60 * t + g + k
        · rw [if_pos x, if_pos x]
          exact if_pos (by omega)
        · rw [if_neg x, if_neg x]
      · refine Inv_sh ⟨fun c q => ?_, ?_, ?_, ?_, fun c q => ?_⟩ (fun s' hs' => ?_) hI
        · rw [upR_c (by omega), upR_c (by omega), ← cpy_ne (by omega)]
        · rw [upR_c (by omega), upR_c (by omega), ← cpy_ne (by omega)]
        · rw [upR_c (by omega), upR_c (by omega), ← cpy_ne (by omega)]
        · rw [upR_c (by omega), upR_c (by omega), ← cpy_ne (by omega)]
        · rw [upR_c (by omega), upR_c (by omega), ← cpy_ne (by omega)]
        · obtain ⟨t1, t2, t3, t4⟩ := hS s' hs'
          have hsx' : shX s' = 365 + 2 * s' := rfl
          rw [upR_c (c' := 376) (by omega), upR_c (c' := 376) (by omega), ← cpy_ne (k := 376) (by omega), upR_c (c' := 377) (by omega), upR_c (c' := 377) (by omega), ← cpy_ne (k := 377) (by omega), upR_c (c' := shX s') (by omega), upR_c (c' := shX s') (by omega), ← cpy_ne (k := shX s') (by omega), upR_c (c' := shX s' + 1) (by omega), upR_c (c' := shX s' + 1) (by omega)]
          refine ⟨t1, t2, t3, fun j hj => ?_⟩
          by_cases x : s' = t
          · subst x
            rw [cpy_row]
            by_cases y : g ≤ j ∧ j < g + k
            · rw [upR_in (by omega) (by omega), pk_cpy_in y.1 y.2, show 60 * s + f + (60 * s' + j - (60 * s' + g)) = 60 * s + (f + (j - g)) by omega, ← D]
              exact p5 (f + (j - g)) (by omega)
            · rw [upR_out (by omega), upR_c (by omega), ← cpy_ne (k := 378) (by omega), pk_cpy_out (by omega)]
              exact t4 j hj
          · rw [upR_out (by omega), upR_c (by omega), ← cpy_ne (k := 378) (by omega), ← cpy_ne (k := shX s' + 1) (by omega)]
            exact t4 j hj
    · refine two_find (-100001) hI ?_ (fun τ hτ => ?_)
      · simp only [if_neg A, if_neg A2, p2, if_neg B, if_true, q2, if_neg B2, D]
        by_cases S1 : ∃ f k, a2 = nI f ∧ a5 = nI k ∧ f + k ≤ m
        · obtain ⟨f, k, rfl, rfl, h1⟩ := S1
          have S2 : ¬ ∃ g k', a4 = nI g ∧ nI k = nI k' ∧ g + k' ≤ m2 := by
            rintro ⟨g, k', rfl, e, h⟩
            exact V ⟨f, g, k, rfl, rfl, rfl, h1, by
              have := congrArg Int32.toNatClampNeg e
              by_cases hk : k' < 2147483648
              · rw [nI_cl (by omega), nI_cl hk] at this; omega
              · omega⟩
          simp only [span_t p4 hm h1, span_f q4 hm2 S2, bd_v, if_true]
          rw [if_neg (by decide)]
        · simp only [span_f p4 hm S1, bd_v, if_true]
      · rw [if_neg A, if_neg A2, (rr hτ).1, if_neg B, if_neg B2, if_pos D, (rr hτ).2]
        by_cases x1 : a2 < 0
        · rw [if_pos x1]
        rw [if_neg x1]
        by_cases x2 : a4 < 0
        · rw [if_pos x2]
        rw [if_neg x2]
        by_cases x3 : a5 < 0
        · rw [if_pos x3]
        rw [if_neg x3]
        obtain ⟨f, hf, rfl⟩ := nI_of x1
        obtain ⟨g, hg, rfl⟩ := nI_of x2
        obtain ⟨k, hk, rfl⟩ := nI_of x3
        rw [p3, q3]
        by_cases x4 : m < f + k
        · rw [if_pos ((lgc hf hk (by omega)).mpr x4)]
        rw [if_neg (fun z => x4 ((lgc hf hk (by omega)).mp z))]
        by_cases x5 : m2 < g + k
        · rw [if_neg (fun z => (lgc2 _ _).mp z ((lgc hg hk (by omega)).mpr x5))]
        · exact absurd ⟨f, g, k, rfl, rfl, rfl, by omega, by omega⟩ V
  · refine two_find (-100004) hI ?_ (fun τ hτ => ?_)
    · simp only [if_neg A, if_neg A2, p2, if_neg B, if_true, q2, if_neg B2, if_neg D]
    · rw [if_neg A, if_neg A2, (rr hτ).1, if_neg B, if_neg B2, if_neg D]
