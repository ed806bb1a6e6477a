/-! PURE: more acts that only read the line -/
theorem ix2 {A B : Int32} (a b t : Nat) (hA : A = nI a) (hB : B = nI b) : A + B * nI t = nI (a + b * t) := by rw [hA, hB, pk_mul, nI_add]
theorem ix3 {A B : Int32} (a b t w : Nat) (hA : A = nI a) (hB : B = nI b) : A + B * nI t + nI w = nI (a + b * t + w) := by rw [ix2 a b t hA hB, nI_add]
theorem kind_tab (σ : Sg) : ∀ k, k < 4 → ∀ w, w < 4 → lq2 (fX9_isOfKind_10 (nI w)) FU (nI k) 0 σ = some (if nI w = 0 ∨ nI k = nI w ∨ (nI w = 1 ∧ nI k = 2) then 1 else 0, σ)
  | 0, _, 0, _ => rfl
  | 0, _, 1, _ => rfl
  | 0, _, 2, _ => rfl
  | 0, _, 3, _ => rfl
  | 1, _, 0, _ => rfl
  | 1, _, 1, _ => rfl
  | 1, _, 2, _ => rfl
  | 1, _, 3, _ => rfl
  | 2, _, 0, _ => rfl
  | 2, _, 1, _ => rfl
  | 2, _, 2, _ => rfl
  | 2, _, 3, _ => rfl
  | 3, _, 0, _ => rfl
  | 3, _, 1, _ => rfl
  | 3, _, 2, _ => rfl
  | 3, _, 3, _ => rfl
  | k + 4, h, _, _ => by omega
  | 0, _, w + 4, h => by omega
  | 1, _, w + 4, h => by omega
  | 2, _, w + 4, h => by omega
  | 3, _, w + 4, h => by omega
theorem e9_isOfKind (σ : Sg) (t k w : Nat) (ht : t < 5) (hk : k < 4) (hw : w < 4) (h : σ 8 t = nI k) : fX9_isOfKind 7 (nI t) (nI w) σ = some (if nI w = 0 ∨ nI k = nI w ∨ (nI w = 1 ∧ nI k = 2) then 1 else 0, σ) := by
  unfold fX9_isOfKind
  rw [rf_7_1, ln_8, gd_in ht (by decide), lt_v, lt_v, nI_cl (by omega), h]
  exact kind_tab σ k hk w hw
theorem s_as {σ : Sg} (hI : Inv σ) (a1 a2 : Int32) : Two (fX10_as 0 a1 a2) (fX11_as 373 a1 a2) σ := by
  obtain ⟨n, nt, no, nf, hL, hW, h4, h7, h13, h3⟩ := hI.k
  have g14 := hW.2.1.2.1
  have hnt : nt ≤ 5 := hW.1.2.1
  unfold fX10_as fX11_as
  simp only [rf_0_2, rf_3_1, e9_has (v0 := 7) h7, bd_v, e10_finding, e11_finds, e10_isWithin, e11_in]
  by_cases A : ib a1 nt = 0
  · exact two_find (-100001) hI (by simp only [e9_has (v0 := 7) h7, bd_v, A, if_true]) (fun τ hτ => by
      rw [e11_isTrain (n := nt) (by rw [row374 hτ, g14]) (by omega), bd_v, if_pos A])
  obtain ⟨t, ht, rfl⟩ := ib_of (by omega) A
  by_cases B : iw a2 0 3 = 0
  · exact two_find (-100001) hI (by simp only [e9_has (v0 := 7) h7, bd_v, if_neg A, B, if_true]) (fun τ hτ => by
      rw [e11_isTrain (n := nt) (by rw [row374 hτ, g14]) (by omega), bd_v, if_neg A, if_pos B])
  obtain ⟨w, -, hw, rfl⟩ := iw_nat (a := 0) (b := 3) (iw_of B).1 (iw_of B).2 (by decide) (by decide)
  obtain ⟨k, f, d, len, tm, hk, -, -, -, -, -, -, e1, -⟩ := hW.2.2.2.2.1 t ht
  have c1 : σ 8 t = nI k := by rw [← e1]; exact (hL.2.2.2.1 t (by omega)).1.1
  by_cases D : nI w = 0 ∨ nI k = nI w ∨ (nI w = 1 ∧ nI k = 2)
  · refine two_read (nI t) hI ?_ ?_
    · simp only [e9_has (v0 := 7) h7, bd_v, if_neg A, if_neg B]
      rw [e9_isOfKind σ t k w (by omega) hk (by omega) c1, bd_v, if_pos D, if_neg (by decide)]
    · rw [e11_isTrain g14 (by omega), bd_v, if_neg A, if_neg B, e11_kindOf σ t (by omega), bd_v, e1]
      by_cases x : nI w = 0
      · rw [if_pos x]
      · rw [if_neg x]
        by_cases y : nI k = nI w
        · rw [if_pos y]
        · rw [if_neg y]
          have z : nI w = 1 ∧ nI k = 2 := by
            rcases D with q | q | q
            · exact absurd q x
            · exact absurd q y
            · exact q
          rw [if_pos z.1, e11_kindOf σ t (by omega), bd_v, e1, if_pos z.2]
  · refine two_find (-100004) hI ?_ (fun τ hτ => ?_)
    · simp only [e9_has (v0 := 7) h7, bd_v, if_neg A, if_neg B]
      rw [e9_isOfKind σ t k w (by omega) hk (by omega) c1, bd_v, if_neg D, if_pos rfl]
    · rw [e11_isTrain (n := nt) (by rw [row374 hτ, g14]) (by omega), bd_v, if_neg A, if_neg B, if_neg (fun x => D (Or.inl x)), e11_kindOf τ t (by omega), bd_v, row374 hτ, e1, if_neg (fun y => D (Or.inr (Or.inl y)))]
      by_cases x : nI w = 1
      · rw [if_pos x, e11_kindOf τ t (by omega), bd_v, row374 hτ, e1, if_neg (fun y => D (Or.inr (Or.inr ⟨x, y⟩)))]
      · rw [if_neg x]
theorem e9_tell (σ : Sg) (g : Nat → Int32) (hL : LR σ 3 g) (t : Nat) (ht : t < 5) : ∀ w, w < 6 → fX9_tell 7 (nI t) (nI w) σ = some (if nI w = 5 then gw g t else g (15 + 5 * t + w), σ) := by
  obtain ⟨⟨c1, c2, c3⟩, c4, c5⟩ := hL.2.2.2.1 t ht
  intro w hw
  unfold fX9_tell
  match w, hw with
  | 0, _ => simp (disch := omega) only [rf_7_1, ln_8, gd_in, nI_cl]; exact congrArg (fun z => some (z, σ)) (by rw [if_neg (by decide)]; exact c1)
  | 1, _ => simp (disch := omega) only [rf_7_2, ln_9, gd_in, nI_cl]; exact congrArg (fun z => some (z, σ)) (by rw [if_neg (by decide), show 15 + 5 * t + 1 = 16 + 5 * t by omega]; exact c2)
  | 2, _ => simp (disch := omega) only [rf_7_3, ln_10, gd_in, nI_cl]; exact congrArg (fun z => some (z, σ)) (by rw [if_neg (by decide), show 15 + 5 * t + 2 = 17 + 5 * t by omega]; exact c3)
  | 3, _ => simp (disch := omega) only [rf_7_4, ln_11, gd_in, nI_cl]; exact congrArg (fun z => some (z, σ)) (by rw [if_neg (by decide), show 15 + 5 * t + 3 = 18 + 5 * t by omega]; exact c4)
  | 4, _ => simp (disch := omega) only [rf_7_5, ln_12, gd_in, nI_cl]; exact congrArg (fun z => some (z, σ)) (by rw [if_neg (by decide), show 15 + 5 * t + 4 = 19 + 5 * t by omega]; exact c5)
  | 5, _ => rw [e9_wayOf σ t ht, cw_gw hL ht]; rfl
  | w + 6, h => omega
theorem s_of {σ : Sg} (hI : Inv σ) (a1 a2 : Int32) : Two (fX10_of 0 a1 a2) (fX11_of 373 a1 a2) σ := by
  obtain ⟨n, nt, no, nf, hL, hW, h4, h7, h13, h3⟩ := hI.k
  have g14 := hW.2.1.2.1
  have hnt : nt ≤ 5 := hW.1.2.1
  unfold fX10_of fX11_of
  simp only [rf_0_2, rf_3_1, e9_has (v0 := 7) h7, bd_v, e10_finding, e11_finds, e10_isWithin, e11_in]
  by_cases A : ib a1 nt = 0
  · exact two_find (-100001) hI (by simp only [e9_has (v0 := 7) h7, bd_v, A, if_true]) (fun τ hτ => by
      rw [e11_isTrain (n := nt) (by rw [row374 hτ, g14]) (by omega), bd_v, if_pos A])
  obtain ⟨t, ht, rfl⟩ := ib_of (by omega) A
  by_cases B : iw a2 0 5 = 0
  · exact two_find (-100001) hI (by simp only [e9_has (v0 := 7) h7, bd_v, if_neg A, B, if_true]) (fun τ hτ => by
      rw [e11_isTrain (n := nt) (by rw [row374 hτ, g14]) (by omega), bd_v, if_neg A, if_pos B])
  obtain ⟨w, -, hw, rfl⟩ := iw_nat (a := 0) (b := 5) (iw_of B).1 (iw_of B).2 (by decide) (by decide)
  refine two_read (if nI w = 5 then gw (σ 374) t else σ 374 (15 + 5 * t + w)) hI ?_ ?_
  · simp only [e9_has (v0 := 7) h7, bd_v, if_neg A, if_neg B]
    rw [e9_tell σ _ hL t (by omega) w (by omega), bd_v]
  · rw [e11_isTrain g14 (by omega), bd_v, if_neg A, if_neg B, ix3 (A := 15) (B := 5) 15 5 t w rfl rfl]
    by_cases x : nI w = 5
    · rw [if_pos x, if_pos x, e11_wayOf σ t (by omega), bd_v]
    · rw [if_neg x, if_neg x, rf_373_0, ln_374, gd_in (by omega) (by decide), nI_cl (by omega)]
theorem s_all {σ : Sg} (hI : Inv σ) (a1 : Int32) : Two (fX10_all 0 a1) (fX11_all 373 a1) σ := by
  obtain ⟨n, nt, no, nf, hL, hW, h4, h7, h13, h3⟩ := hI.k
  obtain ⟨g0, g14, g40, g161⟩ := hW.2.1
  have hf : σ 0 5 = σ 373 4 := by obtain ⟨_, _, _, _, -, -, -, -, h, -⟩ := hI; exact h
  unfold fX10_all fX11_all
  simp only [rf_0_2, rf_3_0, rf_3_1, rf_3_2, rf_373_0, ln_374, e10_finding, e11_finds, bd_v]
  by_cases A : a1 = 0
  · exact two_read (nI n) hI (by rw [if_pos A, h4]) (by rw [if_pos A, gd_t (by decide), show ((0 : Int32)).toNatClampNeg = 0 from by decide, g0])
  by_cases B : a1 = 1
  · exact two_read (nI nt) hI (by rw [if_neg A, if_pos B, h7]) (by rw [if_neg A, if_pos B, gd_t (by decide), show ((14 : Int32)).toNatClampNeg = 14 from by decide, g14])
  by_cases D : a1 = 2
  · exact two_read (nI no) hI (by rw [if_neg A, if_neg B, if_pos D, h13]) (by rw [if_neg A, if_neg B, if_pos D, gd_t (by decide), show ((40 : Int32)).toNatClampNeg = 40 from by decide, g40])
  by_cases E : a1 = 3
  · exact two_read (nI nf) hI (by rw [if_neg A, if_neg B, if_neg D, if_pos E, h3]) (by rw [if_neg A, if_neg B, if_neg D, if_pos E, gd_t (by decide), show ((161 : Int32)).toNatClampNeg = 161 from by decide, g161])
  by_cases G : a1 = 4
  · exact two_read (σ 0 5) hI (by rw [if_neg A, if_neg B, if_neg D, if_neg E, if_pos G]) (by rw [if_neg A, if_neg B, if_neg D, if_neg E, if_pos G, hf])
  · exact two_find (-100001) hI (by rw [if_neg A, if_neg B, if_neg D, if_neg E, if_neg G]) (fun τ hτ => by rw [if_neg A, if_neg B, if_neg D, if_neg E, if_neg G])
