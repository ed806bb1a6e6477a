/-! PURE: sheets -/
theorem two_mk {F G : Sg → Option (Int32 × Sg)} {σ : Sg} {r : Int32} {σ1 σ2 : Sg} (h1 : F σ = some (r, σ1)) (h2 : G σ1 = some (r, σ2)) (h3 : Inv σ2) : Two F G σ := ⟨r, σ1, σ2, h1, h2, h3⟩
def upR (σ : Sg) (c lo hi : Nat) (f : Nat → Int32) : Sg := fun c' i => if c' = c ∧ lo ≤ i ∧ i < hi then f i else σ c' i
theorem upR_c {σ : Sg} {c lo hi c' : Nat} {f : Nat → Int32} (h : c' ≠ c) : upR σ c lo hi f c' = σ c' := by
  funext i
  simp [upR, h]
theorem upR_in {σ : Sg} {c lo hi i : Nat} {f : Nat → Int32} (h1 : lo ≤ i) (h2 : i < hi) : upR σ c lo hi f c i = f i := by simp [upR, h1, h2]
theorem upR_out {σ : Sg} {c lo hi i : Nat} {f : Nat → Int32} (h : i < lo ∨ hi ≤ i) : upR σ c lo hi f c i = σ c i := by
  unfold upR
  rw [if_neg (by omega)]
theorem upR_0 (σ : Sg) (c lo : Nat) (f : Nat → Int32) : upR σ c lo lo f = σ := by
  funext c' i
  unfold upR
  rw [if_neg (by omega)]
theorem upR_s (σ : Sg) (c lo hi : Nat) (f : Nat → Int32) (h : lo ≤ hi) {v : Int32} (hv : v = f hi) : wr (upR σ c lo hi f) c hi v = upR σ c lo (hi + 1) f := by
  subst hv
  funext c' i
  unfold wr upR
  by_cases a : c' = c ∧ i = hi
  · rw [if_pos a, if_pos ⟨a.1, by omega, by omega⟩, a.2]
  · rw [if_neg a]
    by_cases b : c' = c ∧ lo ≤ i ∧ i < hi
    · rw [if_pos b, if_pos ⟨b.1, b.2.1, by omega⟩]
    · rw [if_neg b, if_neg (fun z => by
        rcases Nat.lt_or_ge i hi with q | q
        · exact b ⟨z.1, z.2.1, q⟩
        · exact a ⟨z.1, by omega⟩)]
theorem wr_r {σ : Sg} {c i c' : Nat} {v : Int32} (h : c' ≠ c) : wr σ c i v c' = σ c' := by
  funext j
  rw [wr_c h]
theorem e_fill0 (c N : Nat) (v : Int32) (hN : ln c = N) (hN2 : N < 999) (σ : Sg) : ∀ d i fu, i + d = N → d < fu → lq1 (fJ7_fill_53178_5 c v (nI N)) fu (nI i) (upR σ c 0 i (fun _ => v)) = some ((), upR σ c 0 N (fun _ => v)) := by
  intro d
  induction d with
  | zero =>
    intro i fu h hf
    obtain ⟨fu, rfl⟩ : ∃ k, fu = k + 1 := ⟨fu - 1, by omega⟩
    obtain rfl : i = N := by omega
    show fJ7_fill_53178_5 c v _ _ _ _ = _
    unfold fJ7_fill_53178_5
    rw [if_pos (Int32.le_refl _)]
  | succ d ih =>
    intro i fu h hf
    obtain ⟨fu, rfl⟩ : ∃ k, fu = k + 1 := ⟨fu - 1, by omega⟩
    have ih' := ih (i + 1) fu (by omega) (by omega)
    change fJ7_fill_53178_5 c v (nI N) (lq1 (fJ7_fill_53178_5 c v (nI N)) fu) (nI i) _ = _
    generalize lq1 (fJ7_fill_53178_5 c v (nI N)) fu = K at ih' ⊢
    unfold fJ7_fill_53178_5
    rw [if_neg (nI_ge (by omega) (by omega)), hN, gd_in (by omega) (by omega), lt_v, lt_v, nI_1, nI_cl (by omega), upR_s _ _ _ _ _ (Nat.zero_le i) rfl]
    exact ih'
theorem e_fill (c N : Nat) (v : Int32) (hN : ln c = N) (hN2 : N < 999) (σ : Sg) : fJ7_fill_53178 c v σ = some ((), upR σ c 0 N (fun _ => v)) := by
  unfold fJ7_fill_53178
  rw [lt_v, lt_v, hN]
  have := e_fill0 c N v hN hN2 σ N 0 FU (by omega) (by rw [FU_s]; omega)
  rwa [upR_0] at this
/-- all but the sheets stays -/
def Alh (σ τ : Sg) : Prop := (∀ c, c < 365 → σ c = τ c) ∧ σ 373 = τ 373 ∧ σ 374 = τ 374 ∧ σ 375 = τ 375 ∧ ∀ c, 380 ≤ c → σ c = τ c
theorem Inv_sh {σ τ : Sg} (h : Alh σ τ) (hS : Shs τ) (hI : Inv σ) : Inv τ := by
  obtain ⟨h1, h2, h3, h4, h5⟩ := h
  obtain ⟨n, nt, no, nf, a1, a2, a3, a4, a5, a6, a7, a8, a9⟩ := hI
  refine ⟨n, nt, no, nf, ?_, ?_, ?_, hS, ?_, ?_, ?_, ?_, ?_⟩
  · rw [← h3]
    exact LR_congr (fun c q1 q2 => h1 c (by omega)) a1
  · rw [← h3]; exact a2
  · exact Hist_congr (fun c q1 q2 => h1 c (by omega)) ⟨by rw [h1 58 (by decide)], by rw [h1 58 (by decide)]⟩ ⟨by rw [h2], by rw [h2]⟩ h4 a3
  · rw [← h1 0 (by decide), ← h2]; exact a5
  · exact Own_congr (fun t ht => by rw [h1 (37 + 4 * t) (by omega)]) a6
  · rw [← h3]
    exact GoodC_congr (fun c q1 q2 => h1 c (by omega)) (by rw [h1 2 (by decide)]) a7
  · rw [← h3]
    exact GoodR_congr (fun c hc => by rcases hc with rfl | hc; exact h3; exact h5 c (by omega)) (fun i q1 q2 => by rw [h2]) (by rw [h2]) a8
  · rw [← h3]
    exact GoodP_congr (h1 57 (by decide)) (by rw [h1 1 (by decide)]) a9
theorem rf_sh : ∀ s, s < 4 → rf (rf 0 4) s = shX s ∧ rf (shX s) 2 = shX s + 1 ∧ ln (shX s + 1) = 60 := by decide +kernel
theorem ln_sh : ln (rf 0 4) = 4 := by decide +kernel
theorem e7_areBits (v : Int32) (σ : Sg) : fX7_areBits v σ = some (if v = 0 ∨ v = 8 ∨ v = 16 ∨ v = 32 then 1 else 0, σ) := by
  unfold fX7_areBits
  by_cases a : v = 0
  · rw [if_pos a, if_pos (Or.inl a)]; rfl
  by_cases b : v = 8
  · rw [if_neg a, if_pos b, if_pos (Or.inr (Or.inl b))]; rfl
  by_cases c : v = 16
  · rw [if_neg a, if_neg b, if_pos c, if_pos (Or.inr (Or.inr (Or.inl c)))]; rfl
  by_cases d : v = 32
  · rw [if_neg a, if_neg b, if_neg c, if_pos d, if_pos (Or.inr (Or.inr (Or.inr d)))]; rfl
  · rw [if_neg a, if_neg b, if_neg c, if_neg d, if_neg (fun h => by rcases h with h | h | h | h; exact a h; exact b h; exact c h; exact d h)]; rfl
theorem e11_shl (s c0 : Nat) (hs : s < 4) (σ : Sg) : ∀ d i fu, i + d = 60 → d < fu → lq1 (fX11_sheet_85 373 (nI s)) fu (nI i) (upR σ 378 (60 * s) (60 * s + i) (fun _ => 0)) = some (σ 377 s, upR σ 378 (60 * s) (60 * s + 60) (fun _ => 0)) := by
  intro d
  induction d with
  | zero =>
    intro i fu h hf
    obtain ⟨fu, rfl⟩ : ∃ k, fu = k + 1 := ⟨fu - 1, by omega⟩
    obtain rfl : i = 60 := by omega
    show fX11_sheet_85 373 (nI s) _ _ _ = _
    unfold fX11_sheet_85
    rw [if_pos (show (60 : Int32) ≤ nI 60 from by decide), rf_373_6, ln_377, gd_in hs (by decide), nI_cl (by omega), upR_c (by decide)]
  | succ d ih =>
    intro i fu h hf
    obtain ⟨fu, rfl⟩ : ∃ k, fu = k + 1 := ⟨fu - 1, by omega⟩
    have ih' := ih (i + 1) fu (by omega) (by omega)
    change fX11_sheet_85 373 (nI s) (lq1 (fX11_sheet_85 373 (nI s)) fu) (nI i) _ = _
    generalize lq1 (fX11_sheet_85 373 (nI s)) fu = K at ih' ⊢
    unfold fX11_sheet_85
    have e : (60 : Int32) * nI s + nI i = nI (60 * s + i) := by rw [show (60 : Int32) = nI 60 from rfl, pk_mul, nI_add]
    rw [if_neg (show ¬ (60 : Int32) ≤ nI i from nI_ge (a := i) (b := 60) (by omega) (by decide)), e, rf_373_7, ln_378, gd_in (by omega) (by decide), lt_v, lt_v, nI_1, nI_cl (by omega), upR_s _ _ _ _ _ (by omega) rfl]
    exact ih'
theorem s_sheet {σ : Sg} (hI : Inv σ) (a1 a2 a3 : Int32) : Two (fX10_sheet 0 a1 a2 a3) (fX11_sheet 373 a1 a2 a3) σ := by
  unfold fX10_sheet fX11_sheet
  simp only [e10_isSheet, e11_isSheet, bd_v, e10_finding, e11_finds, e7_areBits]
  by_cases A : iw a1 0 3 = 0
  · exact two_find (-100001) hI (by rw [if_pos A]) (fun τ _ => by rw [if_pos A])
  obtain ⟨s, -, hs, rfl⟩ := iw_nat (a := 0) (b := 3) (iw_of A).1 (iw_of A).2 (by decide) (by decide)
  by_cases B : a2 = 0 ∨ a2 = 8 ∨ a2 = 16 ∨ a2 = 32
  · have hR : ∀ τ, (if a2 = 0 then fX11_sheet_36 373 (nI s) a2 a3 τ else if a2 = 8 then fX11_sheet_36 373 (nI s) a2 a3 τ else if a2 = 16 then fX11_sheet_36 373 (nI s) a2 a3 τ else if a2 = 32 then fX11_sheet_36 373 (nI s) a2 a3 τ else some (-100001, wr τ 373 4 (τ 373 4 + 1))) = fX11_sheet_36 373 (nI s) a2 a3 τ := by
      intro τ
      rcases B with h | h | h | h <;> subst h <;> rfl
    simp only [hR]
    unfold fX11_sheet_36
    simp only [e11_finds, bd_v]
    by_cases D : 0 ≤ a3
    · by_cases E : a3 ≤ 60
      · obtain ⟨m, hm, rfl⟩ : ∃ m, m ≤ 60 ∧ a3 = nI m := by
          obtain ⟨m, -, hm, e⟩ := iw_nat (v := a3) (a := 0) (b := 60) (Int32.not_lt.mpr D) (Int32.not_lt.mpr E) (by decide) (by decide)
          exact ⟨m, hm, e⟩
        obtain ⟨r1, r2, r3⟩ := rf_sh s (by omega)
        have hsx : shX s = 365 + 2 * s := rfl
        -- what both say is there
        obtain ⟨cn, hcn⟩ : ∃ cn : Nat, cn = if a2 = 0 then 0 else m := ⟨_, rfl⟩
        have hcn2 : cn ≤ 60 := by rw [hcn]; split <;> omega
        have hC : ∀ ρ, fX7_clear (shX s) a2 (nI m) ρ = some ((), upR (wr (wr ρ (shX s) 0 a2) (shX s) 1 (nI cn)) (shX s + 1) 0 60 (fun _ => 0)) := by
          intro ρ
          unfold fX7_clear
          simp only [lt_v, r2, e_fill (shX s + 1) 60 0 r3 (by decide), bd_v]
          by_cases z : a2 = 0
          · rw [if_pos z, hcn, if_pos z]; rfl
          · rw [if_neg z, hcn, if_neg z]
        have hG : ∀ τ, (gd (inR (nI s) (ln (rf 373 5))) (lt (wr τ (rf 373 5) (nI s).toNatClampNeg a2) fun s_66 => if a2 = 0 then fX11_sheet_81 373 (nI s) 0 (nI s) (rf 373 6) s_66 else fX11_sheet_81 373 (nI s) (nI m) (nI s) (rf 373 6) s_66)) = some (nI cn, upR (wr (wr τ 376 s a2) 377 s (nI cn)) 378 (60 * s) (60 * s + 60) (fun _ => 0)) := by
          intro τ
          rw [rf_373_5, ln_376, gd_in (by omega) (by decide), lt_v, nI_cl (by omega)]
          have key : ∀ v, v = nI cn → fX11_sheet_81 373 (nI s) v (nI s) (rf 373 6) (wr τ 376 s a2) = some (nI cn, upR (wr (wr τ 376 s a2) 377 s (nI cn)) 378 (60 * s) (60 * s + 60) (fun _ => 0)) := by
            intro v hv
            subst hv
            unfold fX11_sheet_81
            rw [rf_373_6, ln_377, gd_in (by omega) (by decide), lt_v, lt_v, nI_cl (by omega)]
            have h := e11_shl s 0 (by omega) (wr (wr τ 376 s a2) 377 s (nI cn)) 60 0 FU (by omega) (by rw [FU_s]; omega)
            rwa [Nat.add_zero, upR_0, wr_eq] at h
          by_cases z : a2 = 0
          · rw [if_pos z]; exact key 0 (by rw [hcn, if_pos z]; rfl)
          · rw [if_neg z]; exact key (nI m) (by rw [hcn, if_neg z])
        refine two_mk (r := nI cn) (σ1 := upR (wr (wr σ (shX s) 0 a2) (shX s) 1 (nI cn)) (shX s + 1) 0 60 (fun _ => 0)) (σ2 := upR (wr (wr (upR (wr (wr σ (shX s) 0 a2) (shX s) 1 (nI cn)) (shX s + 1) 0 60 (fun _ => 0)) 376 s a2) 377 s (nI cn)) 378 (60 * s) (60 * s + 60) (fun _ => 0)) ?_ ?_ ?_
        · rw [if_neg A, if_pos B, if_neg (by decide), if_pos D, if_pos E]
          simp (disch := omega) only [ln_sh, gd_in, nI_cl, r1, hC, bd_v]
          rw [upR_c (by omega), wr_eq]
        · rw [if_neg A, if_pos D, if_pos E, hG]
        · refine Inv_sh ⟨fun c q => ?_, ?_, ?_, ?_, fun c q => ?_⟩ (fun s' hs' => ?_) hI
          · rw [upR_c (by omega), wr_r (by omega), wr_r (by omega), upR_c (by omega), wr_r (by omega), wr_r (by omega)]
          · rw [upR_c (by omega), wr_r (by omega), wr_r (by omega), upR_c (by omega), wr_r (by omega), wr_r (by omega)]
          · rw [upR_c (by omega), wr_r (by omega), wr_r (by omega), upR_c (by omega), wr_r (by omega), wr_r (by omega)]
          · rw [upR_c (by omega), wr_r (by omega), wr_r (by omega), upR_c (by omega), wr_r (by omega), wr_r (by omega)]
          · rw [upR_c (by omega), wr_r (by omega), wr_r (by omega), upR_c (by omega), wr_r (by omega), wr_r (by omega)]
          · obtain ⟨_, _, _, _, -, -, -, hS, -⟩ := hI
            have hs2 := hS s' hs'
            have hsx' : shX s' = 365 + 2 * s' := rfl
            by_cases x : s' = s
            · subst x
              have w1 : ∀ τ, (upR (wr (wr (upR (wr (wr σ (shX s') 0 a2) (shX s') 1 (nI cn)) (shX s' + 1) 0 60 (fun _ => 0)) 376 s' a2) 377 s' (nI cn)) 378 (60 * s') (60 * s' + 60) (fun _ => 0)) = τ → τ 376 s' = a2 ∧ τ 377 s' = nI cn ∧ τ (shX s') 0 = a2 ∧ τ (shX s') 1 = nI cn ∧ (∀ i, i < 60 → τ 378 (60 * s' + i) = 0) ∧ ∀ i, i < 60 → τ (shX s' + 1) i = 0 := by
                intro τ hτ
                subst hτ
                refine ⟨?_, ?_, ?_, ?_, fun i hi => ?_, fun i hi => ?_⟩
                · rw [upR_c (by omega), wr_r (by omega), wr_eq]
                · rw [upR_c (by omega), wr_eq]
                · rw [upR_c (by omega), wr_r (by omega), wr_r (by omega), upR_c (by omega), wr_i (by omega), wr_eq]
                · rw [upR_c (by omega), wr_r (by omega), wr_r (by omega), upR_c (by omega), wr_eq]
                · rw [upR_in (by omega) (by omega)]
                · rw [upR_c (by omega), wr_r (by omega), wr_r (by omega), upR_in (by omega) (by omega)]
              generalize hτ : (upR (wr (wr (upR (wr (wr σ (shX s') 0 a2) (shX s') 1 (nI cn)) (shX s' + 1) 0 60 (fun _ => 0)) 376 s' a2) 377 s' (nI cn)) 378 (60 * s') (60 * s' + 60) (fun _ => 0)) = τ
              obtain ⟨q1, q2, q3, q4, q5, q6⟩ := w1 τ hτ
              refine ⟨by rw [q1]; exact B, by rw [q3, q1], ⟨cn, hcn2, q2, q4⟩, fun i hi => ?_⟩
              rw [q5 i hi, q6 i hi, q1]
              rcases B with h | h | h | h <;> subst h <;> exact ⟨by decide, by decide⟩
            · have w1 : ∀ τ, (upR (wr (wr (upR (wr (wr σ (shX s) 0 a2) (shX s) 1 (nI cn)) (shX s + 1) 0 60 (fun _ => 0)) 376 s a2) 377 s (nI cn)) 378 (60 * s) (60 * s + 60) (fun _ => 0)) = τ → τ 376 s' = σ 376 s' ∧ τ 377 s' = σ 377 s' ∧ τ (shX s') = σ (shX s') ∧ τ (shX s' + 1) = σ (shX s' + 1) ∧ ∀ i, i < 60 → τ 378 (60 * s' + i) = σ 378 (60 * s' + i) := by
                intro τ hτ
                subst hτ
                refine ⟨?_, ?_, ?_, ?_, fun i hi => ?_⟩
                · rw [upR_c (by omega), wr_r (by omega), wr_i (by omega), upR_c (by omega), wr_r (by omega), wr_r (by omega)]
                · rw [upR_c (by omega), wr_i (by omega), wr_r (by omega), upR_c (by omega), wr_r (by omega), wr_r (by omega)]
                · rw [upR_c (by omega), wr_r (by omega), wr_r (by omega), upR_c (by omega), wr_r (by omega), wr_r (by omega)]
                · rw [upR_c (by omega), wr_r (by omega), wr_r (by omega), upR_c (by omega), wr_r (by omega), wr_r (by omega)]
                · rw [upR_out (by omega), wr_r (by omega), wr_r (by omega), upR_c (by omega), wr_r (by omega), wr_r (by omega)]
              generalize hτ : (upR (wr (wr (upR (wr (wr σ (shX s) 0 a2) (shX s) 1 (nI cn)) (shX s + 1) 0 60 (fun _ => 0)) 376 s a2) 377 s (nI cn)) 378 (60 * s) (60 * s + 60) (fun _ => 0)) = τ
              obtain ⟨q1, q2, q3, q4, q5⟩ := w1 τ hτ
              obtain ⟨p1, p2, p3, p4⟩ := hs2
              refine ⟨by rw [q1]; exact p1, by rw [q3, q1]; exact p2, by rw [q2, q3]; exact p3, fun i hi => ?_⟩
              rw [q1, q5 i hi, q4]
              exact p4 i hi
      · exact two_find (-100001) hI (by rw [if_neg A, if_pos B, if_neg (by decide), if_pos D, if_neg E]) (fun τ _ => by rw [if_neg A, if_pos D, if_neg E])
    · exact two_find (-100003) hI (by rw [if_neg A, if_pos B, if_neg (by decide), if_neg D]) (fun τ _ => by rw [if_neg A, if_neg D])
  · exact two_find (-100001) hI (by rw [if_neg A, if_neg B, if_pos rfl]) (fun τ _ => by
      rw [if_neg A, if_neg (fun h => B (Or.inl h)), if_neg (fun h => B (Or.inr (Or.inl h))), if_neg (fun h => B (Or.inr (Or.inr (Or.inl h)))), if_neg (fun h => B (Or.inr (Or.inr (Or.inr h))))])
