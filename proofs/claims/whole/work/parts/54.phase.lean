/-! PURE: the first two passes of a minute -/
/-- every pair that is head on was told -/
def HP (nt : Nat) (τ : Sg) : Prop := ∀ a b, a < b → b < nt → τ 381 a = 2 → τ 381 b = 2 → τ 382 a = τ 382 b → τ 383 a ≠ τ 383 b → τ 394 (5 * a + b) ≠ 0
/-- the rows of the minutes are as they were -/
def FZ (σs τs σ τ : Sg) : Prop := (∀ i, σ 23 i = σs 23 i ∧ σ 24 i = σs 24 i) ∧ σ 22 0 = σs 22 0 ∧ ∀ i, τ 389 i = τs 389 i ∧ τ 390 i = τs 390 i
theorem FZ_in {σs τs σ τ σ' τ' : Sg} (hC : CI σ σ') (hR : RI τ τ') (h : FZ σs τs σ τ) : FZ σs τs σ' τ' := by
  obtain ⟨h1, h2, h3⟩ := h
  obtain ⟨c1, c2, c3⟩ := hC
  obtain ⟨r1, r2⟩ := hR
  refine ⟨fun i => ⟨?_, ?_⟩, ?_, fun i => ⟨?_, ?_⟩⟩
  · rw [c1 _ _ (by decide) (by decide) (by decide) (by decide) (by decide) (by decide) (by decide) (by decide)]; exact (h1 i).1
  · rw [c1 _ _ (by decide) (by decide) (by decide) (by decide) (by decide) (by decide) (by decide) (by decide)]; exact (h1 i).2
  · rw [c3 0 (by decide) (by decide)]; exact h2
  · rw [r1 _ _ (by decide) (by decide) (by decide) (by decide) (by decide) (by decide) (by decide) (by decide) (by decide)]; exact (h3 i).1
  · rw [r1 _ _ (by decide) (by decide) (by decide) (by decide) (by decide) (by decide) (by decide) (by decide) (by decide)]; exact (h3 i).2
theorem HP_in {nt t : Nat} {τ τ' : Sg} (hR : RI τ τ') (h2 : τ' 381 t ≠ 2) (ho : ∀ o, o < nt → o ≠ t → SameR τ τ' o) (h : HP nt τ) : HP nt τ' := by
  intro a b hab hb e1 e2 e3 e4
  have ha' : a ≠ t := fun q => h2 (q ▸ e1)
  have hb' : b ≠ t := fun q => h2 (q ▸ e2)
  obtain ⟨⟨a1, a2, a3, -⟩, -⟩ := ho a (by omega) ha'
  obtain ⟨⟨b1, b2, b3, -⟩, -⟩ := ho b hb hb'
  rw [hR.1 394 _ (by decide) (by decide) (by decide) (by decide) (by decide) (by decide) (by decide) (by decide) (by decide)]
  exact h a b hab hb (a1 ▸ e1) (b1 ▸ e2) (by rw [← a2, ← b2, e3]) (by rw [← a3, ← b3]; exact e4)
theorem DY_M {g : Nat → Int32} {E : Option (Nat × Nat × Nat)} {n nt no m : Nat} {σ0 τ0 σ τ : Sg} {M1 M2 M1' M2' : Nat → Nat} (h : ∀ x, x < nt → M1 x ≤ M1' x ∧ M2' x ≤ M2 x) (hD : DY g E n nt no σ0 τ0 m σ τ M1 M2) : DY g E n nt no σ0 τ0 m σ τ M1' M2' := by
  obtain ⟨h1, h2, h3, h4, h5⟩ := hD
  exact ⟨h1, h2, h3, h4, fun x hx => Tr_mono (h x hx).1 (h x hx).2 (h5 x hx)⟩
theorem DY_set {g : Nat → Int32} {E : Option (Nat × Nat × Nat)} {n nt no m t : Nat} {σ0 τ0 σ τ : Sg} {M1 M2 M1' M2' : Nat → Nat} (h : ∀ x, x < nt → x ≠ t → M1 x ≤ M1' x ∧ M2' x ≤ M2 x) (hT : Tr g n σ τ (M1' t) (M2' t) t) (hD : DY g E n nt no σ0 τ0 m σ τ M1 M2) : DY g E n nt no σ0 τ0 m σ τ M1' M2' := by
  obtain ⟨h1, h2, h3, h4, h5⟩ := hD
  refine ⟨h1, h2, h3, h4, fun x hx => ?_⟩
  by_cases q : x = t
  · subst q; exact hT
  · exact Tr_mono (h x hx q).1 (h x hx q).2 (h5 x hx)
theorem TrG_p {g : Nat → Int32} {n t m1 m2 h p w b l : Nat} (hn : n ≤ 7) (hG : TrG g n t m1 m2 h p w b l) : h ≤ 3 ∧ (h = 1 ∨ h = 2 → p < 7) := by
  obtain ⟨f, d, ⟨-, -, q1, q2, q3⟩, ⟨q4, -⟩, -, q6, q7⟩ := hG
  refine ⟨q4, ?_⟩
  rintro (rfl | rfl)
  · rcases q6 rfl with x | x <;> omega
  · have := (q7 rfl).1; omega
theorem plc_c {h p : Nat} (hh : h ≤ 3) (hp : h = 1 ∨ h = 2 → p < 7) : (h = 0 ∧ plc h p = 200) ∨ (h = 1 ∧ p < 7 ∧ plc h p = p) ∨ (h = 2 ∧ p < 7 ∧ plc h p = 100 + p) ∨ (h = 3 ∧ plc h p = 300) := by
  rcases (by omega : h = 0 ∨ h = 1 ∨ h = 2 ∨ h = 3) with rfl | rfl | rfl | rfl
  · exact Or.inl ⟨rfl, rfl⟩
  · exact Or.inr (Or.inl ⟨rfl, hp (Or.inl rfl), rfl⟩)
  · exact Or.inr (Or.inr (Or.inl ⟨rfl, hp (Or.inr rfl), rfl⟩))
  · exact Or.inr (Or.inr (Or.inr ⟨rfl, rfl⟩))
theorem c_isInSection {σ : Sg} {t h p : Nat} (ht : t < 5) (hh : h ≤ 3) (hp : h = 1 ∨ h = 2 → p < 7) (e : σ 30 t = nI (plc h p)) : fX0_isInSection 2 (nI t) σ = some (if h = 2 then 1 else 0, σ) := by
  unfold fX0_isInSection
  rw [rf_2_6, ln_30, gd5 ht, gd5 ht, nI_cl (by omega), e]
  rcases plc_c hh hp with ⟨rfl, q⟩ | ⟨rfl, q1, q⟩ | ⟨rfl, q1, q⟩ | ⟨rfl, q⟩
  · rw [q]; rfl
  · rw [q, if_pos (show nI p < 100 from nI_lt (b := 100) (by omega) (by decide))]; rfl
  · rw [q, if_neg (show ¬ nI (100 + p) < 100 from nI_nlt (b := 100) (by omega) (by omega)), if_neg (show ¬ (200 : Int32) ≤ nI (100 + p) from nle_of (a := 200) (by omega) (by decide))]; rfl
  · rw [q]; rfl
theorem h_eq {h k : Nat} (hh : h ≤ 3) (hk : k ≤ 3) : nI h = nI k ↔ h = k := nI_eq (by omega) (by omega)
/-- coming in, one train -/
theorem come_step {g : Nat → Int32} {E : Option (Nat × Nat × Nat)} {n nt no nf m t : Nat} {σ0 τ0 σs τs σ τ : Sg} (hW : Wf g n nt no nf) (hO0 : On τ0 g) (hm : m ≤ 500) (ht : t < nt) (hP : DY g E n nt no σ0 τ0 m σ τ (fun _ => m) (fun x => if x < t then m + 1 else m) ∧ HP nt τ ∧ FZ σs τs σ τ) (K6 : Int32 → Sg → Option (Unit × Sg)) : ∃ σ' τ', (∀ K, fX0_letComeIn_2 2 (nI m) K (nI t) σ = K (nI (t + 1)) σ') ∧ (∀ K, fX11_runs_15 373 (nI m) K6 K (nI t) τ = K (nI (t + 1)) τ') ∧ (DY g E n nt no σ0 τ0 m σ' τ' (fun _ => m) (fun x => if x < t + 1 then m + 1 else m) ∧ HP nt τ' ∧ FZ σs τs σ' τ') := by
  obtain ⟨hD, hH, hF⟩ := hP
  have hnt := hW.nt
  have hn : n ≤ 7 := hW.1.1.2
  have hO : On τ g := hD.1.2.on hO0
  have t14 := hO.nt hW
  have hL : LR σ 3 g := hD.2.1.1
  have h7 : σ 7 0 = nI nt := hL.1.2.1.trans hW.2.1.2.1
  obtain ⟨h, p, w, b, l, hR, hC, hG, hS⟩ := hD.2.2.2.2 t ht
  simp only [if_neg (show ¬ t < t by omega)] at hG
  obtain ⟨hh, hp⟩ := TrG_p hn hG
  have hw2 := wTrG hG
  have hr1 := hR.1.1
  have hc1 := hC.1.1
  have e1 := c_isInSection (σ := σ) (t := t) (by omega) hh hp hc1
  by_cases A : h = 2
  · subst A
    have hp7 := hp (Or.inr rfl)
    obtain ⟨f, d, ⟨ef, ed, hf, hd, hfd⟩, y1, y2, y3, y4⟩ := id hG
    obtain ⟨⟨hp3, hp4, hp5⟩, v, hv1, hv2, hv3, hv4⟩ := y4 rfl
    clear y4 y3
    have e30 : σ 30 t = nI (100 + p) := hc1
    have e34 : σ 34 t = nI l := hC.2.1.2 rfl
    have e384 : τ 384 t = nI l := hR.2.1.2 rfl
    have e382 : τ 382 t = nI p := hR.1.2.1 (Or.inr rfl)
    have x1 : nI (100 + p) - 100 = nI p := by rw [show (100 : Int32) = nI 100 from rfl, pk_sub (by omega)]; congr 1; omega
    have x2 : nI m - nI l = nI (m - l) := pk_sub (by omega)
    have l6 : σ 6 p = g (8 + p) := hL.2.2.1 p (by omega)
    have hc : ∀ K, fX0_letComeIn_2 2 (nI m) K (nI t) σ = if m - l < v then K (nI (t + 1)) σ else bd (fX0_comeIn 2 (nI t) (nI (arr w p)) (nI m) σ) fun _ ρ => K (nI (t + 1)) ρ := by
      intro K
      unfold fX0_letComeIn_2 fX0_letComeIn_80 fX0_letComeIn_85
      simp only [lt_v, rf_2_0, rf_2_6, rf_2_7, rf_2_10, rf_3_0, rf_3_1, rf_4_2, ln_6, ln_30, ln_31, ln_34, h7, if_neg (nle_of ht (show nt < 2 ^ 31 by omega)), e1, if_true, bd_v, if_neg (show ¬ (1 : Int32) = 0 by decide), gd5 (show t < 5 by omega), nI_cl (show t < 2147483648 by omega), e30, e34, x1, x2, gd_in (show p < 6 by omega) (show 6 < 2147483648 by decide), nI_cl (show p < 2147483648 by omega), l6, hv3, hC.1.2.1, nI_1]
      by_cases B : m - l < v
      · rw [if_pos (nI_lt B (by omega)), if_pos B]
      · rw [if_neg (nI_nlt (by omega) (by omega)), if_neg B]
        unfold arr
        by_cases C : w = 0
        · rw [if_pos (show nI w = 0 by rw [C]; rfl), if_pos C]
        · rw [if_neg (show ¬ nI w = 0 from nI_ne0 (by omega) (by omega)), if_neg C, Int32.add_zero]
    have hr : ∀ K, fX11_runs_15 373 (nI m) K6 K (nI t) τ = if m = l + v then bd (fX11_comesIn 373 (nI t) (nI m) τ) fun _ ρ => K (nI (t + 1)) ρ else K (nI (t + 1)) τ := by
      intro K
      unfold fX11_runs_15 fX11_runs_67
      simp only [lt_v, rf_373_0, ln_374, gd14, cl14, t14, if_neg (nle_of ht (show nt < 2 ^ 31 by omega)), rf_373_11, rf_373_12, rf_373_14, ln_381, ln_382, ln_384, gd5 (show t < 5 by omega), nI_cl (show t < 2147483648 by omega), hr1, e382, e384, show (8 : Int32) + nI p = nI (8 + p) from nI_add 8 p, gd_in (show 8 + p < 174 by omega) (show 174 < 2147483648 by decide), nI_cl (show 8 + p < 2147483648 by omega), hO (8 + p) (by omega), hv3, nI_add, nI_1]
      rw [if_pos (show nI 2 = 2 from rfl)]
      by_cases B : m = l + v
      · rw [if_pos (by rw [B]), if_pos B]
      · rw [if_neg (fun q => B ((nI_eq (by omega) (by omega)).mp q)), if_neg B]
    by_cases B : m = l + v
    · obtain ⟨σ', τ', u1, u2, ⟨u3, u4⟩, u5, u6, u7⟩ := come_ok hW hO0 hm hD ht hR hC (by rw [if_neg (by omega)]; exact hG) hS
      refine ⟨σ', τ', fun K => by rw [hc K, if_neg (by omega), u1, bd_v], fun K => by rw [hr K, if_pos B, u2, bd_v], DY_M (fun x hx => ⟨Nat.le_refl _, ?_⟩) u7, HP_in u4 u5 u6 hH, FZ_in u3 u4 hF⟩
      by_cases q : x = t
      · rw [if_pos q, if_pos (by omega)]; exact Nat.le_refl _
      · rw [if_neg q]
        by_cases z : x < t
        · rw [if_pos z, if_pos (by omega)]; exact Nat.le_refl _
        · rw [if_neg z, if_neg (by omega)]; exact Nat.le_refl _
    · refine ⟨σ, τ, fun K => by rw [hc K, if_pos (by omega)], fun K => by rw [hr K, if_neg B], DY_set (t := t) (fun x hx hq => ⟨Nat.le_refl _, ?_⟩) ⟨2, p, w, b, l, hR, hC, ⟨f, d, ⟨ef, ed, hf, hd, hfd⟩, y1, y2, fun q => absurd q (by decide), fun _ => ⟨⟨hp3, hp4, hp5⟩, v, hv1, hv2, hv3, ?_⟩⟩, hS⟩ hD, hH, hF⟩
      · by_cases z : x < t
        · rw [if_pos z, if_pos (by omega)]; exact Nat.le_refl _
        · rw [if_neg z, if_neg (by omega)]; exact Nat.le_refl _
      · rw [if_pos (by omega)]; omega
  · have hc : ∀ K, fX0_letComeIn_2 2 (nI m) K (nI t) σ = K (nI (t + 1)) σ := by
      intro K
      unfold fX0_letComeIn_2 fX0_letComeIn_85
      rw [rf_2_0, rf_3_1, h7, if_neg (nle_of ht (show nt < 2 ^ 31 by omega)), e1, bd_v, if_neg A, if_pos rfl, lt_v, nI_1]
    have hr : ∀ K, fX11_runs_15 373 (nI m) K6 K (nI t) τ = K (nI (t + 1)) τ := by
      intro K
      unfold fX11_runs_15 fX11_runs_67
      simp only [rf_373_0, ln_374, gd14, cl14, t14, if_neg (nle_of ht (show nt < 2 ^ 31 by omega)), rf_373_11, ln_381, gd5 (show t < 5 by omega), nI_cl (show t < 2147483648 by omega), hr1, if_neg (show ¬ nI h = 2 from fun q => A ((h_eq (k := 2) hh (by decide)).mp q)), lt_v, nI_1]
    obtain ⟨f, d, y0, y1, y2, y3, y4⟩ := hG
    refine ⟨σ, τ, hc, hr, DY_set (t := t) (fun x hx hq => ⟨Nat.le_refl _, ?_⟩) ⟨h, p, w, b, l, hR, hC, ⟨f, d, y0, y1, y2, y3, fun q => absurd q A⟩, hS⟩ hD, hH, hF⟩
    by_cases z : x < t
    · rw [if_pos z, if_pos (by omega)]; exact Nat.le_refl _
    · rw [if_neg z, if_neg (by omega)]; exact Nat.le_refl _
/-- all come in -/
theorem come_all {g : Nat → Int32} {E : Option (Nat × Nat × Nat)} {n nt no nf m : Nat} {σ0 τ0 σs τs σ τ : Sg} (hW : Wf g n nt no nf) (hO0 : On τ0 g) (hm : m ≤ 500) (hD : DY g E n nt no σ0 τ0 m σ τ (fun _ => m) (fun _ => m)) (hH : HP nt τ) (hF : FZ σs τs σ τ) (K6 : Int32 → Sg → Option (Unit × Sg)) : ∃ σ' τ', fX0_letComeIn 2 (nI m) σ = some ((), σ') ∧ lq1 (fX11_runs_15 373 (nI m) K6) FU 0 τ = lq1 (fX11_runs_75 373 (nI m) K6) FU 0 τ' ∧ DY g E n nt no σ0 τ0 m σ' τ' (fun _ => m) (fun _ => m + 1) ∧ HP nt τ' ∧ FZ σs τs σ' τ' := by
  have hnt := hW.nt
  obtain ⟨σ', τ', fc, fr, e1, e2, hD', hH', hF'⟩ := jl1 nt (fun i σ τ => DY g E n nt no σ0 τ0 m σ τ (fun _ => m) (fun x => if x < i then m + 1 else m) ∧ HP nt τ ∧ FZ σs τs σ τ) (fun i σ τ hi hP => come_step hW hO0 hm hi hP K6) nt 0 FU FU σ τ (by omega) (by rw [FU_s]; omega) (by rw [FU_s]; omega) ⟨DY_M (fun x hx => ⟨Nat.le_refl _, by rw [if_neg (by omega)]; exact Nat.le_refl _⟩) hD, hH, hF⟩
  refine ⟨σ', τ', ?_, ?_, DY_M (fun x hx => ⟨Nat.le_refl _, by rw [if_pos hx]; exact Nat.le_refl _⟩) hD', hH', hF'⟩
  · unfold fX0_letComeIn
    rw [lt_v]
    refine Eq.trans e1 ?_
    generalize lq1 (fX0_letComeIn_2 2 (nI m)) fc = KK
    unfold fX0_letComeIn_2
    rw [rf_2_0, rf_3_1, hD'.2.1.1.1.2.1, hW.2.1.2.1, if_pos (nI_le (Nat.le_refl _) (by omega))]
  · refine Eq.trans e2 ?_
    generalize lq1 (fX11_runs_15 373 (nI m) K6) fr = KK
    unfold fX11_runs_15
    rw [rf_373_0, ln_374, gd14, cl14, (hD'.1.2.on hO0).nt hW, if_pos (nI_le (Nat.le_refl _) (by omega)), lt_v]
