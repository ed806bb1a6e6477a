/-! PURE: trains appear -/
theorem appear_step {g : Nat → Int32} {E : Option (Nat × Nat × Nat)} {n nt no nf m t : Nat} {σ0 τ0 σs τs σ τ : Sg} (hW : Wf g n nt no nf) (hO0 : On τ0 g) (hm : m ≤ 500) (ht : t < nt) (hP : DY g E n nt no σ0 τ0 m σ τ (fun _ => m) (fun _ => m + 1) ∧ HP nt τ ∧ FZ σs τs σ τ) (K6 : Int32 → Sg → Option (Unit × Sg)) : ∃ σ' τ', (∀ K, fX0_letAppear_2 2 (nI m) K (nI t) σ = K (nI (t + 1)) σ') ∧ (∀ K, fX11_runs_75 373 (nI m) K6 K (nI t) τ = K (nI (t + 1)) τ') ∧ (DY g E n nt no σ0 τ0 m σ' τ' (fun _ => m) (fun _ => m + 1) ∧ HP nt τ' ∧ FZ σs τs σ' τ') := by
  obtain ⟨hD, hH, hF⟩ := hP
  have hnt := hW.nt
  have hn : n ≤ 7 := hW.1.1.2
  have hO : On τ g := hD.1.2.on hO0
  have t14 := hO.nt hW
  have hL : LR σ 3 g := hD.2.1.1
  have h7 : σ 7 0 = nI nt := hL.1.2.1.trans hW.2.1.2.1
  obtain ⟨h, p, w, b, l, hR, hC, hG, hS⟩ := hD.2.2.2.2 t ht
  obtain ⟨hh, hp⟩ := TrG_p hn hG
  have hw2 := wTrG hG
  have hr1 := hR.1.1
  have hc1 := hC.1.1
  have l12 : σ 12 t = g (19 + 5 * t) := (hL.2.2.2.1 t (by omega)).2.2
  have l9 : σ 9 t = g (16 + 5 * t) := (hL.2.2.2.1 t (by omega)).1.2.1
  have h200 : σ 30 t = 200 ↔ h = 0 := by
    rw [hc1]
    rcases plc_c hh hp with ⟨rfl, q⟩ | ⟨rfl, q1, q⟩ | ⟨rfl, q1, q⟩ | ⟨rfl, q⟩
    · rw [q]; exact ⟨fun _ => rfl, fun _ => rfl⟩
    · rw [q, show (200 : Int32) = nI 200 from rfl, nI_eq (by omega) (by decide)]; omega
    · rw [q, show (200 : Int32) = nI 200 from rfl, nI_eq (by omega) (by decide)]; omega
    · rw [q]; exact ⟨fun h => absurd h (by decide), fun h => absurd h (by decide)⟩
  obtain ⟨f, d, ⟨ef, ed, hf, hd, hfd⟩, ⟨y1, hb2, hw⟩, ⟨y2, y3⟩, y4, y5⟩ := id hG
  have hc : ∀ K, fX0_letAppear_2 2 (nI m) K (nI t) σ = if h = 0 then (if g (19 + 5 * t) = nI m then bd (fX1_noteCame 22 (nI t) (nI f) (nI m) σ) fun _ ρ => bd (fX0_stand 2 (nI t) (ρ 9 t) ρ) fun _ ρ => K (nI (t + 1)) ρ else K (nI (t + 1)) σ) else K (nI (t + 1)) σ := by
    intro K
    unfold fX0_letAppear_2 fX0_letAppear_82
    simp only [lt_v, rf_2_0, rf_2_1, rf_2_6, rf_3_1, rf_7_2, rf_7_5, ln_9, ln_12, ln_30, h7, if_neg (nle_of ht (show nt < 2 ^ 31 by omega)), gd5 (show t < 5 by omega), nI_cl (show t < 2147483648 by omega), h200, l12, l9, ef, nI_1]
  have hr : ∀ K, fX11_runs_75 373 (nI m) K6 K (nI t) τ = if h = 0 then (if g (19 + 5 * t) = nI m then bd (fX11_isAt 373 (nI t) (nI f) (nI m) τ) fun _ ρ => K (nI (t + 1)) ρ else K (nI (t + 1)) τ) else K (nI (t + 1)) τ := by
    intro K
    unfold fX11_runs_75 fX11_runs_115
    simp only [lt_v, rf_373_0, ln_374, gd14, cl14, t14, if_neg (nle_of ht (show nt < 2 ^ 31 by omega)), rf_373_11, ln_381, gd5 (show t < 5 by omega), nI_cl (show t < 2147483648 by omega), hr1, e11_timeOf τ t (show t < 5 by omega), e11_fromOf τ t (show t < 5 by omega), bd_v, hO (19 + 5 * t) (by omega), hO (16 + 5 * t) (by omega), ef, nI_1]
    by_cases A : h = 0
    · rw [if_pos (show nI h = 0 by rw [A]; rfl), if_pos A]
      by_cases B : g (19 + 5 * t) = nI m
      · rw [if_pos B.symm, if_pos B]
      · rw [if_neg (fun q => B q.symm), if_neg B]
    · rw [if_neg (show ¬ nI h = 0 from fun q => A ((h_eq (k := 0) hh (by decide)).mp q)), if_neg A]
  by_cases A : h = 0
  · by_cases B : g (19 + 5 * t) = nI m
    · subst A
      have hb0 : b = 0 := y3 rfl
      subst hb0
      clear y3 y4 y5
      have hf7 : f < 7 := by omega
      have e2 := r_isAt (τ := τ) (v := nI m) (show t < 5 by omega) hf7
      have e3 : fX0_stand 2 (nI t) (nc σ 25 (7 * t + f) (nI m) 9 t) (nc σ 25 (7 * t + f) (nI m)) = some ((), wr (wr (nc σ 25 (7 * t + f) (nI m)) 30 t (nI f)) 35 (7 * w + f) (nc σ 25 (7 * t + f) (nI m) 35 (7 * w + f) ||| ((1 : Int32) <<< (nI t &&& 31)))) := by
        rw [nc_o (by decide), l9, ef]
        exact c_stand (by omega) hf7 hw2 (by rw [nc_o (by decide), hC.1.2.1])
      have hM := atS_m (t := t) (s := f) (by omega) hf7 hm hD.2.2.1.1.1
      have hT : ∀ τ', τ' = atS τ t f (nI m) → ∀ σ', σ' = wr (wr (nc σ 25 (7 * t + f) (nI m)) 30 t (nI f)) 35 (7 * w + f) (nc σ 25 (7 * t + f) (nI m) 35 (7 * w + f) ||| ((1 : Int32) <<< (nI t &&& 31))) → (DY g E n nt no σ0 τ0 m σ' τ' (fun _ => m) (fun _ => m + 1) ∧ HP nt τ' ∧ FZ σs τs σ' τ') := by
        intro τ' hτ' σ' hσ'
        have u1 : ∀ c i, c ≠ 25 → ¬ (c = 30 ∧ i = t) → ¬ (c = 35 ∧ i = 7 * w + f) → σ' c i = σ c i := by
          intro c i q1 q2 q3
          rw [hσ']
          unfold wr
          rw [if_neg q3, if_neg q2, nc_o q1]
        have u4 : σ' 30 t = nI f := by rw [hσ', wr_c (by decide), wr_eq]
        have u5 : σ' 35 (7 * w + f) = σ 35 (7 * w + f) ||| ((1 : Int32) <<< (nI t &&& 31)) := by rw [hσ', wr_eq, nc_o (by decide)]
        have u6 : ∀ i, σ' 25 i = nc σ 25 (7 * t + f) (nI m) 25 i := fun i => by rw [hσ', wr_c (by decide), wr_c (by decide)]
        have hCI : CI σ σ' := ⟨fun c i q1 q2 q3 q4 q5 q6 q7 q8 => u1 c i (by omega) (by omega) (by omega), fun i hi => u1 _ _ (by omega) (by omega) (by omega), fun i q1 q2 => u1 _ _ (by omega) (by omega) (by omega)⟩
        have hRI : RI τ τ' := ⟨fun c i q1 q2 q3 q4 q5 q6 q7 q8 q9 => by rw [hτ', atS_o (by omega)], fun i hi => by rw [hτ', atS_o (by omega)]⟩
        have hsR : ∀ o, o < nt → o ≠ t → SameR τ τ' o := by
          intro o ho hot
          rw [hτ']
          exact ⟨⟨(atS_n hot).1, (atS_n hot).2, atS_o (by omega), atS_o (by omega), atS_o (by omega), atS_o (by omega)⟩, fun q hq => ⟨by rw [atS_w.1, if_neg (by omega)], by rw [atS_w.2, if_neg (by omega)]⟩⟩
        have h35 : ∀ o j, o < 32 → j < 14 → bt (σ' 35 j) o = (bt (σ 35 j) o || (decide (j = 7 * w + f) && decide (t = o))) := by
          intro o j ho hj
          by_cases z : j = 7 * w + f
          · rw [z, u5, bt_set _ _ _ (by omega) ho, decide_eq_true (rfl : 7 * w + f = 7 * w + f), Bool.true_and]
          · rw [u1 _ _ (by omega) (by omega) (by omega), decide_eq_false z, Bool.false_and, Bool.or_false]
        have hsC : ∀ o, o < nt → o ≠ t → SameC σ σ' o := by
          intro o ho hot
          refine ⟨⟨u1 _ _ (by omega) (by omega) (by omega), u1 _ _ (by omega) (by omega) (by omega), u1 _ _ (by omega) (by omega) (by omega), u1 _ _ (by omega) (by omega) (by omega), u1 _ _ (by omega) (by omega) (by omega)⟩, by rw [u1 _ _ (by omega) (by omega) (by omega)], fun j hj => ?_⟩
          rw [h35 o j (by omega) hj, decide_eq_false (show ¬ t = o from fun q => hot q.symm), Bool.and_false, Bool.or_false]
        have h1t : τ' 381 t ≠ 2 := by rw [hτ', atS_t.1]; decide
        refine ⟨DY_in (t := t) hnt hD hCI hRI ?_ ?_ ?_ ?_ (fun o ho hot => ⟨⟨hsC o ho hot, hsR o ho hot⟩, rfl, rfl⟩) ?_, HP_in hRI h1t hsR hH, FZ_in hCI hRI hF⟩
        · exact MN_o (σ := nc σ 25 (7 * t + f) (nI m)) (τ := atS τ t f (nI m)) u6 (fun i => by rw [hτ']) hM
        · rw [u1 _ _ (by omega) (by omega) (by omega), hτ', atS_o (by omega), hD.2.2.1.2.2.1]
        · rw [u1 _ _ (by omega) (by omega) (by omega), hD.2.2.1.2.2.2.1]
          congr 1
          funext o
          rw [hτ', atS_o (by omega)]
        · intro x h1 h2
          rw [u1 _ _ (by omega) (by omega) (by omega)]
          exact hD.2.2.1.2.2.2.2 x h1 h2
        · refine ⟨1, f, w, 0, l, ⟨⟨by rw [hτ', atS_t.1]; rfl, fun _ => by rw [hτ', atS_t.2], by rw [hτ', atS_o (by omega), hR.1.2.2]⟩, ⟨by rw [hτ', atS_o (by omega), hR.2.1.1], fun q => absurd q (by decide)⟩, fun _ => by rw [hτ', atS_o (by omega), hR.2.2.1 (by decide)], fun q => absurd q (by decide)⟩, ⟨⟨u4, by rw [u1 _ _ (by omega) (by omega) (by omega), hC.1.2.1], by rw [u1 _ _ (by omega) (by omega) (by omega)]; exact hC.1.2.2⟩, ⟨by rw [u1 _ _ (by omega) (by omega) (by omega), hC.2.1.1], fun q => absurd q (by decide)⟩, by rw [u1 _ _ (by omega) (by omega) (by omega), hC.2.2]; rfl⟩, ⟨f, d, ⟨ef, ed, hf, hd, hfd⟩, ⟨by decide, by decide, hw⟩, ⟨y2, fun _ => rfl⟩, fun _ => ?_, fun q => absurd q (by decide)⟩, ⟨fun _ q hq => ⟨?_, ?_⟩, fun h0 q hq => ?_⟩⟩
          · rw [if_pos rfl] at hw
            by_cases z : d ≤ f
            · rw [if_pos z] at hw
              exact Or.inr ⟨hw, by omega⟩
            · rw [if_neg z] at hw
              exact Or.inl ⟨hw, by omega⟩
          · rw [hτ', atS_w.1, h35 t q (by omega) (by omega), h35 t (7 + q) (by omega) (by omega), decide_eq_true (rfl : t = t), Bool.and_true, Bool.and_true, Bool.or_eq_true, Bool.or_eq_true, decide_eq_true_eq, decide_eq_true_eq]
            have h0 := (hS.1 (by decide) q hq).1
            by_cases z : q = f
            · rw [if_pos (by omega)]
              refine ⟨fun _ => ?_, fun _ => by decide⟩
              rcases (by omega : w = 0 ∨ w = 1) with z1 | z1
              · exact Or.inl (Or.inr (by omega))
              · exact Or.inr (Or.inr (by omega))
            · rw [if_neg (by omega), h0]
              exact ⟨fun x => x.imp Or.inl Or.inl, fun x => x.imp (fun y => y.resolve_right (by omega)) (fun y => y.resolve_right (by omega))⟩
          · rw [hτ', atS_w.2, h35 t _ (by omega) (by omega), decide_eq_true (rfl : t = t), Bool.and_true, Bool.or_eq_true, decide_eq_true_eq]
            have h0 := (hS.1 (by decide) q hq).2
            by_cases z : q = f
            · rw [if_pos (by omega)]
              exact ⟨fun _ => Or.inr (by omega), fun _ => by decide⟩
            · rw [if_neg (by omega), h0]
              exact ⟨Or.inl, fun x => x.resolve_right (by omega)⟩
          · rw [h35 t _ (by omega) (by omega), decide_eq_false (show ¬ 7 * (1 - w) + q = 7 * w + f by omega), Bool.false_and, Bool.or_false]
            exact hS.2 rfl q hq
      exact ⟨_, _, fun K => by rw [hc K, if_pos rfl, if_pos B, c_noteCame (by omega) hf7, bd_v, e3, bd_v], fun K => by rw [hr K, if_pos rfl, if_pos B, e2, bd_v]; rfl, hT _ rfl _ rfl⟩
    · exact ⟨σ, τ, fun K => by rw [hc K, if_pos A, if_neg B], fun K => by rw [hr K, if_pos A, if_neg B], hD, hH, hF⟩
  · exact ⟨σ, τ, fun K => by rw [hc K, if_neg A], fun K => by rw [hr K, if_neg A], hD, hH, hF⟩
theorem appear_all {g : Nat → Int32} {E : Option (Nat × Nat × Nat)} {n nt no nf m : Nat} {σ0 τ0 σs τs σ τ : Sg} (hW : Wf g n nt no nf) (hO0 : On τ0 g) (hm : m ≤ 500) (hD : DY g E n nt no σ0 τ0 m σ τ (fun _ => m) (fun _ => m + 1)) (hH : HP nt τ) (hF : FZ σs τs σ τ) (K6 : Int32 → Sg → Option (Unit × Sg)) : ∃ σ' τ', fX0_letAppear 2 (nI m) σ = some ((), σ') ∧ lq1 (fX11_runs_75 373 (nI m) K6) FU 0 τ = lq1 (fX11_runs_123 373 (nI m) K6) FU 0 τ' ∧ DY g E n nt no σ0 τ0 m σ' τ' (fun _ => m) (fun _ => m + 1) ∧ HP nt τ' ∧ FZ σs τs σ' τ' := by
  have hnt := hW.nt
  obtain ⟨σ', τ', fc, fr, e1, e2, hD', hH', hF'⟩ := jl1 nt (fun i σ τ => DY g E n nt no σ0 τ0 m σ τ (fun _ => m) (fun _ => m + 1) ∧ HP nt τ ∧ FZ σs τs σ τ) (fun i σ τ hi hP => appear_step hW hO0 hm hi hP K6) nt 0 FU FU σ τ (by omega) (by rw [FU_s]; omega) (by rw [FU_s]; omega) ⟨hD, hH, hF⟩
  refine ⟨σ', τ', ?_, ?_, hD', hH', hF'⟩
  · unfold fX0_letAppear
    rw [lt_v]
    refine Eq.trans e1 ?_
    generalize lq1 (fX0_letAppear_2 2 (nI m)) fc = KK
    unfold fX0_letAppear_2
    rw [rf_2_0, rf_3_1, hD'.2.1.1.1.2.1, hW.2.1.2.1, if_pos (nI_le (Nat.le_refl _) (by omega))]
  · refine Eq.trans e2 ?_
    generalize lq1 (fX11_runs_75 373 (nI m) K6) fr = KK
    unfold fX11_runs_75
    rw [rf_373_0, ln_374, gd14, cl14, (hD'.1.2.on hO0).nt hW, if_pos (nI_le (Nat.le_refl _) (by omega)), lt_v]
