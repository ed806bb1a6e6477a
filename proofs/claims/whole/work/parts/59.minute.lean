/-! PURE: a whole minute -/
theorem heads_all {g : Nat → Int32} {E : Option (Nat × Nat × Nat)} {n nt no nf m : Nat} {σ0 τ0 σs τs : Sg} (hW : Wf g n nt no nf) (hO0 : On τ0 g) (hm : m ≤ 500) : ∀ d a fc fr σ τ, a + d = nt → d < fc → d < fr → P4 g E n nt no σ0 τ0 σs τs m a (a + 1) σ τ → ∃ σ' τ', lq1 (fX0_noteHeads_2 2 (nI m)) fc (nI a) σ = some ((), σ') ∧ lq1 (fX11_looksAtHeads_2 373 (nI m)) fr (nI a) τ = some ((), τ') ∧ P4 g E n nt no σ0 τ0 σs τs m nt (nt + 1) σ' τ' := by
  have hnt := hW.nt
  intro d
  induction d with
  | zero =>
    intro a fc fr σ τ h h1 h2 hP
    obtain ⟨fc, rfl⟩ : ∃ k, fc = k + 1 := ⟨fc - 1, by omega⟩
    obtain ⟨fr, rfl⟩ : ∃ k, fr = k + 1 := ⟨fr - 1, by omega⟩
    obtain rfl : a = nt := by omega
    refine ⟨σ, τ, ?_, ?_, hP⟩
    · change fX0_noteHeads_2 2 (nI m) (lq1 (fX0_noteHeads_2 2 (nI m)) fc) _ _ = _
      generalize lq1 (fX0_noteHeads_2 2 (nI m)) fc = KK
      unfold fX0_noteHeads_2
      rw [rf_2_0, rf_3_1, hP.2.1.2.1.1.1.2.1, hW.2.1.2.1, if_pos (nI_le (Nat.le_refl _) (by omega))]
    · change fX11_looksAtHeads_2 373 (nI m) (lq1 (fX11_looksAtHeads_2 373 (nI m)) fr) _ _ = _
      generalize lq1 (fX11_looksAtHeads_2 373 (nI m)) fr = KK
      unfold fX11_looksAtHeads_2
      rw [rf_373_0, ln_374, gd14, cl14, (hP.2.1.1.2.on hO0).nt hW, if_pos (nI_le (Nat.le_refl _) (by omega))]
  | succ d ih =>
    intro a fc fr σ τ h h1 h2 hP
    obtain ⟨fc, rfl⟩ : ∃ k, fc = k + 1 := ⟨fc - 1, by omega⟩
    obtain ⟨fr, rfl⟩ : ∃ k, fr = k + 1 := ⟨fr - 1, by omega⟩
    obtain ⟨σ1, τ1, f1, f2, e1, e2, hP1⟩ := jl1 (bc := fX0_noteHeads_20 2 (nI m) (nI a) (lq1 (fX0_noteHeads_2 2 (nI m)) fc)) (br := fX11_looksAtHeads_17 373 (nI m) (nI a) (lq1 (fX11_looksAtHeads_2 373 (nI m)) fr)) nt (fun i σ τ => P4 g E n nt no σ0 τ0 σs τs m a i σ τ) (fun i σ τ hi hp => heads_step hW hO0 hm hi hp _ _) (nt - (a + 1)) (a + 1) FU FU σ τ (by omega) (by rw [FU_s]; omega) (by rw [FU_s]; omega) hP
    have hP2 : P4 g E n nt no σ0 τ0 σs τs m (a + 1) (a + 1 + 1) σ1 τ1 := by
      obtain ⟨a1, a2, a3, a4, a5⟩ := hP1
      exact ⟨by omega, a2, a3, a4, fun x y q1 q2 q3 q4 => a5 x y q1 q2 (by omega) q4⟩
    obtain ⟨σ2, τ2, e3, e4, hP3⟩ := ih (a + 1) fc fr σ1 τ1 (by omega) (by omega) (by omega) hP2
    refine ⟨σ2, τ2, ?_, ?_, hP3⟩
    · change fX0_noteHeads_2 2 (nI m) (lq1 (fX0_noteHeads_2 2 (nI m)) fc) (nI a) σ = _
      generalize hK : lq1 (fX0_noteHeads_2 2 (nI m)) fc = K at e1 e3 ⊢
      unfold fX0_noteHeads_2
      rw [rf_2_0, rf_3_1, hP.2.1.2.1.1.1.2.1, hW.2.1.2.1, if_neg (nle_of (show a < nt by omega) (by omega)), lt_v, nI_1, e1]
      generalize lq1 (fX0_noteHeads_20 2 (nI m) (nI a) K) f1 = KK
      unfold fX0_noteHeads_20
      rw [rf_2_0, rf_3_1, hP1.2.1.2.1.1.1.2.1, hW.2.1.2.1, if_pos (nI_le (Nat.le_refl _) (by omega)), lt_v, nI_1]
      exact e3
    · change fX11_looksAtHeads_2 373 (nI m) (lq1 (fX11_looksAtHeads_2 373 (nI m)) fr) (nI a) τ = _
      generalize hK : lq1 (fX11_looksAtHeads_2 373 (nI m)) fr = K at e2 e4 ⊢
      unfold fX11_looksAtHeads_2
      rw [rf_373_0, ln_374, gd14, cl14, (hP.2.1.1.2.on hO0).nt hW, if_neg (nle_of (show a < nt by omega) (by omega)), lt_v, nI_1, e2]
      generalize lq1 (fX11_looksAtHeads_17 373 (nI m) (nI a) K) f2 = KK
      unfold fX11_looksAtHeads_17
      rw [rf_373_0, ln_374, gd14, cl14, (hP1.2.1.1.2.on hO0).nt hW, if_pos (nI_le (Nat.le_refl _) (by omega)), lt_v, nI_1]
      exact e4
/-- between two minutes -/
def PM (g : Nat → Int32) (E : Option (Nat × Nat × Nat)) (n nt no : Nat) (σ0 τ0 : Sg) (m : Nat) (σ τ : Sg) : Prop := DY g E n nt no σ0 τ0 m σ τ (fun _ => m) (fun _ => m) ∧ HP nt τ ∧ DA nt m σ τ ∧ σ 22 0 = nI m
theorem DA_FZ {nt m : Nat} {σs τs σ τ : Sg} (hF : FZ σs τs σ τ) (h : DA nt m σs τs) : DA nt m σ τ := by
  intro t m' h1 h2
  unfold RS
  rw [(hF.1 _).1, (hF.1 _).2, (hF.2.2 _).1, (hF.2.2 _).2]
  exact h t m' h1 h2
theorem nar_s : ∀ x, x < 301 → vp_nar .short ((nI x).toInt16.toInt32) = nI x := by decide +kernel
/-- the last pass: places -/
def P5 (g : Nat → Int32) (E : Option (Nat × Nat × Nat)) (n nt no : Nat) (σ0 τ0 : Sg) (m i : Nat) (σ τ : Sg) : Prop := DY g E n nt no σ0 τ0 m σ τ (fun _ => m + 1) (fun _ => m + 1) ∧ HP nt τ ∧ DA nt m σ τ ∧ (∀ x, x < nt → RS σ τ (501 * x + m)) ∧ (∀ x, x < i → σ 23 (501 * x + m) = τ 389 (501 * x + m)) ∧ (0 < i → σ 22 0 = nI (m + 1))
theorem HP_c {nt : Nat} {τ τ' : Sg} (hR : ∀ c i, c ≠ 380 → c ≠ 389 → c ≠ 390 → τ' c i = τ c i) (h : HP nt τ) : HP nt τ' := by
  intro a b h1 h2
  rw [hR 381 a (by omega) (by omega) (by omega), hR 381 b (by omega) (by omega) (by omega), hR 382 a (by omega) (by omega) (by omega), hR 382 b (by omega) (by omega) (by omega), hR 383 a (by omega) (by omega) (by omega), hR 383 b (by omega) (by omega) (by omega), hR 394 _ (by omega) (by omega) (by omega)]
  exact h a b h1 h2
theorem place_step {g : Nat → Int32} {E : Option (Nat × Nat × Nat)} {n nt no nf m t : Nat} {v4 : Int32} {σ0 τ0 σ τ : Sg} (hW : Wf g n nt no nf) (hO0 : On τ0 g) (hm : m ≤ 500) (ht : t < nt) (hP : P5 g E n nt no σ0 τ0 m t σ τ) (K31 K6 : Int32 → Sg → Option (Unit × Sg)) : ∃ σ' τ', (∀ K, fX0_play_78 2 v4 (nI m) K31 K (nI t) σ = K (nI (t + 1)) σ') ∧ (∀ K, fX11_runs_216 373 (nI m) K6 K (nI t) τ = K (nI (t + 1)) τ') ∧ P5 g E n nt no σ0 τ0 m (t + 1) σ' τ' := by
  obtain ⟨hD, hH, hA, hRS, hpl, -⟩ := hP
  have hnt := hW.nt
  have hn : n ≤ 7 := hW.1.1.2
  have hO : On τ g := hD.1.2.on hO0
  have t14 := hO.nt hW
  have hL : LR σ 3 g := hD.2.1.1
  have h7 : σ 7 0 = nI nt := hL.1.2.1.trans hW.2.1.2.1
  obtain ⟨h, p, w, b, l, hR, hC, hG, -⟩ := hD.2.2.2.2 t ht
  obtain ⟨hh, hp⟩ := TrG_p hn hG
  have hpl3 : plc h p < 301 := by
    rcases plc_c hh hp with ⟨-, q⟩ | ⟨-, q1, q⟩ | ⟨-, q1, q⟩ | ⟨-, q⟩ <;> omega
  have a1 : ∀ K, fX0_play_78 2 v4 (nI m) K31 K (nI t) σ = K (nI (t + 1)) (wr (wr σ 23 (501 * t + m) (nI (plc h p))) 22 0 (nI (m + 1))) := by
    intro K
    unfold fX0_play_78 fX1_notePlace
    simp only [lt_v, rf_2_0, rf_2_1, rf_2_6, rf_3_1, rf_22_1, ln_23, ln_30, h7, if_neg (nle_of ht (show nt < 2 ^ 31 by omega)), gd5 (show t < 5 by omega), nI_cl (show t < 2147483648 by omega), i501, gd_in (show 501 * t + m < 2505 by omega) (show 2505 < 2147483648 by decide), nI_cl (show 501 * t + m < 2147483648 by omega), hC.1.1, nar_s (plc h p) hpl3, bd_v, nI_1]
  have a2 : ∀ K, fX11_runs_216 373 (nI m) K6 K (nI t) τ = K (nI (t + 1)) (wr τ 389 (501 * t + m) (nI (plc h p))) := by
    intro K
    unfold fX11_runs_216 fX11_runs_297
    simp only [lt_v, rf_373_0, ln_374, gd14, cl14, t14, if_neg (nle_of ht (show nt < 2 ^ 31 by omega)), rf_373_11, rf_373_12, rf_373_19, ln_381, ln_382, ln_389, gd5 (show t < 5 by omega), nI_cl (show t < 2147483648 by omega), j501, gd_in (show 501 * t + m < 2505 by omega) (show 2505 < 2147483648 by decide), nI_cl (show 501 * t + m < 2147483648 by omega), hR.1.1, nI_1]
    rcases plc_c hh hp with ⟨rfl, q⟩ | ⟨rfl, q1, q⟩ | ⟨rfl, q1, q⟩ | ⟨rfl, q⟩
    · rw [if_pos (show nI 0 = 0 from rfl), q]; rfl
    · rw [if_neg (show ¬ nI 1 = 0 by decide), if_neg (show ¬ nI 1 = 3 by decide), if_neg (show ¬ nI 1 = 2 by decide), q, hR.1.2.1 (Or.inl rfl)]
    · rw [if_neg (show ¬ nI 2 = 0 by decide), if_neg (show ¬ nI 2 = 3 by decide), if_pos (show nI 2 = 2 from rfl), q, hR.1.2.1 (Or.inr rfl), show (100 : Int32) + nI p = nI (100 + p) from nI_add 100 p]
    · rw [if_neg (show ¬ nI 3 = 0 by decide), if_pos (show nI 3 = 3 from rfl), q]; rfl
  refine ⟨_, _, a1, a2, ?_⟩
  generalize hσ' : wr (wr σ 23 (501 * t + m) (nI (plc h p))) 22 0 (nI (m + 1)) = σ'
  generalize hτ' : wr τ 389 (501 * t + m) (nI (plc h p)) = τ'
  have u1 : ∀ c i, ¬ (c = 23 ∧ i = 501 * t + m) → ¬ (c = 22 ∧ i = 0) → σ' c i = σ c i := by
    intro c i q1 q2
    rw [← hσ']
    unfold wr
    rw [if_neg q2, if_neg q1]
  have u2 : σ' 23 (501 * t + m) = nI (plc h p) := by rw [← hσ', wr_c (by decide), wr_eq]
  have u3 : σ' 22 0 = nI (m + 1) := by rw [← hσ', wr_eq]
  have y1 : ∀ c i, ¬ (c = 389 ∧ i = 501 * t + m) → τ' c i = τ c i := by
    intro c i q1
    rw [← hτ']
    unfold wr
    rw [if_neg q1]
  have y2 : τ' 389 (501 * t + m) = nI (plc h p) := by rw [← hτ', wr_eq]
  have hf : ∀ c i, c ≠ 380 → c ≠ 389 → c ≠ 390 → τ' c i = τ c i := fun c i q1 q2 q3 => y1 c i (by omega)
  refine ⟨DY_pap hnt hD (fun c i q1 q2 q3 q4 => u1 c i (by omega) q4) (fun x i hx hi => u1 _ _ (by omega) (by omega)) (fun x hx => PO_congr (fun c q1 q2 => funext fun i => u1 c i (by omega) (by omega)) (hD.2.2.2.1 x hx)) hf, HP_c hf hH, fun x m' hx hm' => ?_, fun x hx => ?_, fun x hx => ?_, fun _ => u3⟩
  · unfold RS
    rw [u1 _ _ (by omega) (by omega), u1 _ _ (by omega) (by omega), y1 _ _ (by omega), y1 _ _ (by omega)]
    exact hA x m' hx hm'
  · unfold RS
    rw [u1 _ _ (by omega) (by omega), y1 _ _ (by omega)]
    exact hRS x hx
  · by_cases z : x = t
    · subst z; rw [u2, y2]
    · rw [u1 _ _ (by omega) (by omega), y1 _ _ (by omega)]
      exact hpl x (by omega)
theorem PM_end {g : Nat → Int32} {E : Option (Nat × Nat × Nat)} {n nt no m : Nat} {σ0 τ0 σ τ : Sg} (hnt : 0 < nt) (h : P5 g E n nt no σ0 τ0 m nt σ τ) : PM g E n nt no σ0 τ0 (m + 1) σ τ := by
  obtain ⟨⟨h1, h2, h3, h4, h5⟩, h6, h7, h8, h9, h10⟩ := h
  refine ⟨⟨h1, h2, h3, fun t ht => PO_next (h4 t ht), h5⟩, h6, fun t m' ht hm' => ?_, h10 hnt⟩
  by_cases z : m' = m
  · subst z; exact ⟨h9 t ht, h8 t ht⟩
  · exact h7 t m' ht (by omega)
/-- one minute, on both sides -/
theorem minute {g : Nat → Int32} {E : Option (Nat × Nat × Nat)} {n nt no nf m : Nat} {v4 : Int32} {σ0 τ0 σ τ : Sg} (hW : Wf g n nt no nf) (hX : Xok E n nt) (hO0 : On τ0 g) (hM0 : MoE τ0 E) (hnt0 : 0 < nt) (hm : m ≤ 500) (hP : PM g E n nt no σ0 τ0 m σ τ) (h14 : ¬ σ 2 14 = v4) (K31 K6 : Int32 → Sg → Option (Unit × Sg)) : ∃ σ' τ', fX0_play_31 2 v4 K31 (nI m) σ = K31 (nI (m + 1)) σ' ∧ fX11_runs_6 373 K6 (nI m) τ = K6 (nI (m + 1)) τ' ∧ PM g E n nt no σ0 τ0 (m + 1) σ' τ' := by
  have hnt := hW.nt
  obtain ⟨hD, hH, hA, h22⟩ := hP
  obtain ⟨σ1, τ1, c1, r1, hD1, hH1, hF1⟩ := come_all hW hO0 hm hD hH (σs := σ) (τs := τ) ⟨fun i => ⟨rfl, rfl⟩, rfl, fun i => ⟨rfl, rfl⟩⟩ K6
  obtain ⟨σ2, τ2, c2, r2, hD2, hH2, hF2⟩ := appear_all hW hO0 hm hD1 hH1 hF1 K6
  obtain ⟨v, σ3, τ3, fc, fr, c3, r3, hV, hQ3, hA3, hRS3, h223⟩ := jl2 (bc := fX0_letLeave_4 2 (nI m)) (br := fX11_runs_123 373 (nI m) K6) nt (fun i v σ τ => P3 g E n nt no σ0 τ0 m i v σ τ) (fun i v σ τ hi hp => leave_step hW hX hO0 hM0 hm hi hp K6) nt 0 FU FU 0 σ2 τ2 (by omega) (by rw [FU_s]; omega) (by rw [FU_s]; omega) ⟨Or.inl ⟨rfl, hD2⟩, fun a b h1 h2 h3 h4 h5 h6 => Or.inl (hH2 a b h1 h2 h3 h4 h5 h6), DA_FZ hF2 hA, fun x hx => by omega, by rw [hF2.2.1, h22]⟩
  have hnt3 : σ3 7 0 = nI nt := by
    rcases hV with ⟨-, h⟩ | ⟨-, h⟩
    · exact h.2.1.1.1.2.1.trans hW.2.1.2.1
    · exact h.2.1.1.1.2.1.trans hW.2.1.2.1
  have hO3 : On τ3 g := by
    rcases hV with ⟨-, h⟩ | ⟨-, h⟩
    · exact h.1.2.on hO0
    · exact h.1.2.on hO0
  have hv01 : v = 0 ∨ v = 1 := hV.imp (fun h => h.1) (fun h => h.1)
  have c3' : fX0_letLeave 2 (nI m) σ2 = some (v, σ3) := by
    unfold fX0_letLeave
    rw [lt_v, lt_v]
    refine Eq.trans c3 ?_
    generalize lq2 (fX0_letLeave_4 2 (nI m)) fc = KK
    unfold fX0_letLeave_4
    rw [rf_2_0, rf_3_1, hnt3, if_pos (nI_le (Nat.le_refl _) (by omega)), gd_t hv01]
  -- heads
  have heads : ∃ σ4 τ4, (∀ K : Sg → Option (Unit × Sg), (if v = 0 then K σ3 else bd (fX0_noteHeads 2 (nI m) σ3) fun _ ρ => K ρ) = K σ4) ∧ fX11_looksAtHeads 373 (nI m) τ3 = some ((), τ4) ∧ DY g E n nt no σ0 τ0 m σ4 τ4 (fun _ => m + 1) (fun _ => m + 1) ∧ HP nt τ4 ∧ FZ σ3 τ3 σ4 τ4 := by
    rcases hV with ⟨rfl, hD3⟩ | ⟨rfl, hD3⟩
    · have hH3 : HP nt τ3 := by
        intro a b hab hb q1 q2 q3 q4
        rcases hQ3 a b hab hb q1 q2 q3 q4 with q | q | q
        · exact q
        · exfalso
          obtain ⟨h, p, w, bb, l, hR, -, hG, -⟩ := hD3.2.2.2.2 a (by omega)
          have hh := (TrG_p hW.1.1.2 hG).1
          rw [hR.1.1, show (2 : Int32) = nI 2 from rfl, h_eq hh (by decide)] at q1
          subst q1
          obtain ⟨f, d, -, -, -, -, y⟩ := hG
          have hl : l < m := (y rfl).1.2.2
          clear y
          rw [hR.2.1.2 rfl] at q
          have := (nI_eq (by omega) (by omega)).mp q
          omega
        · exfalso
          obtain ⟨h, p, w, bb, l, hR, -, hG, -⟩ := hD3.2.2.2.2 b hb
          have hh := (TrG_p hW.1.1.2 hG).1
          rw [hR.1.1, show (2 : Int32) = nI 2 from rfl, h_eq hh (by decide)] at q2
          subst q2
          obtain ⟨f, d, -, -, -, -, y⟩ := hG
          have hl : l < m := (y rfl).1.2.2
          clear y
          rw [hR.2.1.2 rfl] at q
          have := (nI_eq (by omega) (by omega)).mp q
          omega
      exact ⟨σ3, τ3, fun K => by rw [if_pos rfl], r_looks0 hW hO3 hH3, DY_M (fun x hx => ⟨Nat.le_succ m, Nat.le_refl _⟩) hD3, hH3, ⟨fun i => ⟨rfl, rfl⟩, rfl, fun i => ⟨rfl, rfl⟩⟩⟩
    · obtain ⟨σ4, τ4, e1, e2, -, p2, p3, p4, p5⟩ := heads_all (E := E) (σ0 := σ0) (τ0 := τ0) (no := no) (σs := σ3) (τs := τ3) hW hO0 hm nt 0 FU FU σ3 τ3 (by omega) (by rw [FU_s]; omega) (by rw [FU_s]; omega) ⟨by omega, hD3, hQ3, ⟨fun i => ⟨rfl, rfl⟩, rfl, fun i => ⟨rfl, rfl⟩⟩, fun x y h1 h2 h3 => by omega⟩
      refine ⟨σ4, τ4, fun K => ?_, ?_, p2, fun a b hab hb q1 q2 q3 q4 => p5 a b hab hb (by omega) ⟨q1, q2, q3, q4⟩, p4⟩
      · rw [if_neg (by decide)]
        unfold fX0_noteHeads
        rw [lt_v]
        have : lq1 (fX0_noteHeads_2 2 (nI m)) FU 0 σ3 = some ((), σ4) := e1
        rw [this, bd_v]
      · unfold fX11_looksAtHeads
        rw [lt_v]
        exact e2
  obtain ⟨σ4, τ4, c4, r4, hD4, hH4, hF4⟩ := heads
  obtain ⟨σ5, τ5, fc5, fr5, c5, r5, hP5⟩ := jl1 (bc := fX0_play_78 2 v4 (nI m) K31) (br := fX11_runs_216 373 (nI m) K6) nt (fun i σ τ => P5 g E n nt no σ0 τ0 m i σ τ) (fun i σ τ hi hp => place_step hW hO0 hm hi hp K31 K6) nt 0 FU FU σ4 τ4 (by omega) (by rw [FU_s]; omega) (by rw [FU_s]; omega) ⟨hD4, hH4, DA_FZ hF4 hA3, fun x hx => by
    unfold RS
    rw [(hF4.1 _).2, (hF4.2.2 _).2]
    exact hRS3 x hx, fun x hx => by omega, fun h => by omega⟩
  refine ⟨σ5, τ5, ?_, ?_, PM_end hnt0 hP5⟩
  · unfold fX0_play_31 fX0_play_75
    rw [if_neg (show ¬ (500 : Int32) < nI m from nI_nlt (b := m) (a := 500) hm (by decide)), if_neg h14, c1, bd_v, c2, bd_v, c3', bd_v]
    have := c4 (fun ρ => lt (0 : Int32) fun v6 => lq1 (fX0_play_78 2 v4 (nI m) K31) FU v6 ρ)
    refine Eq.trans this ?_
    rw [lt_v]
    refine Eq.trans c5 ?_
    generalize lq1 (fX0_play_78 2 v4 (nI m) K31) fc5 = KK
    unfold fX0_play_78
    rw [rf_2_0, rf_3_1, hP5.1.2.1.1.1.2.1, hW.2.1.2.1, if_pos (nI_le (Nat.le_refl _) (by omega)), lt_v, nI_1]
  · unfold fX11_runs_6
    rw [if_neg (show ¬ (500 : Int32) < nI m from nI_nlt (b := m) (a := 500) hm (by decide)), lt_v, r1, r2]
    refine Eq.trans r3 ?_
    generalize lq1 (fX11_runs_123 373 (nI m) K6) fr = KK
    unfold fX11_runs_123
    rw [rf_373_0, ln_374, gd14, cl14, hO3.nt hW, if_pos (nI_le (Nat.le_refl _) (by omega)), r4, bd_v, lt_v]
    refine Eq.trans r5 ?_
    generalize lq1 (fX11_runs_216 373 (nI m) K6) fr5 = KK
    unfold fX11_runs_216
    rw [rf_373_0, ln_374, gd14, cl14, (hP5.1.1.2.on hO0).nt hW, if_pos (nI_le (Nat.le_refl _) (by omega)), lt_v, nI_1]
