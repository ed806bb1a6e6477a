/-! PURE: all meets that can be: the reference -/
theorem sl1u {κ α : Type} {b : κ → (Int32 → Sg → Option α) → Int32 → Sg → Option α} (N : Nat) (P : Nat → Sg → Prop)
    (hs : ∀ i σ, i < N → P i σ → ∃ σ', (∀ x k, b x k (nI i) σ = k (nI (i + 1)) σ') ∧ P (i + 1) σ') :
    ∀ d i σ, i + d = N → P i σ → ∃ σ', P N σ' ∧ ∀ x fu, d < fu → ∃ fu', lq1 (b x) fu (nI i) σ = b x (lq1 (b x) fu') (nI N) σ' := by
  intro d
  induction d with
  | zero =>
    intro i σ h hP
    obtain rfl : i = N := by omega
    refine ⟨σ, hP, fun x fu hf => ?_⟩
    obtain ⟨fu, rfl⟩ : ∃ k, fu = k + 1 := ⟨fu - 1, by omega⟩
    exact ⟨fu, rfl⟩
  | succ d ih =>
    intro i σ h hP
    obtain ⟨σ1, e1, hP1⟩ := hs i σ (by omega) hP
    obtain ⟨σ2, hP2, h2⟩ := ih (i + 1) σ1 (by omega) hP1
    refine ⟨σ2, hP2, fun x fu hf => ?_⟩
    obtain ⟨fu, rfl⟩ : ∃ k, fu = k + 1 := ⟨fu - 1, by omega⟩
    obtain ⟨fu', e⟩ := h2 x fu (by omega)
    exact ⟨fu', (e1 x _).trans e⟩
/-- the places below k have been looked at -/
def RQ (g : Nat → Int32) (n nt : Nat) (pv : Nat → Int32) (τ0 : Sg) (k : Nat) (τ : Sg) : Prop := MR g nt τ0 τ ∧ τ 373 39 = nI (cn (cm g n nt) k) ∧ (∀ j, j < k → cm g n nt j = true → (τ 395 (cn (cm g n nt) j) = nI (j / 7 / 5) ∧ τ 396 (cn (cm g n nt) j) = nI (j / 7 % 5)) ∧ τ 397 (cn (cm g n nt) j) = nI (j % 7) ∧ τ 398 (cn (cm g n nt) j) = pv j) ∧ ((cn (cm g n nt) k = 0 ∧ τ 373 40 = 0) ∨ ∃ j, bst (cm g n nt) pv j k ∧ τ 373 40 = nI (cn (cm g n nt) j))
theorem RQ_skip {g : Nat → Int32} {n nt : Nat} {pv : Nat → Int32} {τ0 τ : Sg} {k : Nat} : ∀ d, (∀ j, k ≤ j → j < k + d → cm g n nt j = false) → RQ g n nt pv τ0 k τ → RQ g n nt pv τ0 (k + d) τ := by
  intro d
  induction d with
  | zero => intro _ h; exact h
  | succ d ih =>
    intro hf h
    obtain ⟨h1, h2, h3, h4⟩ := ih (fun j q1 q2 => hf j q1 (by omega)) h
    have hk := hf (k + d) (by omega) (by omega)
    refine ⟨h1, ?_, fun j hj hc => ?_, ?_⟩
    · rw [h2, show k + (d + 1) = k + d + 1 from rfl, cn_s0 hk]
    · by_cases z : j = k + d
      · subst z; rw [hk] at hc; exact absurd hc (by decide)
      · exact h3 j (by omega) hc
    · rcases h4 with ⟨q1, q2⟩ | ⟨j, q1, q2⟩
      · exact Or.inl ⟨by rw [show k + (d + 1) = k + d + 1 from rfl, cn_s0 hk, q1], q2⟩
      · exact Or.inr ⟨j, bst_skip hk q1, q2⟩
theorem meet_step {g : Nat → Int32} {n nt no nf a b s : Nat} {pv : Nat → Int32} {τ0 τ : Sg} (hW : Wf g n nt no nf) (hO0 : On τ0 g) (hV : PV g n nt pv) (hab : a < b) (hb : b < nt) (hs : s < n) (hc : gw g a ≠ gw g b) (hQ : RQ g n nt pv τ0 (plK a b s) τ) : ∃ τ', (∀ (x : (Int32 → Sg → Option (Unit × Sg)) × (Int32 → Sg → Option (Unit × Sg))) K, fX11_findMeets_40 373 (nI a) (nI b) x.1 x.2 K (nI s) τ = K (nI (s + 1)) τ') ∧ RQ g n nt pv τ0 (plK a b s + 1) τ' := by
  have hnt := hW.nt
  have hn : n ≤ 7 := hW.1.1.2
  obtain ⟨d1, d2, d3⟩ := pl_i (a := a) (b := b) (s := s) (by omega) (by omega)
  have hk : plK a b s < 175 := by unfold plK; omega
  generalize hkk : plK a b s = k at *
  have hcm : cm g n nt k = true := cm_iff.mpr ⟨by omega, by omega, by rw [d1, d2]; exact hc, by omega⟩
  have hP := hV k hk hcm
  rw [d1, d2, d3] at hP
  obtain ⟨⟨m1, m2, m3⟩, q39, qA, qB⟩ := hQ
  have h42 := cm_42 g n nt
  have hlt : cn (cm g n nt) k < 42 := by
    have := cn_lt (f := cm g n nt) hk hcm
    omega
  have hO : On τ g := fun x hx => by rw [m1 _ _ (by omega)]; exact hO0 x hx
  have t0 : τ 374 0 = nI n := (hO 0 (by decide)).trans hW.2.1.1
  generalize hc0 : cn (cm g n nt) k = c at *
  -- the rows of the meet
  generalize hρ : wr (wr (wr τ 395 c (nI a)) 396 c (nI b)) 397 c (nI s) = ρ
  have fρ : ∀ x i, x ≠ 395 → x ≠ 396 → x ≠ 397 → ρ x i = τ x i := fun x i q1 q2 q3 => by rw [← hρ, wr_c q3, wr_c q2, wr_c q1]
  have hMρ : MR g nt τ0 ρ := ⟨fun x i hx => by rw [fρ x i (by omega) (by omega) (by omega), m1 x i hx], fun i q1 q2 => by rw [fρ _ _ (by decide) (by decide) (by decide), m2 i q1 q2], GoodR_congr (τ := τ) (fun x hx => funext fun i => (fρ x i (by omega) (by omega) (by omega)).symm) (fun i _ _ => (fρ _ _ (by decide) (by decide) (by decide)).symm) (fρ _ _ (by decide) (by decide) (by decide)).symm m3⟩
  obtain ⟨τ1, e1, ⟨k1, k2, k3⟩, k4, k5⟩ := r_priceOf hW hO0 hMρ (Or.inl ⟨rfl, rfl⟩) hP
  have r39 : τ1 373 39 = nI c := by rw [k5 _ (by decide), fρ _ _ (by decide) (by decide) (by decide), q39]
  have r40 : τ1 373 40 = τ 373 40 := by rw [k5 _ (by decide), fρ _ _ (by decide) (by decide) (by decide)]
  generalize hμ : wr τ1 398 c (pv k) = μ
  have fμ : ∀ x i, x ≠ 398 → μ x i = τ1 x i := fun x i hx => by rw [← hμ, wr_c hx]
  obtain ⟨cj, hcj, ecj⟩ : ∃ cj, cj < 42 ∧ τ 373 40 = nI cj := by
    rcases qB with ⟨-, q⟩ | ⟨j, q1, q2⟩
    · exact ⟨0, by decide, q⟩
    · refine ⟨_, ?_, q2⟩
      have := cn_lt (f := cm g n nt) (show j < 175 by have := q1.1; omega) q1.2.1
      omega
  have g42 : ∀ {x : Nat} {F : Option (Unit × Sg)}, x < 42 → gd (inR (nI x) 42) F = F := fun h => gd_in h (by decide)
  have hwa : fX11_wayOf 373 (nI a) τ = some (gw g a, τ) := by
    rw [e11_wayOf τ a (by omega)]
    have : gw (τ 374) a = gw g a := by
      unfold gw
      rw [hO _ (by omega), hO _ (by omega)]
    rw [this]
  have hwb : fX11_wayOf 373 (nI b) τ = some (gw g b, τ) := by
    rw [e11_wayOf τ b (by omega)]
    have : gw (τ 374) b = gw g b := by
      unfold gw
      rw [hO _ (by omega), hO _ (by omega)]
    rw [this]
  have e40 : ∀ (x : (Int32 → Sg → Option (Unit × Sg)) × (Int32 → Sg → Option (Unit × Sg))) K, fX11_findMeets_40 373 (nI a) (nI b) x.1 x.2 K (nI s) τ = if μ 398 cj ≤ μ 398 c then K (nI (s + 1)) (wr (wr μ 373 40 (nI cj)) 373 39 (nI (c + 1))) else K (nI (s + 1)) (wr (wr μ 373 40 (nI c)) 373 39 (nI (c + 1))) := by
    intro x K
    have z39 : wr τ 395 c (nI a) 373 39 = nI c := by rw [wr_c (by decide), q39]
    have z39' : wr (wr τ 395 c (nI a)) 396 c (nI b) 373 39 = nI c := by rw [wr_c (by decide), z39]
    have ρ39 : ρ 373 39 = nI c := by rw [fρ _ _ (by decide) (by decide) (by decide), q39]
    have μ39 : μ 373 39 = nI c := by rw [fμ _ _ (by decide), r39]
    have μ40 : μ 373 40 = nI cj := by rw [fμ _ _ (by decide), r40, ecj]
    unfold fX11_findMeets_40 fX11_findMeets_142
    rw [rf_373_0, ln_374, gd_t (show inR (0 : Int32) 174 by decide), cl0, t0, if_neg (nle_of hs (by omega)), hwa, bd_v, hwb, bd_v, if_neg hc, q39, rf_373_35, ln_395, g42 hlt, lt_v, nI_cl (show c < 2147483648 by omega), z39, rf_373_36, ln_396, g42 hlt, lt_v, nI_cl (show c < 2147483648 by omega), z39', rf_373_37, ln_397, g42 hlt, lt_v, nI_cl (show c < 2147483648 by omega), hρ, e1, bd_v, ρ39, rf_373_38, ln_398, g42 hlt, lt_v, nI_cl (show c < 2147483648 by omega), hμ, μ39, g42 hlt, μ40, g42 hcj, nI_cl (show c < 2147483648 by omega), nI_cl (show cj < 2147483648 by omega)]
    simp only [lt_v, wr_i (show 39 ≠ 40 by decide), μ39, nI_1]
  -- the new state
  have fin : ∀ (cb : Nat) (τ' : Sg), τ' = wr (wr μ 373 40 (nI cb)) 373 39 (nI (c + 1)) → (∃ j, bst (cm g n nt) pv j (k + 1) ∧ cb = cn (cm g n nt) j) → RQ g n nt pv τ0 (k + 1) τ' := by
    intro cb τ' hτ' ⟨j, hj, hcb⟩
    have w1 : ∀ x i, ¬ (x = 373 ∧ (i = 39 ∨ i = 40)) → τ' x i = μ x i := by
      intro x i hx
      rw [hτ']
      unfold wr
      rw [if_neg (by omega), if_neg (by omega)]
    have w39 : τ' 373 39 = nI (c + 1) := by rw [hτ', wr_eq]
    have w40 : τ' 373 40 = nI cb := by rw [hτ', wr_i (by decide), wr_eq]
    refine ⟨⟨fun x i hx => ?_, fun i q1 q2 => ?_, ?_⟩, ?_, fun i hi hci => ?_, Or.inr ⟨j, hj, by rw [w40, hcb]⟩⟩
    · rw [w1 x i (by omega), fμ x i (by omega), k1 x i hx]
    · rw [w1 _ _ (by omega), fμ _ _ (by decide), k2 i q1 q2]
    · exact GoodR_congr (τ := τ1) (fun x hx => funext fun i => by rw [w1 x i (by omega), fμ x i (by omega)]) (fun i q1 q2 => by rw [w1 _ _ (by omega), fμ _ _ (by decide)]) (by rw [w1 _ _ (by omega), fμ _ _ (by decide)]) k3
    · rw [w39, cn_s1 hcm, hc0]
    · by_cases z : i = k
      · rw [z, hc0, d1, d2, d3]
        refine ⟨⟨?_, ?_⟩, ?_, ?_⟩
        · rw [w1 _ _ (by omega), fμ _ _ (by decide), k4 _ _ (by decide), ← hρ, wr_c (by decide), wr_c (by decide), wr_eq]
        · rw [w1 _ _ (by omega), fμ _ _ (by decide), k4 _ _ (by decide), ← hρ, wr_c (by decide), wr_eq]
        · rw [w1 _ _ (by omega), fμ _ _ (by decide), k4 _ _ (by decide), ← hρ, wr_eq]
        · rw [w1 _ _ (by omega), ← hμ, wr_eq]
      · have hne : cn (cm g n nt) i ≠ c := by
          have := cn_lt (f := cm g n nt) (show i < k by omega) hci
          omega
        obtain ⟨⟨a1, a2⟩, a3, a4⟩ := qA i (by omega) hci
        refine ⟨⟨?_, ?_⟩, ?_, ?_⟩
        · rw [w1 _ _ (by omega), fμ _ _ (by decide), k4 _ _ (by decide), ← hρ, wr_c (by decide), wr_c (by decide), wr_i hne, a1]
        · rw [w1 _ _ (by omega), fμ _ _ (by decide), k4 _ _ (by decide), ← hρ, wr_c (by decide), wr_i hne, wr_c (by decide), a2]
        · rw [w1 _ _ (by omega), fμ _ _ (by decide), k4 _ _ (by decide), ← hρ, wr_i hne, wr_c (by decide), wr_c (by decide), a3]
        · rw [w1 _ _ (by omega), ← hμ, wr_i hne, k4 _ _ (by decide), fρ _ _ (by decide) (by decide) (by decide), a4]
  have μc : μ 398 c = pv k := by rw [← hμ, wr_eq]
  rcases qB with ⟨q1, q2⟩ | ⟨j, q1, q2⟩
  · have hc00 : c = 0 := q1
    have hcj0 : cj = 0 := by
      have : nI cj = nI 0 := by rw [← ecj, q2]; rfl
      exact (nI_eq (by omega) (by omega)).mp this
    refine ⟨_, fun x K => by rw [e40 x K, if_pos (by rw [hcj0, hc00]; exact Int32.le_refl _)], fin cj _ rfl ⟨k, bst_one hcm (by rw [hc0, hc00]), by rw [hc0, hcj0, hc00]⟩⟩
  · have hcjj : cj = cn (cm g n nt) j := by
      have hj := cn_lt (f := cm g n nt) (show j < 175 by have := q1.1; omega) q1.2.1
      exact (nI_eq (by omega) (by omega)).mp (ecj.symm.trans q2)
    have μj : μ 398 cj = pv j := by
      have hlt2 := cn_lt (f := cm g n nt) q1.1 q1.2.1
      rw [← hμ, wr_i (by omega), k4 _ _ (by decide), fρ _ _ (by decide) (by decide) (by decide), hcjj]
      exact (qA j q1.1 q1.2.1).2.2
    by_cases B : pv j ≤ pv k
    · exact ⟨_, fun x K => by rw [e40 x K, μc, μj, if_pos B], fin cj _ rfl ⟨j, bst_old B q1, hcjj⟩⟩
    · exact ⟨_, fun x K => by rw [e40 x K, μc, μj, if_neg B], fin c _ rfl ⟨k, bst_new hcm B q1, hc0.symm⟩⟩
theorem gw_On {τ : Sg} {g : Nat → Int32} (hO : On τ g) {a : Nat} (ha : a < 5) : gw (τ 374) a = gw g a := by
  unfold gw
  rw [hO _ (by omega), hO _ (by omega)]
theorem pair_step {g : Nat → Int32} {n nt no nf a b : Nat} {pv : Nat → Int32} {τ0 τ : Sg} (hW : Wf g n nt no nf) (hO0 : On τ0 g) (hV : PV g n nt pv) (hab : a < b) (hb : b < nt) (hQ : RQ g n nt pv τ0 (plK a b 0) τ) : ∃ τ', (∀ (k12 k27 : Int32 → Sg → Option (Unit × Sg)), fX11_findMeets_27 373 (nI a) k12 k27 (nI b) τ = k27 (nI (b + 1)) τ') ∧ RQ g n nt pv τ0 (plK a (b + 1) 0) τ' := by
  have hnt := hW.nt
  have hn : n ≤ 7 := hW.1.1.2
  have hn2 : 2 ≤ n := hW.1.1.1
  have hO : On τ g := fun x hx => by rw [hQ.1.1 _ _ (by omega)]; exact hO0 x hx
  have hp1 : plK a (b + 1) 0 = plK a b 0 + 7 := by unfold plK; omega
  have e27 : ∀ (k12 k27 : Int32 → Sg → Option (Unit × Sg)), fX11_findMeets_27 373 (nI a) k12 k27 (nI b) τ = lq1 (fX11_findMeets_40 373 (nI a) (nI b) k12 k27) FU 0 τ := by
    intro k12 k27
    unfold fX11_findMeets_27
    rw [rf_373_0, ln_374, gd14, cl14, hO.nt hW, if_neg (nle_of hb (by omega)), lt_v]
  by_cases C : gw g a = gw g b
  · refine ⟨τ, fun k12 k27 => ?_, ?_⟩
    · rw [e27]
      show fX11_findMeets_40 373 (nI a) (nI b) k12 k27 (lq1 (fX11_findMeets_40 373 (nI a) (nI b) k12 k27) 999) 0 τ = _
      generalize lq1 (fX11_findMeets_40 373 (nI a) (nI b) k12 k27) 999 = KK
      unfold fX11_findMeets_40 fX11_findMeets_161
      rw [rf_373_0, ln_374, gd_t (show inR (0 : Int32) 174 by decide), cl0, (hO 0 (by decide)).trans hW.2.1.1, if_neg (show ¬ nI n ≤ 0 from nI_nle (by omega) (by omega)), e11_wayOf τ a (by omega), bd_v, e11_wayOf τ b (by omega), bd_v, gw_On hO (by omega), gw_On hO (by omega), if_pos C, lt_v, nI_1]
    · rw [hp1]
      refine RQ_skip 7 (fun j q1 q2 => ?_) hQ
      obtain ⟨s, hs, rfl⟩ : ∃ s, s < 7 ∧ j = plK a b s := ⟨j - plK a b 0, by omega, by unfold plK at *; omega⟩
      obtain ⟨d1, d2, d3⟩ := pl_i (a := a) (b := b) (s := s) (by omega) hs
      rcases hq : cm g n nt (plK a b s) with _ | _
      · rfl
      · have := (cm_iff.mp hq).2.2.1
        rw [d1, d2] at this
        exact absurd C this
  · obtain ⟨τ', hQ', h⟩ := sl1u (κ := (Int32 → Sg → Option (Unit × Sg)) × (Int32 → Sg → Option (Unit × Sg))) (b := fun x => fX11_findMeets_40 373 (nI a) (nI b) x.1 x.2) n (fun s ρ => RQ g n nt pv τ0 (plK a b s) ρ) (fun s ρ hs hq => by
      obtain ⟨ρ', e, hq'⟩ := meet_step hW hO0 hV hab hb hs C hq
      exact ⟨ρ', e, hq'⟩) n 0 τ (by omega) hQ
    refine ⟨τ', fun k12 k27 => ?_, ?_⟩
    · obtain ⟨fu, e⟩ := h (k12, k27) FU (by rw [FU_s]; omega)
      rw [e27]
      refine Eq.trans e ?_
      have hO' : On τ' g := fun x hx => by rw [hQ'.1.1 _ _ (by omega)]; exact hO0 x hx
      show fX11_findMeets_40 373 (nI a) (nI b) k12 k27 (lq1 (fX11_findMeets_40 373 (nI a) (nI b) k12 k27) fu) (nI n) τ' = _
      generalize lq1 (fX11_findMeets_40 373 (nI a) (nI b) k12 k27) fu = KK
      unfold fX11_findMeets_40 fX11_findMeets_161
      rw [rf_373_0, ln_374, gd_t (show inR (0 : Int32) 174 by decide), cl0, (hO' 0 (by decide)).trans hW.2.1.1, if_pos (nI_le (Nat.le_refl _) (by omega)), lt_v, nI_1]
    · rw [hp1, show plK a b 0 + 7 = plK a b n + (7 - n) from by unfold plK; omega]
      refine RQ_skip (7 - n) (fun j q1 q2 => ?_) hQ'
      obtain ⟨s, hs, hs2, rfl⟩ : ∃ s, n ≤ s ∧ s < 7 ∧ j = plK a b s := ⟨j - plK a b 0, by unfold plK at *; omega, by unfold plK at *; omega, by unfold plK at *; omega⟩
      obtain ⟨d1, d2, d3⟩ := pl_i (a := a) (b := b) (s := s) (by omega) hs2
      rcases hq : cm g n nt (plK a b s) with _ | _
      · rfl
      · have := (cm_iff.mp hq).2.2.2
        omega
theorem lesser_step {g : Nat → Int32} {n nt no nf a : Nat} {pv : Nat → Int32} {τ0 τ : Sg} (hW : Wf g n nt no nf) (hO0 : On τ0 g) (hV : PV g n nt pv) (ha : a < nt) (hQ : RQ g n nt pv τ0 (35 * a) τ) : ∃ τ', (∀ k12, fX11_findMeets_12 373 k12 (nI a) τ = k12 (nI (a + 1)) τ') ∧ RQ g n nt pv τ0 (35 * (a + 1)) τ' := by
  have hnt := hW.nt
  have hO : On τ g := fun x hx => by rw [hQ.1.1 _ _ (by omega)]; exact hO0 x hx
  have none : ∀ j b, j / 7 / 5 = a → j / 7 % 5 = b → (b ≤ a ∨ nt ≤ b) → cm g n nt j = false := by
    intro j b h1 h2 h3
    rcases hq : cm g n nt j with _ | _
    · rfl
    · obtain ⟨q1, q2, -⟩ := cm_iff.mp hq
      omega
  have hQ0 : RQ g n nt pv τ0 (plK a (a + 1) 0) τ := by
    rw [show plK a (a + 1) 0 = 35 * a + 7 * (a + 1) from by unfold plK; omega]
    exact RQ_skip _ (fun j q1 q2 => none j (j / 7 % 5) (by omega) rfl (by omega)) hQ
  obtain ⟨τ', hQ', h⟩ := sl1u (κ := (Int32 → Sg → Option (Unit × Sg))) (b := fun x => fX11_findMeets_27 373 (nI a) x) nt (fun b ρ => a < b ∧ RQ g n nt pv τ0 (plK a b 0) ρ) (fun b ρ hb hq => by
    obtain ⟨ρ', e, hq'⟩ := pair_step hW hO0 hV hq.1 hb hq.2
    exact ⟨ρ', fun x k => e x k, by omega, hq'⟩) (nt - (a + 1)) (a + 1) τ (by omega) ⟨by omega, hQ0⟩
  refine ⟨τ', fun k12 => ?_, ?_⟩
  · obtain ⟨fu, e⟩ := h k12 FU (by rw [FU_s]; omega)
    have hO' : On τ' g := fun x hx => by rw [hQ'.2.1.1 _ _ (by omega)]; exact hO0 x hx
    unfold fX11_findMeets_12
    rw [rf_373_0, ln_374, gd14, cl14, hO.nt hW, if_neg (nle_of ha (by omega)), lt_v, nI_1]
    refine Eq.trans e ?_
    show fX11_findMeets_27 373 (nI a) k12 (lq1 (fX11_findMeets_27 373 (nI a) k12) fu) (nI nt) τ' = _
    generalize lq1 (fX11_findMeets_27 373 (nI a) k12) fu = KK
    unfold fX11_findMeets_27
    rw [rf_373_0, ln_374, gd14, cl14, hO'.nt hW, if_pos (nI_le (Nat.le_refl _) (by omega)), lt_v, nI_1]
  · have hp : plK a nt 0 = 35 * a + 7 * nt := by unfold plK; omega
    have hq := hQ'.2
    rw [hp] at hq
    rw [show 35 * (a + 1) = 35 * a + 7 * nt + (35 - 7 * nt) from by omega]
    exact RQ_skip _ (fun j q1 q2 => none j (j / 7 % 5) (by omega) rfl (by omega)) hq
theorem r_findMeets {g : Nat → Int32} {n nt no nf : Nat} {pv : Nat → Int32} {τ0 : Sg} (hW : Wf g n nt no nf) (hO0 : On τ0 g) (hV : PV g n nt pv) (hG : GoodR nt g τ0) : ∃ τ, fX11_findMeets 373 τ0 = some ((), τ) ∧ RQ g n nt pv τ0 175 τ := by
  have hnt := hW.nt
  have hQ0 : RQ g n nt pv τ0 (35 * 0) (wr (wr τ0 373 39 0) 373 40 0) := by
    refine ⟨⟨fun c i hc => by rw [wr_c (by omega), wr_c (by omega)], fun i q1 q2 => by rw [wr_i (by omega), wr_i (by omega)], ?_⟩, by rw [wr_i (by decide), wr_eq]; rfl, fun j hj => by omega, Or.inl ⟨rfl, by rw [wr_eq]⟩⟩
    exact GoodR_congr (τ := τ0) (fun x hx => funext fun i => by rw [wr_c (by omega), wr_c (by omega)]) (fun i q1 q2 => by rw [wr_i (by omega), wr_i (by omega)]) (by rw [wr_i (by decide), wr_i (by decide)]) hG
  obtain ⟨τ, fu, e, hQ⟩ := sl1 (b := fX11_findMeets_12 373) nt (fun a ρ => RQ g n nt pv τ0 (35 * a) ρ) (fun a ρ ha hq => lesser_step hW hO0 hV ha hq) nt 0 FU _ (by omega) (by rw [FU_s]; omega) hQ0
  refine ⟨τ, ?_, ?_⟩
  · unfold fX11_findMeets
    rw [lt_v, lt_v, lt_v]
    refine Eq.trans e ?_
    have hO : On τ g := fun x hx => by rw [hQ.1.1 _ _ (by omega)]; exact hO0 x hx
    generalize lq1 (fX11_findMeets_12 373) fu = KK
    unfold fX11_findMeets_12
    rw [rf_373_0, ln_374, gd14, cl14, hO.nt hW, if_pos (nI_le (Nat.le_refl _) (by omega))]
  · rw [show 175 = 35 * nt + (175 - 35 * nt) from by omega]
    refine RQ_skip _ (fun j q1 q2 => ?_) hQ
    rcases hq : cm g n nt j with _ | _
    · rfl
    · obtain ⟨y1, y2, -⟩ := cm_iff.mp hq
      omega
