/-! PURE: who is head on -/
theorem DY_hd {g : Nat → Int32} {E : Option (Nat × Nat × Nat)} {n nt no m : Nat} {σ0 τ0 σ τ σ' τ' : Sg} {M1 M2 : Nat → Nat} (hnt : nt ≤ 5) (hD : DY g E n nt no σ0 τ0 m σ τ M1 M2) (hC : ∀ c i, ¬ (c = 22 ∧ 5 ≤ i ∧ i ≤ 10) → σ' c i = σ c i) (hR : ∀ c i, c ≠ 394 → ¬ (c = 373 ∧ 25 ≤ i ∧ i ≤ 30) → τ' c i = τ c i) (hp : PR nt σ' τ') (hh : HD nt σ' τ') : DY g E n nt no σ0 τ0 m σ' τ' M1 M2 := by
  obtain ⟨⟨⟨f1, f2, f3⟩, ⟨f4, f5⟩⟩, hS, ⟨⟨b1, b2, b3⟩, ⟨b4, b5⟩, b6, b7, b8⟩, hP, hT⟩ := hD
  refine ⟨⟨⟨fun c i hc => ?_, fun x hx => ?_, ?_⟩, fun c i hc => ?_, fun i hi => ?_⟩, ?_, ⟨⟨?_, ?_, fun j hj => ?_⟩, ⟨hp, hh⟩, ?_, ?_, fun x h1 h2 => ?_⟩, fun x hx => ?_, fun x hx => ?_⟩
  · rw [hC c i (by omega), f1 c i hc]
  · rw [hC _ _ (by omega), f2 x hx]
  · rw [hC _ _ (by omega), f3]
  · rw [hR c i (by omega) (by omega), f4 c i hc]
  · rw [hR _ _ (by omega) (by omega), f5 i hi]
  · exact SC_congr hnt (fun c i q1 q2 => hC c i (by omega)) (fun i => ⟨hC _ _ (by omega), hC _ _ (by omega)⟩) (hC _ _ (by omega)) (fun x i hx hi => hC _ _ (by omega)) hS
  · exact MN_o (fun i => hC _ _ (by omega)) (fun i => hR _ _ (by omega) (by omega)) b1
  · exact MN_o (fun i => hC _ _ (by omega)) (fun i => hR _ _ (by omega) (by omega)) b2
  · rw [hC _ _ (by omega), hR _ _ (by omega) (by omega)]
    exact b3 j hj
  · rw [hC _ _ (by omega), hR _ _ (by omega) (by omega)]
    exact b6
  · rw [hC _ _ (by omega), b7]
    congr 1
    funext o
    rw [hR _ _ (by omega) (by omega)]
  · rw [hC _ _ (by omega)]
    exact b8 x h1 h2
  · exact PO_congr (fun c q1 q2 => funext fun i => hC c i (by omega)) (hP x hx)
  · refine Tr_congr ⟨⟨hC _ _ (by omega), hC _ _ (by omega), hC _ _ (by omega), hC _ _ (by omega), hC _ _ (by omega)⟩, by rw [hC _ _ (by omega)], fun j hj => by rw [hC _ _ (by omega)]⟩ ⟨⟨hR _ _ (by omega) (by omega), hR _ _ (by omega) (by omega), hR _ _ (by omega) (by omega), hR _ _ (by omega) (by omega), hR _ _ (by omega) (by omega), hR _ _ (by omega) (by omega)⟩, fun q hq => ⟨hR _ _ (by omega) (by omega), hR _ _ (by omega) (by omega)⟩⟩ (hT x hx)
/-- two trains are head on -/
def hdo (τ : Sg) (a b : Nat) : Prop := τ 381 a = 2 ∧ τ 381 b = 2 ∧ τ 382 a = τ 382 b ∧ τ 383 a ≠ τ 383 b
theorem r_hd {τ : Sg} {g : Nat → Int32} {n nt no nf m a b : Nat} (hW : Wf g n nt no nf) (hO : On τ g) (hab : a < b) (hb : b < nt) (k2 K : Int32 → Sg → Option (Unit × Sg)) : (¬ (hdo τ a b ∧ τ 394 (5 * a + b) = 0) ∧ fX11_looksAtHeads_17 373 (nI m) (nI a) k2 K (nI b) τ = K (nI (b + 1)) τ) ∨ ((hdo τ a b ∧ τ 394 (5 * a + b) = 0) ∧ fX11_looksAtHeads_17 373 (nI m) (nI a) k2 K (nI b) τ = if τ 373 25 = 0 then K (nI (b + 1)) (wr (wr (wr (wr (wr (wr (wr τ 394 (5 * a + b) 1) 373 26 (nI m)) 373 27 (τ 382 a)) 373 28 (nI a)) 373 29 (nI b)) 373 30 (if τ 384 a ≤ τ 384 b then τ 384 b else τ 384 a)) 373 25 (τ 373 25 + 1)) else K (nI (b + 1)) (wr (wr τ 394 (5 * a + b) 1) 373 25 (τ 373 25 + 1))) := by
  have hnt := hW.nt
  have t14 := hO.nt hW
  have x5 : (5 : Int32) * nI a + nI b = nI (5 * a + b) := by rw [show (5 : Int32) = nI 5 from rfl, pk_mul, nI_add]
  unfold fX11_looksAtHeads_17 fX11_looksAtHeads_181 fX11_looksAtHeads_168 fX11_looksAtHeads_171 fX11_looksAtHeads_181
  simp only [lt_v, rf_373_0, ln_374, gd14, cl14, t14, if_neg (nle_of hb (show nt < 2 ^ 31 by omega)), rf_373_11, rf_373_12, rf_373_13, rf_373_14, rf_373_24, ln_381, ln_382, ln_383, ln_384, ln_394, gd5 (show a < 5 by omega), gd5 (show b < 5 by omega), nI_cl (show a < 2147483648 by omega), nI_cl (show b < 2147483648 by omega), x5, gd_in (show 5 * a + b < 25 by omega) (show 25 < 2147483648 by decide), nI_cl (show 5 * a + b < 2147483648 by omega), vb1, nI_1, wr_c (show 373 ≠ 394 by decide), wr_c (show 382 ≠ 373 by decide), wr_c (show 382 ≠ 394 by decide), wr_c (show 384 ≠ 373 by decide), wr_c (show 384 ≠ 394 by decide), wr_i (show 25 ≠ 26 by decide), wr_i (show 25 ≠ 27 by decide), wr_i (show 25 ≠ 28 by decide), wr_i (show 25 ≠ 29 by decide), wr_i (show 25 ≠ 30 by decide)]
  unfold hdo
  by_cases A : τ 381 a = 2
  · rw [if_pos A]
    by_cases B : τ 381 b = 2
    · rw [if_pos B]
      by_cases C : τ 382 a = τ 382 b
      · rw [if_pos C]
        by_cases D : τ 383 a = τ 383 b
        · rw [if_pos D]
          exact Or.inl ⟨fun q => q.1.2.2.2 D, rfl⟩
        · rw [if_neg D]
          by_cases F : τ 394 (5 * a + b) = 0
          · rw [if_pos F]
            refine Or.inr ⟨⟨⟨A, B, C, D⟩, F⟩, ?_⟩
            by_cases G : τ 373 25 = 0
            · rw [if_pos G, if_pos G]
              by_cases H : τ 384 a ≤ τ 384 b
              · rw [if_pos H, if_pos H]
              · rw [if_neg H, if_neg H]
            · rw [if_neg G, if_neg G]
          · rw [if_neg F]
            exact Or.inl ⟨fun q => F q.2, rfl⟩
      · rw [if_neg C]
        exact Or.inl ⟨fun q => C q.1.2.2.1, rfl⟩
    · rw [if_neg B]
      exact Or.inl ⟨fun q => B q.1.2.1, rfl⟩
  · rw [if_neg A]
    exact Or.inl ⟨fun q => A q.1.1, rfl⟩
/-- nobody new: the reference looks, and writes nothing -/
theorem r_looks0 {τ : Sg} {g : Nat → Int32} {n nt no nf m : Nat} (hW : Wf g n nt no nf) (hO : On τ g) (hH : HP nt τ) : fX11_looksAtHeads 373 (nI m) τ = some ((), τ) := by
  have hnt := hW.nt
  have t14 := hO.nt hW
  have inner : ∀ a, a < nt → ∀ k2, lq1 (fX11_looksAtHeads_17 373 (nI m) (nI a) k2) FU (nI (a + 1)) τ = k2 (nI (a + 1)) τ := by
    intro a ha k2
    have hst : ∀ i (ρ : Sg), i < nt → (a < i ∧ ρ = τ) → ∃ ρ', (∀ K, fX11_looksAtHeads_17 373 (nI m) (nI a) k2 K (nI i) ρ = K (nI (i + 1)) ρ') ∧ (a < i + 1 ∧ ρ' = τ) := by
      rintro i ρ hi ⟨hai, hρ⟩
      refine ⟨τ, fun K => ?_, by omega, rfl⟩
      rw [hρ]
      rcases r_hd (m := m) hW hO hai hi k2 K with ⟨-, h⟩ | ⟨⟨⟨h1, h2, h3, h4⟩, h5⟩, -⟩
      · exact h
      · exact absurd h5 (hH a i hai hi h1 h2 h3 h4)
    obtain ⟨σ', fu, e, -, hσ⟩ := sl1 (b := fX11_looksAtHeads_17 373 (nI m) (nI a) k2) nt _ hst (nt - (a + 1)) (a + 1) FU τ (by omega) (by rw [FU_s]; omega) ⟨by omega, rfl⟩
    rw [hσ] at e
    rw [e]
    generalize lq1 (fX11_looksAtHeads_17 373 (nI m) (nI a) k2) fu = KK
    unfold fX11_looksAtHeads_17
    rw [rf_373_0, ln_374, gd14, cl14, t14, if_pos (nI_le (Nat.le_refl _) (by omega)), lt_v, nI_1]
  obtain ⟨σ', fu, e, hσ⟩ := sl1 (b := fX11_looksAtHeads_2 373 (nI m)) nt (fun i ρ => ρ = τ) (by
    rintro i ρ hi hρ
    refine ⟨τ, fun K => ?_, rfl⟩
    rw [hρ]
    have := inner i hi K
    unfold fX11_looksAtHeads_2
    rw [rf_373_0, ln_374, gd14, cl14, t14, if_neg (nle_of hi (show nt < 2 ^ 31 by omega)), lt_v, nI_1]
    exact this) nt 0 FU τ (by omega) (by rw [FU_s]; omega) rfl
  unfold fX11_looksAtHeads
  rw [lt_v]
  refine Eq.trans e ?_
  rw [hσ]
  generalize lq1 (fX11_looksAtHeads_2 373 (nI m)) fu = KK
  unfold fX11_looksAtHeads_2
  rw [rf_373_0, ln_374, gd14, cl14, t14, if_pos (nI_le (Nat.le_refl _) (by omega))]
theorem bt_pair {a b c d : Nat} (h1 : a < b) (h2 : b < 5) (h3 : c < d) (h4 : d < 5) : 5 * a + b = 5 * c + d ↔ a = c ∧ b = d := by omega
/-- what the class notes -/
def ntH (σ : Sg) (a b : Nat) (m s : Int32) : Sg := if σ 22 6 = 0 then wr (wr (wr (wr (wr (wr σ 22 5 (σ 22 5 ||| ((1 : Int32) <<< (nI (5 * a + b) &&& 31)))) 22 7 m) 22 8 s) 22 9 (nI a)) 22 10 (nI b)) 22 6 (σ 22 6 + 1) else wr (wr σ 22 5 (σ 22 5 ||| ((1 : Int32) <<< (nI (5 * a + b) &&& 31)))) 22 6 (σ 22 6 + 1)
theorem c_noteHead {σ : Sg} {a b : Nat} {m s : Int32} (hb : 5 * a + b < 25) : fX1_noteHead 22 m s (nI a) (nI b) σ = if bt (σ 22 5) (5 * a + b) = false then some ((), ntH σ a b m s) else some ((), σ) := by
  have x5 : nI a * 5 + nI b = nI (5 * a + b) := by rw [show (5 : Int32) = nI 5 from rfl, pk_mul, nI_add, Nat.mul_comm]
  unfold fX1_noteHead ntH
  simp only [lt_v, x5, bt_and1 (σ 22 5) (5 * a + b) (by omega), wr_i (show 6 ≠ 5 by decide), wr_i (show 6 ≠ 7 by decide), wr_i (show 6 ≠ 8 by decide), wr_i (show 6 ≠ 9 by decide), wr_i (show 6 ≠ 10 by decide)]
  by_cases A : bt (σ 22 5) (5 * a + b) = false
  · rw [if_pos A, if_pos A]
    split <;> rfl
  · rw [if_neg A, if_neg A]
/-- while pairs are looked at -/
def P4 (g : Nat → Int32) (E : Option (Nat × Nat × Nat)) (n nt no : Nat) (σ0 τ0 σs τs : Sg) (m a b : Nat) (σ τ : Sg) : Prop := a < b ∧ DY g E n nt no σ0 τ0 m σ τ (fun _ => m + 1) (fun _ => m + 1) ∧ HQ nt m τ ∧ FZ σs τs σ τ ∧ ∀ x y, x < y → y < nt → (x < a ∨ (x = a ∧ y < b)) → hdo τ x y → τ 394 (5 * x + y) ≠ 0
theorem heads_step {g : Nat → Int32} {E : Option (Nat × Nat × Nat)} {n nt no nf m a b : Nat} {σ0 τ0 σs τs σ τ : Sg} (hW : Wf g n nt no nf) (hO0 : On τ0 g) (hm : m ≤ 500) (hb : b < nt) (hP : P4 g E n nt no σ0 τ0 σs τs m a b σ τ) (k2c k2r : Int32 → Sg → Option (Unit × Sg)) : ∃ σ' τ', (∀ K, fX0_noteHeads_20 2 (nI m) (nI a) k2c K (nI b) σ = K (nI (b + 1)) σ') ∧ (∀ K, fX11_looksAtHeads_17 373 (nI m) (nI a) k2r K (nI b) τ = K (nI (b + 1)) τ') ∧ P4 g E n nt no σ0 τ0 σs τs m a (b + 1) σ' τ' := by
  obtain ⟨hab, hD, hH, hF, hHS⟩ := hP
  have hnt := hW.nt
  have hn : n ≤ 7 := hW.1.1.2
  have hO : On τ g := hD.1.2.on hO0
  have hL : LR σ 3 g := hD.2.1.1
  have h7 : σ 7 0 = nI nt := hL.1.2.1.trans hW.2.1.2.1
  obtain ⟨ha, pa, wa, ba, la, hRa, hCa, hGa, -⟩ := hD.2.2.2.2 a (by omega)
  obtain ⟨hb', pb, wb, bb, lb, hRb, hCb, hGb, -⟩ := hD.2.2.2.2 b hb
  obtain ⟨hha, hpa⟩ := TrG_p hn hGa
  obtain ⟨hhb, hpb⟩ := TrG_p hn hGb
  have hwa := wTrG hGa
  have hwb := wTrG hGb
  have e1 := c_isInSection (σ := σ) (t := a) (by omega) hha hpa hCa.1.1
  have e2 : ∀ K, fX0_noteHeads_20 2 (nI m) (nI a) k2c K (nI b) σ = if ha = 2 then (if σ 30 a = σ 30 b then (if σ 31 a = σ 31 b then K (nI (b + 1)) σ else bd (fX1_noteHead 22 (nI m) (σ 30 a - 100) (nI a) (nI b) σ) fun _ ρ => K (nI (b + 1)) ρ) else K (nI (b + 1)) σ) else K (nI (b + 1)) σ := by
    intro K
    unfold fX0_noteHeads_20 fX0_noteHeads_91
    simp only [lt_v, rf_2_0, rf_2_1, rf_2_6, rf_2_7, rf_3_1, ln_30, ln_31, h7, if_neg (nle_of hb (show nt < 2 ^ 31 by omega)), e1, bd_v, gd5 (show a < 5 by omega), gd5 (show b < 5 by omega), nI_cl (show a < 2147483648 by omega), nI_cl (show b < 2147483648 by omega), nI_1]
    by_cases A : ha = 2
    · rw [if_pos A, if_pos A, if_neg (by decide)]
    · rw [if_neg A, if_neg A, if_pos rfl]
  have hdo_iff : hdo τ a b ↔ ha = 2 ∧ σ 30 a = σ 30 b ∧ ¬ σ 31 a = σ 31 b := by
    unfold hdo
    rw [hRa.1.1, hRb.1.1, hRa.1.2.2, hRb.1.2.2, hCa.1.1, hCb.1.1, hCa.1.2.1, hCb.1.2.1, show (2 : Int32) = nI 2 from rfl, h_eq hha (by decide), h_eq hhb (by decide)]
    constructor
    · rintro ⟨q1, q2, q3, q4⟩
      subst q1; subst q2
      rw [hRa.1.2.1 (Or.inr rfl), hRb.1.2.1 (Or.inr rfl)] at q3
      have := (nI_eq (by have := hpa (Or.inr rfl); omega) (by have := hpb (Or.inr rfl); omega)).mp q3
      exact ⟨rfl, by rw [this], q4⟩
    · rintro ⟨q1, q2, q3⟩
      subst q1
      have hpa' := hpa (Or.inr rfl)
      have x1 : plc 2 pa = 100 + pa := rfl
      rw [x1] at q2
      rcases plc_c hhb hpb with ⟨h0, q⟩ | ⟨h0, q5, q⟩ | ⟨h0, q5, q⟩ | ⟨h0, q⟩
      · rw [q] at q2; have := (nI_eq (by omega) (by omega)).mp q2; omega
      · rw [q] at q2; have := (nI_eq (by omega) (by omega)).mp q2; omega
      · rw [q] at q2; have := (nI_eq (by omega) (by omega)).mp q2
        refine ⟨rfl, h0, ?_, q3⟩
        rw [hRa.1.2.1 (Or.inr rfl), hRb.1.2.1 (Or.inr h0)]
        congr 1; omega
      · rw [q] at q2; have := (nI_eq (by omega) (by omega)).mp q2; omega
  have hPR := hD.2.2.1.2.1.1 a b hab hb
  have hHD := hD.2.2.1.2.1.2
  have done : (hdo τ a b → τ 394 (5 * a + b) ≠ 0) → P4 g E n nt no σ0 τ0 σs τs m a (b + 1) σ τ := by
    intro q
    refine ⟨by omega, hD, hH, hF, fun x y h1 h2 h3 h4 => ?_⟩
    by_cases z : x = a ∧ y = b
    · obtain ⟨rfl, rfl⟩ := z; exact q h4
    · exact hHS x y h1 h2 (by omega) h4
  by_cases A : hdo τ a b ∧ τ 394 (5 * a + b) = 0
  · obtain ⟨A1, A2⟩ := A
    obtain ⟨q1, q2, q3⟩ := hdo_iff.mp A1
    subst q1
    have hbt : bt (σ 22 5) (5 * a + b) = false := by
      rcases hq : bt (σ 22 5) (5 * a + b) with _ | _
      · rfl
      · exact absurd A2 (hPR.mp hq)
    have hpa' := hpa (Or.inr rfl)
    have x1 : σ 30 a - 100 = nI pa := by
      rw [hCa.1.1, show plc 2 pa = 100 + pa from rfl, show (100 : Int32) = nI 100 from rfl, pk_sub (by omega)]; congr 1; omega
    have h382 : τ 382 a = nI pa := hRa.1.2.1 (Or.inr rfl)
    have hlater : (if τ 384 a ≤ τ 384 b then τ 384 b else τ 384 a) = nI m := by
      have hb2 : hb' = 2 := by
        have := A1.2.1
        rw [hRb.1.1, show (2 : Int32) = nI 2 from rfl, h_eq hhb (by decide)] at this
        exact this
      subst hb2
      have la1 : τ 384 a = nI la := hRa.2.1.2 rfl
      have lb1 : τ 384 b = nI lb := hRb.2.1.2 rfl
      obtain ⟨f, d, -, -, -, -, y⟩ := hGa
      have l1 : la < m + 1 := (y rfl).1.2.2
      obtain ⟨f', d', -, -, -, -, y'⟩ := hGb
      have l2 : lb < m + 1 := (y' rfl).1.2.2
      clear y y'
      have := (hH a b hab hb A1.1 A1.2.1 A1.2.2.1 A1.2.2.2).resolve_left (fun q => q A2)
      rw [la1, lb1, nI_eq (by omega) (by omega), nI_eq (by omega) (by omega)] at this
      rw [la1, lb1]
      by_cases z : la ≤ lb
      · rw [if_pos (nI_le z (by omega))]; congr 1; omega
      · rw [if_neg (nle_of (by omega) (by omega))]; congr 1; omega
    have rr : ∀ K, fX11_looksAtHeads_17 373 (nI m) (nI a) k2r K (nI b) τ = K (nI (b + 1)) (if τ 373 25 = 0 then wr (wr (wr (wr (wr (wr (wr τ 394 (5 * a + b) 1) 373 26 (nI m)) 373 27 (nI pa)) 373 28 (nI a)) 373 29 (nI b)) 373 30 (nI m)) 373 25 (τ 373 25 + 1) else wr (wr τ 394 (5 * a + b) 1) 373 25 (τ 373 25 + 1)) := by
      intro K
      rcases r_hd (m := m) hW hO hab hb k2r K with ⟨h, -⟩ | ⟨-, h⟩
      · exact absurd ⟨A1, A2⟩ h
      · rw [h, h382, hlater]
        by_cases z : τ 373 25 = 0
        · rw [if_pos z, if_pos z]
        · rw [if_neg z, if_neg z]
    refine ⟨ntH σ a b (nI m) (nI pa), _, fun K => by rw [e2 K, if_pos rfl, if_pos q2, if_neg q3, x1, c_noteHead (by omega), if_pos hbt, bd_v], rr, ?_⟩
    generalize hτ' : (if τ 373 25 = 0 then wr (wr (wr (wr (wr (wr (wr τ 394 (5 * a + b) 1) 373 26 (nI m)) 373 27 (nI pa)) 373 28 (nI a)) 373 29 (nI b)) 373 30 (nI m)) 373 25 (τ 373 25 + 1) else wr (wr τ 394 (5 * a + b) 1) 373 25 (τ 373 25 + 1)) = τ'
    generalize hσ' : ntH σ a b (nI m) (nI pa) = σ'
    have u1 : ∀ c i, ¬ (c = 22 ∧ 5 ≤ i ∧ i ≤ 10) → σ' c i = σ c i := by
      intro c i hc
      rw [← hσ']
      unfold ntH wr
      by_cases z : σ 22 6 = 0
      · rw [if_pos z, if_neg (by omega), if_neg (by omega), if_neg (by omega), if_neg (by omega), if_neg (by omega), if_neg (by omega)]
      · rw [if_neg z, if_neg (by omega), if_neg (by omega)]
    have u2 : σ' 22 5 = σ 22 5 ||| ((1 : Int32) <<< (nI (5 * a + b) &&& 31)) := by
      rw [← hσ']
      unfold ntH
      by_cases z : σ 22 6 = 0
      · rw [if_pos z, wr_i (by decide), wr_i (by decide), wr_i (by decide), wr_i (by decide), wr_i (by decide), wr_eq]
      · rw [if_neg z, wr_i (by decide), wr_eq]
    have u3 : σ' 22 6 = σ 22 6 + 1 := by
      rw [← hσ']
      unfold ntH
      by_cases z : σ 22 6 = 0
      · rw [if_pos z, wr_eq]
      · rw [if_neg z, wr_eq]
    have y1 : ∀ c i, ¬ (c = 394 ∧ i = 5 * a + b) → ¬ (c = 373 ∧ 25 ≤ i ∧ i ≤ 30) → τ' c i = τ c i := by
      intro c i hc hc2
      rw [← hτ']
      by_cases z : τ 373 25 = 0
      · rw [if_pos z]
        unfold wr
        rw [if_neg (by omega), if_neg (by omega), if_neg (by omega), if_neg (by omega), if_neg (by omega), if_neg (by omega), if_neg hc]
      · rw [if_neg z]
        unfold wr
        rw [if_neg (by omega), if_neg hc]
    have y2 : τ' 394 (5 * a + b) = 1 := by
      rw [← hτ']
      by_cases z : τ 373 25 = 0
      · rw [if_pos z, wr_c (by decide), wr_c (by decide), wr_c (by decide), wr_c (by decide), wr_c (by decide), wr_c (by decide), wr_eq]
      · rw [if_neg z, wr_c (by decide), wr_eq]
    have y3 : τ' 373 25 = τ 373 25 + 1 := by
      rw [← hτ']
      by_cases z : τ 373 25 = 0
      · rw [if_pos z, wr_eq]
      · rw [if_neg z, wr_eq]
    have hmet : ∀ x y, x < y → y < nt → (hdo τ' x y ↔ hdo τ x y) := by
      intro x y h1 h2
      unfold hdo
      rw [y1 _ _ (by omega) (by omega), y1 _ _ (by omega) (by omega), y1 _ _ (by omega) (by omega), y1 _ _ (by omega) (by omega), y1 _ _ (by omega) (by omega), y1 _ _ (by omega) (by omega)]
    refine ⟨by omega, DY_hd hnt hD u1 (fun c i q1 q2 => y1 c i (by omega) q2) (fun x y h1 h2 => ?_) ?_, fun x y h1 h2 v1 v2 v3 v4 => ?_, ⟨fun i => ?_, ?_, fun i => ?_⟩, fun x y h1 h2 h3 h4 => ?_⟩
    · rw [u2, bt_set _ _ _ (by omega) (by omega), Bool.or_eq_true, decide_eq_true_eq, bt_pair hab (by omega) h1 (by omega)]
      by_cases z : a = x ∧ b = y
      · obtain ⟨rfl, rfl⟩ := z
        rw [y2]
        exact ⟨fun _ => by decide, fun _ => Or.inr ⟨rfl, rfl⟩⟩
      · rw [y1 _ _ (by omega) (by omega)]
        exact ⟨fun q => (hD.2.2.1.2.1.1 x y h1 h2).mp (q.resolve_right z), fun q => Or.inl ((hD.2.2.1.2.1.1 x y h1 h2).mpr q)⟩
    · refine ⟨by rw [u3, y3, hHD.1], fun _ => ?_⟩
      by_cases z : τ 373 25 = 0
      · have z' : σ 22 6 = 0 := by rw [hHD.1, z]
        rw [if_pos z] at hτ'
        have hσ2 := hσ'
        unfold ntH at hσ2
        rw [if_pos z'] at hσ2
        have e26 : τ' 373 26 = nI m := by rw [← hτ', wr_i (by decide), wr_i (by decide), wr_i (by decide), wr_i (by decide), wr_i (by decide), wr_eq]
        have e28 : τ' 373 28 = nI a := by rw [← hτ', wr_i (by decide), wr_i (by decide), wr_i (by decide), wr_eq]
        have e29 : τ' 373 29 = nI b := by rw [← hτ', wr_i (by decide), wr_i (by decide), wr_eq]
        refine ⟨⟨?_, ?_, ?_, ?_⟩, ?_, ⟨m, hm, e26⟩, a, b, hab, hb, e28, e29⟩
        · rw [e26, ← hσ2, wr_i (by decide), wr_i (by decide), wr_i (by decide), wr_i (by decide), wr_eq]
        · rw [← hτ', ← hσ2, wr_i (by decide), wr_i (by decide), wr_i (by decide), wr_eq, wr_i (by decide), wr_i (by decide), wr_i (by decide), wr_i (by decide), wr_eq]
        · rw [e28, ← hσ2, wr_i (by decide), wr_i (by decide), wr_eq]
        · rw [e29, ← hσ2, wr_i (by decide), wr_eq]
        · rw [e26, ← hτ', wr_i (by decide), wr_eq]
      · have z' : ¬ σ 22 6 = 0 := by rw [hHD.1]; exact z
        rw [if_neg z] at hτ'
        have hσ2 := hσ'
        unfold ntH at hσ2
        rw [if_neg z'] at hσ2
        have k1 : ∀ i, i ≠ 25 → τ' 373 i = τ 373 i := fun i hi => by rw [← hτ', wr_i hi, wr_c (by decide)]
        have k2 : ∀ i, i ≠ 6 → i ≠ 5 → σ' 22 i = σ 22 i := fun i h6 h5 => by rw [← hσ2, wr_i h6, wr_i h5]
        rw [k1 26 (by decide), k1 27 (by decide), k1 28 (by decide), k1 29 (by decide), k1 30 (by decide), k2 7 (by decide) (by decide), k2 8 (by decide) (by decide), k2 9 (by decide) (by decide), k2 10 (by decide) (by decide)]
        exact hHD.2 z
    · by_cases z : a = x ∧ b = y
      · obtain ⟨rfl, rfl⟩ := z
        exact Or.inl (by rw [y2]; decide)
      · rw [y1 381 x (by omega) (by omega)] at v1
        rw [y1 381 y (by omega) (by omega)] at v2
        rw [y1 382 x (by omega) (by omega), y1 382 y (by omega) (by omega)] at v3
        rw [y1 383 x (by omega) (by omega), y1 383 y (by omega) (by omega)] at v4
        rw [y1 _ _ (by omega) (by omega), y1 384 x (by omega) (by omega), y1 384 y (by omega) (by omega)]
        exact hH x y h1 h2 v1 v2 v3 v4
    · rw [u1 _ _ (by omega), u1 _ _ (by omega)]; exact hF.1 i
    · rw [u1 _ _ (by omega)]; exact hF.2.1
    · rw [y1 _ _ (by omega) (by omega), y1 _ _ (by omega) (by omega)]; exact hF.2.2 i
    · by_cases z : x = a ∧ y = b
      · obtain ⟨rfl, rfl⟩ := z
        rw [y2]; decide
      · rw [y1 _ _ (by omega) (by omega)]
        exact hHS x y h1 h2 (by omega) ((hmet x y h1 h2).mp h4)
  · have rr : ∀ K, fX11_looksAtHeads_17 373 (nI m) (nI a) k2r K (nI b) τ = K (nI (b + 1)) τ := by
      intro K
      rcases r_hd (m := m) hW hO hab hb k2r K with ⟨-, h⟩ | ⟨h, -⟩
      · exact h
      · exact absurd h A
    refine ⟨σ, τ, fun K => ?_, rr, done (fun q z => A ⟨q, z⟩)⟩
    rw [e2 K]
    by_cases B1 : ha = 2
    · rw [if_pos B1]
      by_cases B2 : σ 30 a = σ 30 b
      · rw [if_pos B2]
        by_cases B3 : σ 31 a = σ 31 b
        · rw [if_pos B3]
        · rw [if_neg B3]
          have hh := hdo_iff.mpr ⟨B1, B2, B3⟩
          have hn0 : τ 394 (5 * a + b) ≠ 0 := fun z => A ⟨hh, z⟩
          rw [c_noteHead (by omega), if_neg (by rw [hPR.mpr hn0]; decide), bd_v]
      · rw [if_neg B2]
    · rw [if_neg B1]
