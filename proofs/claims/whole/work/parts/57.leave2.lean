/-! PURE: the third pass of a minute: leavings -/
theorem nar_b : ∀ r, r < 6 → vp_nar .byte ((nI r).toInt8.toInt32) = nI r := by decide +kernel
theorem nar_bm : vp_nar .byte ((-1 : Int32).toInt8.toInt32) = -1 := by decide +kernel
theorem i501 (t s : Nat) : nI t * 501 + nI s = nI (501 * t + s) := by rw [show (501 : Int32) = nI 501 from rfl, pk_mul, nI_add, Nat.mul_comm]
theorem j501 (t s : Nat) : (501 : Int32) * nI t + nI s = nI (501 * t + s) := by rw [show (501 : Int32) = nI 501 from rfl, pk_mul, nI_add]
theorem c_noteReason {σ : Sg} {t m : Nat} {v : Int32} (ht : t < 5) (hm : m ≤ 500) : fX1_noteReason 22 (nI t) (nI m) v σ = some ((), wr σ 24 (501 * t + m) (vp_nar .byte (v.toInt8.toInt32))) := by
  unfold fX1_noteReason
  simp only [lt_v, i501, rf_22_2, ln_24, gd_in (show 501 * t + m < 2505 by omega) (show 2505 < 2147483648 by decide), nI_cl (show 501 * t + m < 2147483648 by omega)]
theorem c_isAtStation {σ : Sg} {t h p : Nat} (ht : t < 5) (hh : h ≤ 3) (hp : h = 1 ∨ h = 2 → p < 7) (e : σ 30 t = nI (plc h p)) : fX0_isAtStation 2 (nI t) σ = some (if h = 1 then 1 else 0, σ) := by
  unfold fX0_isAtStation
  rw [rf_2_6, ln_30, gd5 ht, nI_cl (by omega), e]
  rcases plc_c hh hp with ⟨rfl, q⟩ | ⟨rfl, q1, q⟩ | ⟨rfl, q1, q⟩ | ⟨rfl, q⟩
  · rw [q]; rfl
  · rw [q, if_neg (show ¬ (100 : Int32) ≤ nI p from nle_of (a := 100) (by omega) (by decide))]; rfl
  · rw [q, if_pos (show (100 : Int32) ≤ nI (100 + p) from nI_le (a := 100) (by omega) (by omega))]; rfl
  · rw [q]; rfl
theorem TrG_mono {g : Nat → Int32} {n m1 m2 m1' m2' t h p w b l : Nat} (h1 : m1 ≤ m1') (h2 : m2' ≤ m2) (hG : TrG g n t m1 m2 h p w b l) : TrG g n t m1' m2' h p w b l := by
  obtain ⟨f, d, b1, b2, b3, b4, b5⟩ := hG
  refine ⟨f, d, b1, b2, b3, b4, fun q => ?_⟩
  obtain ⟨c1, v, c2, c3, c4, c5⟩ := b5 q
  exact ⟨⟨c1.1, c1.2.1, by omega⟩, v, c2, c3, c4, by omega⟩
/-- before train i is asked -/
def P3 (g : Nat → Int32) (E : Option (Nat × Nat × Nat)) (n nt no : Nat) (σ0 τ0 : Sg) (m i : Nat) (v : Int32) (σ τ : Sg) : Prop := ((v = 0 ∧ DY g E n nt no σ0 τ0 m σ τ (fun _ => m) (fun _ => m + 1)) ∨ (v = 1 ∧ DY g E n nt no σ0 τ0 m σ τ (fun _ => m + 1) (fun _ => m + 1))) ∧ HQ nt m τ ∧ DA nt m σ τ ∧ (∀ x, x < i → RS σ τ (501 * x + m)) ∧ σ 22 0 = nI m
theorem leave_step {g : Nat → Int32} {E : Option (Nat × Nat × Nat)} {n nt no nf m t : Nat} {v : Int32} {σ0 τ0 σ τ : Sg} (hW : Wf g n nt no nf) (hX : Xok E n nt) (hO0 : On τ0 g) (hM0 : MoE τ0 E) (hm : m ≤ 500) (ht : t < nt) (hP : P3 g E n nt no σ0 τ0 m t v σ τ) (K6 : Int32 → Sg → Option (Unit × Sg)) : ∃ v' σ' τ', (∀ K, fX0_letLeave_4 2 (nI m) K v (nI t) σ = K v' (nI (t + 1)) σ') ∧ (∀ K, fX11_runs_123 373 (nI m) K6 K (nI t) τ = K (nI (t + 1)) τ') ∧ P3 g E n nt no σ0 τ0 m (t + 1) v' σ' τ' := by
  obtain ⟨hV, hH, hA, hRS, h22⟩ := hP
  obtain ⟨M1, hM1, hD, hback⟩ : ∃ M1 : Nat → Nat, (∀ x, M1 x ≤ m + 1) ∧ DY g E n nt no σ0 τ0 m σ τ M1 (fun _ => m + 1) ∧ ∀ σ' τ', DY g E n nt no σ0 τ0 m σ' τ' M1 (fun _ => m + 1) → ((v = 0 ∧ DY g E n nt no σ0 τ0 m σ' τ' (fun _ => m) (fun _ => m + 1)) ∨ (v = 1 ∧ DY g E n nt no σ0 τ0 m σ' τ' (fun _ => m + 1) (fun _ => m + 1))) := by
    rcases hV with ⟨h1, h2⟩ | ⟨h1, h2⟩
    · exact ⟨_, fun x => Nat.le_succ m, h2, fun σ' τ' h => Or.inl ⟨h1, h⟩⟩
    · exact ⟨_, fun x => Nat.le_refl _, h2, fun σ' τ' h => Or.inr ⟨h1, h⟩⟩
  clear hV
  have hnt := hW.nt
  have hn : n ≤ 7 := hW.1.1.2
  have hO : On τ g := hD.1.2.on hO0
  have hMo : MoE τ E := hD.1.2.mo hM0
  have t14 := hO.nt hW
  have hL : LR σ 3 g := hD.2.1.1
  have h7 : σ 7 0 = nI nt := hL.1.2.1.trans hW.2.1.2.1
  have hT := hD.2.2.2.2
  obtain ⟨h, p, w, b, l, hR, hC, hG, hS⟩ := hT t ht
  obtain ⟨hh, hp⟩ := TrG_p hn hG
  have hr1 := hR.1.1
  have e1 := c_isAtStation (σ := σ) (t := t) (by omega) hh hp hC.1.1
  obtain ⟨⟨p0, -⟩, -⟩ := rf_pap t (show t < 5 by omega)
  -- rows of reasons
  have rows : ∀ (σ1 τ1 : Sg) (r r' : Int32), (r = (if r' = -100006 then -1 else r') ∧ r' ≠ -1) → (∀ i, σ1 23 i = σ 23 i) → (∀ i, σ1 24 i = wr σ 24 (501 * t + m) r 24 i) → (∀ i, τ1 389 i = τ 389 i) → (∀ i, τ1 390 i = wr τ 390 (501 * t + m) r' 390 i) → DA nt m σ1 τ1 ∧ ∀ x, x < t + 1 → RS σ1 τ1 (501 * x + m) := by
    intro σ1 τ1 r r' hr k1 k2 k3 k4
    refine ⟨fun x m' hx hm' => ?_, fun x hx => ?_⟩
    · unfold RS
      rw [k1, k2, k3, k4, wr_i (by omega), wr_i (by omega)]
      exact hA x m' hx hm'
    · unfold RS
      rw [k2, k4]
      by_cases z : x = t
      · subst z
        rw [wr_eq, wr_eq]
        exact hr
      · rw [wr_i (by omega), wr_i (by omega)]
        exact hRS x (by omega)
  by_cases A : h = 1
  · subst A
    obtain ⟨f, ef, hf⟩ : ∃ f : Sg, f = wr τ 390 (501 * t + m) (-100006) ∧ ∀ c i, c ≠ 380 → c ≠ 389 → c ≠ 390 → f c i = τ c i := ⟨_, rfl, fun c i q1 q2 q3 => wr_c q3⟩
    obtain ⟨σ1, b1, b2, b3, b4, b5⟩ := e6_bringUpTo hL hW hX ht hm (hD.2.1.2 t ht).2.2 (hD.2.2.2.1 t ht)
    have hX1 : ∀ x i, x < 5 → i < 3 → σ1 (37 + 4 * x) i = σ (37 + 4 * x) i := by
      intro x i hx hi
      by_cases z : x = t
      · subst z
        obtain ⟨o1, o2, o3⟩ := (hD.2.1.2 x ht).2.2
        obtain ⟨n1, n2, n3⟩ := b4
        rcases (by omega : i = 0 ∨ i = 1 ∨ i = 2) with rfl | rfl | rfl
        · rw [n1, o1]
        · rw [n2, o2]
        · rw [n3, o3]
      · exact b5 _ _ (by omega)
    have hD1 : DY g E n nt no σ0 τ0 m σ1 f M1 (fun _ => m + 1) := DY_pap hnt hD (fun c i q1 q2 q3 q4 => b5 c i (by omega)) hX1 (fun x hx => by
      by_cases z : x = t
      · subst z; exact b3
      · exact PO_congr (fun c q1 q2 => funext fun i => b5 c i (by omega)) (hD.2.2.2.1 x hx)) hf
    have hH1 : HQ nt m f := HQ_c hf hH
    have hR1 : TrR f t 1 p w b l := by
      unfold TrR at *
      rw [hf _ _ (by decide) (by decide) (by decide), hf _ _ (by decide) (by decide) (by decide), hf _ _ (by decide) (by decide) (by decide), hf _ _ (by decide) (by decide) (by decide), hf _ _ (by decide) (by decide) (by decide), hf _ _ (by decide) (by decide) (by decide)]
      exact hR
    have hC1 : TrC g σ1 t 1 p w b l := by
      unfold TrC at *
      rw [b5 _ _ (by omega), b5 _ _ (by omega), b5 _ _ (by omega), b5 _ _ (by omega), b5 _ _ (by omega), b5 _ _ (by omega)]
      exact hC
    have hS1 : TrS σ1 f t 1 w b := by
      unfold TrS at *
      have q1 : ∀ q, f 392 q = τ 392 q := fun q => hf _ _ (by decide) (by decide) (by decide)
      have q2 : ∀ q, f 393 q = τ 393 q := fun q => hf _ _ (by decide) (by decide) (by decide)
      have q3 : ∀ q, σ1 35 q = σ 35 q := fun q => b5 _ _ (by omega)
      simp only [q1, q2, q3]
      exact hS
    have hO1 : On f g := hD1.1.2.on hO0
    have hMo1 : MoE f E := hD1.1.2.mo hM0
    obtain ⟨fr, hfr, fe1, fe2⟩ := forced_same (τ := f) (t := t) (m := m) hW hD1.2.1.1 hO1 ht hm
    -- the reason
    obtain ⟨r, ρ, hr5, hρ, z1, z2⟩ : ∃ r ρ, r ≤ 5 ∧ (∀ c i, c ≠ 380 → ρ c i = f c i) ∧ (∀ K, fX0_letLeave_4 2 (nI m) K v (nI t) σ = fX0_letLeave_70 2 (nI m) v (nI t) (nI r) K σ1) ∧ (∀ K, fX11_runs_123 373 (nI m) K6 K (nI t) τ = fX11_runs_187 373 (nI m) (nI t) (nI (501 * t + m)) (nI r) (nI (501 * t + m)) 390 K6 K ρ) := by
      have hcl : ∀ K, fX0_letLeave_4 2 (nI m) K v (nI t) σ = (if fr = 0 then bd (fX0_whyNot 2 (nI t) (nI m) σ1) fun r ρ => fX0_letLeave_70 2 (nI m) v (nI t) r K ρ else fX0_letLeave_70 2 (nI m) v (nI t) 0 K σ1) := by
        intro K
        unfold fX0_letLeave_4 fX0_letLeave_68
        simp only [lt_v, rf_2_0, rf_2_3, rf_3_1, rf_3_2, ln_27, h7, if_neg (nle_of ht (show nt < 2 ^ 31 by omega)), e1, if_true, bd_v, if_neg (show ¬ (1 : Int32) = 0 by decide), gd5 (show t < 5 by omega), nI_cl (show t < 2147483648 by omega), p0, b1, fe1]
      have hrl : ∀ K, fX11_runs_123 373 (nI m) K6 K (nI t) τ = (if fr = 0 then bd (fX11_whyNot 373 (nI t) (nI m) f) fun r ρ => fX11_runs_187 373 (nI m) (nI t) (nI (501 * t + m)) r (nI (501 * t + m)) 390 K6 K ρ else fX11_runs_187 373 (nI m) (nI t) (nI (501 * t + m)) 0 (nI (501 * t + m)) 390 K6 K f) := by
        intro K
        unfold fX11_runs_123
        simp only [lt_v, rf_373_0, ln_374, gd14, cl14, t14, if_neg (nle_of ht (show nt < 2 ^ 31 by omega)), j501, rf_373_20, ln_390, gd_in (show 501 * t + m < 2505 by omega) (show 2505 < 2147483648 by decide), nI_cl (show 501 * t + m < 2147483648 by omega), rf_373_11, ln_381, gd5 (show t < 5 by omega), nI_cl (show t < 2147483648 by omega), wr_c (show 381 ≠ 390 by decide), hr1]
        rw [if_pos (show nI 1 = 1 from rfl), ← ef, fe2 f rfl, bd_v]
      rcases hfr with rfl | rfl
      · obtain ⟨r, ρ, w1, w2, w3, w4⟩ := why_same (m1 := m + 1) (m2 := m + 1) hW hX hO1 hMo1 hD1.2.1 (fun o ho => Tr_mono (hM1 o) (Nat.le_refl _) (hD1.2.2.2.2 o ho)) b2 hD1.2.2.1.1.2.2 hm ht hR1 hC1 (TrG_mono (hM1 t) (Nat.le_refl _) hG)
        exact ⟨r, ρ, w3, w4, fun K => by rw [hcl K, if_pos rfl, w1, bd_v], fun K => by rw [hrl K, if_pos rfl, w2, bd_v]⟩
      · exact ⟨0, f, by decide, fun c i _ => rfl, fun K => by rw [hcl K, if_neg (by decide)]; rfl, fun K => by rw [hrl K, if_neg (by decide)]; rfl⟩
    -- write the reason
    have a1 : ∀ K, fX0_letLeave_70 2 (nI m) v (nI t) (nI r) K σ1 = if r = 0 then bd (fX0_leave 2 (nI t) (nI m) (wr σ1 24 (501 * t + m) (nI r))) fun _ ρ => K 1 (nI (t + 1)) ρ else K v (nI (t + 1)) (wr σ1 24 (501 * t + m) (nI r)) := by
      intro K
      unfold fX0_letLeave_70 fX0_letLeave_94
      rw [rf_2_1, c_noteReason (by omega) hm, bd_v, nar_b r (by omega)]
      simp only [lt_v, nI_1]
      by_cases B : r = 0
      · rw [if_pos (show nI r = 0 by rw [B]; rfl), if_pos B]
      · rw [if_neg (show ¬ nI r = 0 from nI_ne0 (by omega) (by omega)), if_neg B]
    have a2 : ∀ K, fX11_runs_187 373 (nI m) (nI t) (nI (501 * t + m)) (nI r) (nI (501 * t + m)) 390 K6 K ρ = if r = 0 then bd (fX11_goes 373 (nI t) (nI m) (wr ρ 390 (501 * t + m) (nI r))) fun _ ρ => K (nI (t + 1)) ρ else K (nI (t + 1)) (wr ρ 390 (501 * t + m) (nI r)) := by
      intro K
      unfold fX11_runs_187 fX11_runs_203
      simp only [lt_v, rf_373_20, ln_390, gd_in (show 501 * t + m < 2505 by omega) (show 2505 < 2147483648 by decide), nI_cl (show 501 * t + m < 2147483648 by omega), wr_eq, nI_1]
      by_cases B : r = 0
      · rw [if_pos (show nI r = 0 by rw [B]; rfl), if_pos B]
      · rw [if_neg (show ¬ nI r = 0 from nI_ne0 (by omega) (by omega)), if_neg B]
    generalize hσ2 : wr σ1 24 (501 * t + m) (nI r) = σ2 at a1
    generalize hτ2 : wr ρ 390 (501 * t + m) (nI r) = τ2 at a2
    have k1 : ∀ c i, c ≠ 24 → σ2 c i = σ1 c i := fun c i hc => by rw [← hσ2, wr_c hc]
    have k2 : ∀ c i, c ≠ 380 → c ≠ 389 → c ≠ 390 → τ2 c i = f c i := fun c i q1 q2 q3 => by rw [← hτ2, wr_c q3, hρ c i q1]
    have hD2 : DY g E n nt no σ0 τ0 m σ2 τ2 M1 (fun _ => m + 1) := DY_pap hnt hD1 (fun c i q1 q2 q3 q4 => k1 c i q3) (fun x i hx hi => k1 _ _ (by omega)) (fun x hx => PO_congr (fun c q1 q2 => funext fun i => k1 c i (by omega)) (hD1.2.2.2.1 x hx)) k2
    have hH2 : HQ nt m τ2 := HQ_c k2 hH1
    have h24 : ∀ i, σ2 24 i = wr σ 24 (501 * t + m) (nI r) 24 i := fun i => by
      rw [← hσ2]
      unfold wr
      rw [b5 24 i (by omega)]
    have h23 : ∀ i, σ2 23 i = σ 23 i := fun i => by rw [k1 _ _ (by decide), b5 _ _ (by omega)]
    have h390 : ∀ i, τ2 390 i = wr τ 390 (501 * t + m) (nI r) 390 i := fun i => by
      rw [← hτ2]
      by_cases z : i = 501 * t + m
      · subst z; rw [wr_eq, wr_eq]
      · rw [wr_i z, wr_i z, hρ _ _ (by decide), ef, wr_i z]
    have h389 : ∀ i, τ2 389 i = τ 389 i := fun i => by rw [← hτ2, wr_c (by decide), hρ _ _ (by decide), ef, wr_c (by decide)]
    have hrr : nI r = (if nI r = -100006 then -1 else nI r) ∧ nI r ≠ -1 := by
      refine ⟨?_, nI_m1 (by omega)⟩
      rw [if_neg]
      exact (by decide +kernel : ∀ r, r < 6 → ¬ nI r = -100006) r (by omega)
    have h22' : σ2 22 0 = nI m := by rw [k1 _ _ (by decide), b5 _ _ (by omega), h22]
    by_cases B : r = 0
    · have hR2 : TrR τ2 t 1 p w b l := by
        unfold TrR at *
        rw [k2 _ _ (by decide) (by decide) (by decide), k2 _ _ (by decide) (by decide) (by decide), k2 _ _ (by decide) (by decide) (by decide), k2 _ _ (by decide) (by decide) (by decide), k2 _ _ (by decide) (by decide) (by decide), k2 _ _ (by decide) (by decide) (by decide)]
        exact hR1
      have hC2 : TrC g σ2 t 1 p w b l := by
        unfold TrC at *
        rw [k1 _ _ (by decide), k1 _ _ (by decide), k1 _ _ (by decide), k1 _ _ (by decide), k1 _ _ (by decide), k1 _ _ (by decide)]
        exact hC1
      have hS2 : TrS σ2 τ2 t 1 w b := by
        unfold TrS at *
        have q1 : ∀ q, τ2 392 q = f 392 q := fun q => k2 _ _ (by decide) (by decide) (by decide)
        have q2 : ∀ q, τ2 393 q = f 393 q := fun q => k2 _ _ (by decide) (by decide) (by decide)
        have q3 : ∀ q, σ2 35 q = σ1 35 q := fun q => k1 _ _ (by decide)
        simp only [q1, q2, q3]
        exact hS1
      obtain ⟨σ3, τ3, g1, g2, g3, g4, g5, g6⟩ := go_ok hW hm hM1 hD2 hH2 ht hR2 hC2 hG hS2
      obtain ⟨d1, d2⟩ := rows σ3 τ3 (nI r) (nI r) hrr (fun i => by rw [g5 _ _ (by decide) (by decide) (by decide) (by decide), h23]) (fun i => by rw [g5 _ _ (by decide) (by decide) (by decide) (by decide), h24]) (fun i => by rw [g6 _ _ (by decide) (by decide) (by decide) (by decide) (by decide), h389]) (fun i => by rw [g6 _ _ (by decide) (by decide) (by decide) (by decide) (by decide), h390])
      refine ⟨1, σ3, τ3, fun K => by rw [z1 K, a1 K, if_pos B, g1, bd_v], fun K => by rw [z2 K, a2 K, if_pos B, g2, bd_v], Or.inr ⟨rfl, g3⟩, g4, d1, d2, ?_⟩
      rw [g5 _ _ (by decide) (by decide) (by decide) (by decide), h22']
    · obtain ⟨d1, d2⟩ := rows σ2 τ2 (nI r) (nI r) hrr h23 h24 h389 h390
      exact ⟨v, σ2, τ2, fun K => by rw [z1 K, a1 K, if_neg B], fun K => by rw [z2 K, a2 K, if_neg B], hback _ _ hD2, hH2, d1, d2, h22'⟩
  · have a1 : ∀ K, fX0_letLeave_4 2 (nI m) K v (nI t) σ = K v (nI (t + 1)) (wr σ 24 (501 * t + m) (-1)) := by
      intro K
      unfold fX0_letLeave_4 fX0_letLeave_70 fX0_letLeave_94
      rw [rf_2_0, rf_3_1, h7, if_neg (nle_of ht (show nt < 2 ^ 31 by omega)), lt_v, e1, bd_v, if_neg A, if_pos rfl, rf_2_1, c_noteReason (by omega) hm, bd_v, nar_bm, if_neg (by decide), lt_v, nI_1]
    have a2 : ∀ K, fX11_runs_123 373 (nI m) K6 K (nI t) τ = K (nI (t + 1)) (wr τ 390 (501 * t + m) (-100006)) := by
      intro K
      unfold fX11_runs_123 fX11_runs_203
      simp only [lt_v, rf_373_0, ln_374, gd14, cl14, t14, if_neg (nle_of ht (show nt < 2 ^ 31 by omega)), j501, rf_373_20, ln_390, gd_in (show 501 * t + m < 2505 by omega) (show 2505 < 2147483648 by decide), nI_cl (show 501 * t + m < 2147483648 by omega), rf_373_11, ln_381, gd5 (show t < 5 by omega), nI_cl (show t < 2147483648 by omega), wr_c (show 381 ≠ 390 by decide), hr1, nI_1]
      rw [if_neg (show ¬ nI h = 1 from fun q => A ((h_eq (k := 1) hh (by decide)).mp q))]
    have hf : ∀ c i, c ≠ 380 → c ≠ 389 → c ≠ 390 → wr τ 390 (501 * t + m) (-100006) c i = τ c i := fun c i q1 q2 q3 => wr_c q3
    obtain ⟨d1, d2⟩ := rows (wr σ 24 (501 * t + m) (-1)) (wr τ 390 (501 * t + m) (-100006)) (-1) (-100006) ⟨by rw [if_pos rfl], by decide⟩ (fun i => wr_c (by decide)) (fun i => rfl) (fun i => wr_c (by decide)) (fun i => rfl)
    refine ⟨v, _, _, a1, a2, hback _ _ (DY_pap hnt hD (fun c i q1 q2 q3 q4 => wr_c q3) (fun x i hx hi => wr_c (by omega)) (fun x hx => PO_congr (fun c q1 q2 => funext fun i => wr_c (by omega)) (hD.2.2.2.1 x hx)) hf), HQ_c hf hH, d1, d2, ?_⟩
    rw [wr_c (by decide), h22]
