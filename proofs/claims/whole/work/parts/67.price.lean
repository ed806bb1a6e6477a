/-! PURE: prices -/
/-- v is the price of a meet of a and b at s -/
def Pv (g : Nat → Int32) (nt a b s : Nat) (v : Int32) : Prop := (∀ τ, On τ g → (Mo τ (nI a) (nI b) (nI s) ∨ Mo τ (nI b) (nI a) (nI s)) → ∃ τ1, fX11_runs 373 τ = some ((), τ1) ∧ FrR τ τ1 ∧ v = 100000 * τ1 373 25 + dl (τ1 374) (τ1 385) nt) ∧ ∀ σ, LR σ 3 g → Own σ → ∃ σ1, fX0_play 2 (nI a) (nI b) (nI s) σ = some ((), σ1) ∧ FrC σ σ1 ∧ v = 100000 * σ1 22 6 + σ1 22 12
theorem Pv_ex {σ : Sg} {g : Nat → Int32} {n nt no nf a b s : Nat} (hW : Wf g n nt no nf) (hL : LR σ 3 g) (hOw : Own σ) (hO : On σ g) (hab : a < b) (hb : b < nt) (hs : s < n) : ∃ v, Pv g nt a b s v := by
  have hX : Xok (some (a, b, s)) n nt := ⟨hab, hb, hs⟩
  have hM0 : MoE (wr (wr (wr σ 373 32 (nI a)) 373 33 (nI b)) 373 34 (nI s)) (some (a, b, s)) := Or.inl ⟨by rw [wr_i (by decide), wr_i (by decide), wr_eq], by rw [wr_i (by decide), wr_eq], by rw [wr_eq]⟩
  have hO0 : On (wr (wr (wr σ 373 32 (nI a)) 373 33 (nI b)) 373 34 (nI s)) g := fun k hk => by rw [wr_c (by decide), wr_c (by decide), wr_c (by decide)]; exact hO k hk
  obtain ⟨σ1, τ1, e1, e2, h1, -, -⟩ := play_runs hW hX hL hOw hO0 hM0
  refine ⟨100000 * σ1 22 6 + σ1 22 12, fun τ q1 q2 => ?_, fun ρ q1 q2 => ?_⟩
  · obtain ⟨σ2, τ2, k1, k2, k3, -, k5⟩ := play_runs (E := some (a, b, s)) hW hX hL hOw q1 q2
    rw [e1] at k1
    obtain rfl : σ1 = σ2 := congrArg Prod.snd (Option.some.inj k1)
    exact ⟨τ2, k2, k5, by rw [k3.2.2.2.2.1, k3.2.2.2.2.2.2.2.1]⟩
  · obtain ⟨σ2, τ2, k1, k2, k3, k4, -⟩ := play_runs (E := some (a, b, s)) hW hX q1 q2 hO0 hM0
    rw [e2] at k2
    obtain rfl : τ1 = τ2 := congrArg Prod.snd (Option.some.inj k2)
    exact ⟨σ2, k1, k4, by rw [k3.2.2.2.2.1, k3.2.2.2.2.2.2.2.1, h1.2.2.2.2.1, h1.2.2.2.2.2.2.2.1]⟩
theorem Pv_is {g : Nat → Int32} {nt a b s : Nat} {v x : Int32} {τ : Sg} (hP : Pv g nt a b s v) (hO : On τ g) (hx : PrIs nt g a b s x) : x = v := by
  have hO0 : On (wr (wr (wr τ 373 32 (nI a)) 373 33 (nI b)) 373 34 (nI s)) g := fun k hk => by rw [wr_c (by decide), wr_c (by decide), wr_c (by decide)]; exact hO k hk
  have hM0 : Mo (wr (wr (wr τ 373 32 (nI a)) 373 33 (nI b)) 373 34 (nI s)) (nI a) (nI b) (nI s) := ⟨by rw [wr_i (by decide), wr_i (by decide), wr_eq], by rw [wr_i (by decide), wr_eq], by rw [wr_eq]⟩
  obtain ⟨τ1, e1, -, h⟩ := hP.1 _ hO0 (Or.inl hM0)
  rw [h]
  exact hx _ _ hO0 (Or.inl hM0) e1
theorem Pv_pr {g : Nat → Int32} {nt a b s : Nat} {v : Int32} (hP : Pv g nt a b s v) : PrIs nt g a b s v := by
  intro τ τ1 h1 h2 h3
  obtain ⟨τ2, e, -, h⟩ := hP.1 τ h1 h2
  rw [h3] at e
  obtain rfl : τ1 = τ2 := congrArg Prod.snd (Option.some.inj e)
  exact h
/-- the class while it mends: what of it stays as in σ0 -/
def MC (g : Nat → Int32) (n nt : Nat) (σ0 σ : Sg) : Prop := (∀ c i, ((c < 22 ∧ c ≠ 1 ∧ c ≠ 2) ∨ 58 ≤ c) → σ c i = σ0 c i) ∧ Own σ ∧ GoodC nt g σ ∧ GoodP n nt g σ
def MR (g : Nat → Int32) (nt : Nat) (τ0 τ : Sg) : Prop := (∀ c i, (c < 373 ∨ (374 ≤ c ∧ c < 380)) → τ c i = τ0 c i) ∧ (∀ i, i < 25 → i ≠ 9 → τ 373 i = τ0 373 i) ∧ GoodR nt g τ
def plK (a b s : Nat) : Nat := (a * 5 + b) * 7 + s
theorem pl_i {a b s : Nat} (hb : b < 5) (hs : s < 7) : plK a b s / 7 / 5 = a ∧ plK a b s / 7 % 5 = b ∧ plK a b s % 7 = s := by
  unfold plK
  omega
theorem c_lesser (k : Nat) (hk : k < 175) : (nI k / 7) / 5 = nI (k / 7 / 5) ∧ nI k / 7 - nI k / 7 / 5 * 5 = nI (k / 7 % 5) ∧ nI k - nI k / 7 * 7 = nI (k % 7) := by
  have h7 : nI k / 7 = nI (k / 7) := pk_div (d := 7) (by omega) (by decide) (by decide)
  refine ⟨?_, ?_, ?_⟩
  · rw [h7]; exact pk_div (d := 5) (by omega) (by decide) (by decide)
  · rw [h7]; exact pk_rem (d := 5) (by omega) (by decide) (by decide)
  · exact pk_rem (d := 7) (by omega) (by decide) (by decide)
theorem c_priceAt {σ0 σ : Sg} {g : Nat → Int32} {n nt no nf a b s : Nat} {v : Int32} (hW : Wf g n nt no nf) (hL0 : LR σ0 3 g) (hO0 : On σ0 g) (hM : MC g n nt σ0 σ) (hab : a < b) (hb : b < nt) (hs : s < n) (hP : Pv g nt a b s v) : ∃ σ', fX4_priceAt 1 (nI (plK a b s)) σ = some (v, σ') ∧ MC g n nt σ0 σ' := by
  have hnt := hW.nt
  have hn : n ≤ 7 := hW.1.1.2
  have hk : plK a b s < 175 := by unfold plK; omega
  obtain ⟨d1, d2, d3⟩ := pl_i (a := a) (b := b) (s := s) (by omega) (by omega)
  obtain ⟨m1, m2, m3, m4⟩ := hM
  have hL : LR σ 3 g := LR_congr (fun c q1 q2 => funext fun i => (m1 c i (by omega)).symm) hL0
  obtain ⟨i1, i2, i3⟩ := c_lesser (plK a b s) hk
  rw [d1] at i1
  rw [d2, i1] at i2
  rw [d3] at i3
  -- a price that is not known is found
  have fresh : ∀ ρ : Sg, (∀ c i, ((c < 22 ∧ c ≠ 1 ∧ c ≠ 2) ∨ 58 ≤ c) → ρ c i = σ0 c i) → Own ρ → ρ 1 3 = 1 → (∀ x y z, x < y → y < nt → z < n → ρ 57 (plK x y z) = -1 ∨ PrIs nt g x y z (ρ 57 (plK x y z))) → (ρ 57 (plK a b s) = -1 ∨ (ρ 57 (plK a b s) ≠ -1 ∧ GoodC nt g ρ)) → ∃ σ', fX4_priceAt_33 1 (nI (plK a b s)) ρ = some (v, σ') ∧ MC g n nt σ0 σ' := by
    intro ρ k1 k2 k3 k4 k5
    have hLρ : LR ρ 3 g := LR_congr (fun c q1 q2 => funext fun i => (k1 c i (by omega)).symm) hL0
    unfold fX4_priceAt_33 fX4_lesserOf fX4_greaterOf fX4_stationOf
    simp only [rf_1_2, ln_57, gd_in hk (show 175 < 2147483648 by decide), nI_cl (show plK a b s < 2147483648 by omega), rf_1_0, rf_2_1, bd_v, i1, i2, i3, lt_v, wr_eq]
    rcases k5 with q | ⟨q, q'⟩
    · rw [if_pos q]
      obtain ⟨σ1, e1, ⟨f1, f2, f3⟩, f4⟩ := hP.2 ρ hLρ k2
      rw [e1, bd_v, ← f4]
      refine ⟨_, rfl, fun c i hc => by rw [wr_c (by omega), f1 c i (by omega), k1 c i hc], fun t ht => by rw [wr_c (by omega), f2 t ht]; exact k2 t ht, Or.inl (by rw [wr_c (by decide), f3]), Or.inr ⟨by rw [wr_c (by decide), f1 _ _ (by omega), k3], fun x y z h1 h2 h3 => ?_⟩⟩
      by_cases w : plK x y z = plK a b s
      · obtain ⟨g1, g2, g3⟩ := pl_i (a := x) (b := y) (s := z) (by omega) (by omega)
        rw [w] at g1 g2 g3
        have : x = a ∧ y = b ∧ z = s := by omega
        obtain ⟨rfl, rfl, rfl⟩ := this
        right
        show PrIs nt g x y z (wr σ1 57 (plK x y z) v 57 (plK x y z))
        rw [wr_eq]
        exact Pv_pr hP
      · show wr σ1 57 (plK a b s) v 57 (plK x y z) = -1 ∨ PrIs nt g x y z (wr σ1 57 (plK a b s) v 57 (plK x y z))
        rw [wr_i w, f1 _ _ (by omega)]
        exact k4 x y z h1 h2 h3
    · rw [if_neg q]
      have hv : ρ 57 (plK a b s) = v := Pv_is hP hO0 ((k4 a b s hab hb hs).resolve_left q)
      rw [hv]
      exact ⟨ρ, rfl, k1, k2, q', Or.inr ⟨k3, k4⟩⟩
  unfold fX4_priceAt
  rw [if_neg (not_lt0 (by omega)), if_pos (show nI (plK a b s) < 175 from nI_lt (b := 175) hk (by decide))]
  rcases m4 with h0 | ⟨h1, h2⟩
  · rw [if_pos h0, rf_1_2, e_fill 57 175 _ ln_57 (by decide), bd_v, lt_v]
    refine fresh _ (fun c i hc => by rw [wr_c (by omega), upR_c (by omega), m1 c i hc]) (fun t ht => by rw [wr_c (by omega), upR_c (by omega)]; exact m2 t ht) (wr_eq _ _ _ _) (fun x y z q1 q2 q3 => Or.inl ?_) (Or.inl ?_)
    · rw [wr_c (by decide), upR_in (by omega) (by unfold plK; omega)]
    · rw [wr_c (by decide), upR_in (by omega) hk]
  · rw [if_neg (by rw [h1]; decide)]
    refine fresh σ m1 m2 h1 h2 ?_
    by_cases q : σ 57 (plK a b s) = -1
    · exact Or.inl q
    · exact Or.inr ⟨q, m3⟩
theorem r_priceOf {τ0 τ : Sg} {g : Nat → Int32} {n nt no nf a b s : Nat} {x y v : Int32} (hW : Wf g n nt no nf) (hO0 : On τ0 g) (hM : MR g nt τ0 τ) (hxy : (x = nI a ∧ y = nI b) ∨ (x = nI b ∧ y = nI a)) (hP : Pv g nt a b s v) : ∃ τ', fX11_priceOf 373 x y (nI s) τ = some (v, τ') ∧ MR g nt τ0 τ' ∧ (∀ c i, 395 ≤ c → τ' c i = τ c i) ∧ ∀ i, 35 ≤ i → τ' 373 i = τ 373 i := by
  obtain ⟨m1, m2, m3⟩ := hM
  generalize hρ : wr (wr (wr (wr τ 373 32 x) 373 33 y) 373 34 (nI s)) 373 9 0 = ρ
  have fr : ∀ c i, c ≠ 373 → ρ c i = τ c i := fun c i hc => by rw [← hρ, wr_c hc, wr_c hc, wr_c hc, wr_c hc]
  have hO : On ρ g := fun k hk => by rw [fr _ _ (by decide), m1 _ _ (by omega)]; exact hO0 k hk
  have hMo : Mo ρ x y (nI s) := ⟨by rw [← hρ, wr_i (by decide), wr_i (by decide), wr_i (by decide), wr_eq], by rw [← hρ, wr_i (by decide), wr_i (by decide), wr_eq], by rw [← hρ, wr_i (by decide), wr_eq]⟩
  obtain ⟨τ1, e1, ⟨f1, f2⟩, h⟩ := hP.1 ρ hO (by
    rcases hxy with ⟨q1, q2⟩ | ⟨q1, q2⟩
    · rw [q1, q2] at hMo; exact Or.inl hMo
    · rw [q1, q2] at hMo; exact Or.inr hMo)
  have h374 : ∀ k, k < 174 → τ1 374 k = g k := fun k hk => by rw [f1 _ _ (by omega)]; exact hO k hk
  have e2 := e11_delays (τ := τ1) (n := n) (nt := nt) (no := no) (nf := nf) (Wf_g (fun k hk => (h374 k hk).symm) hW)
  refine ⟨τ1, ?_, ⟨fun c i hc => ?_, fun i q1 q2 => ?_, Or.inl ?_⟩, fun c i hc => ?_, fun i hi => ?_⟩
  · unfold fX11_priceOf
    rw [lt_v, lt_v, lt_v, lt_v, hρ, e1, bd_v, e2, bd_v, h]
  · rw [f1 c i (by omega), fr c i (by omega), m1 c i hc]
  · rw [f2 i (by omega), ← hρ, wr_i q2, wr_i (by omega), wr_i (by omega), wr_i (by omega), m2 i q1 q2]
  · rw [f2 9 (by omega), ← hρ, wr_eq]
  · rw [f1 c i (by omega), fr c i (by omega)]
  · rw [f2 i (by omega), ← hρ, wr_i (by omega), wr_i (by omega), wr_i (by omega), wr_i (by omega)]
/-- both have mended: all holds again -/
theorem Inv_mend {σ σ1 σ2 : Sg} {n nt no nf : Nat} {v : Int32} (hI : Inv σ) (hW : Wf (σ 374) n nt no nf) (hC : MC (σ 374) n nt σ σ1) (hR : MR (σ 374) nt (wr σ1 0 5 v) σ2) : Inv (wr σ2 373 4 v) := by
  obtain ⟨n', nt', no', nf', a1, a2, a3, a4, a5, a6, a7, a8, a9⟩ := hI
  obtain ⟨c1, c2, c3, c4⟩ := hC
  obtain ⟨r1, r2, r3⟩ := hR
  have fl : ∀ c i, c < 373 → c ≠ 0 → wr σ2 373 4 v c i = σ1 c i := fun c i h1 h2 => by rw [wr_c (by omega), r1 c i (by omega), wr_c h2]
  have fc : ∀ c i, ((c < 22 ∧ c ≠ 0 ∧ c ≠ 1 ∧ c ≠ 2) ∨ (58 ≤ c ∧ c < 373)) → wr σ2 373 4 v c i = σ c i := fun c i hc => by rw [fl c i (by omega) (by omega), c1 c i (by omega)]
  have fr : ∀ c i, (374 ≤ c ∧ c < 380) → wr σ2 373 4 v c i = σ c i := fun c i hc => by rw [wr_c (by omega), r1 c i (by omega), wr_c (by omega), c1 c i (by omega)]
  have g374 : (wr σ2 373 4 v) 374 = σ 374 := funext fun k => fr _ _ (by omega)
  refine ⟨n, nt, no, nf, ?_, ?_, ?_, ?_, ?_, ?_, ?_, ?_, ?_⟩
  · rw [g374]
    exact LR_congr (fun c q1 q2 => funext fun i => (fc c i (by omega)).symm) a1
  · rw [g374]; exact hW
  · refine Hist_congr (σ := σ) (fun c q1 q2 => funext fun i => (fc c i (by omega)).symm) ⟨(fc _ _ (by omega)).symm, (fc _ _ (by omega)).symm⟩ ⟨?_, ?_⟩ (funext fun i => (fr _ _ (by omega)).symm) a3
    · rw [wr_i (by decide), r2 _ (by decide) (by decide), wr_c (by decide), c1 _ _ (by omega)]
    · rw [wr_i (by decide), r2 _ (by decide) (by decide), wr_c (by decide), c1 _ _ (by omega)]
  · exact Shs_congr (σ := σ) (fun c q1 q2 => funext fun i => (fc c i (by omega)).symm) (funext fun i => (fr _ _ (by omega)).symm) (funext fun i => (fr _ _ (by omega)).symm) (funext fun i => (fr _ _ (by omega)).symm) a4
  · rw [wr_c (by decide), r1 _ _ (by omega), wr_eq, wr_eq]
  · exact Own_congr (σ := σ1) (fun t ht => (fl _ _ (by omega) (by omega)).symm) c2
  · rw [g374]
    exact GoodC_congr (σ := σ1) (fun c q1 q2 => funext fun i => (fl c i (by omega) (by omega)).symm) (fl _ _ (by omega) (by omega)).symm c3
  · rw [g374]
    exact GoodR_congr (τ := σ2) (fun c hc => funext fun i => (wr_c (by omega)).symm) (fun i q1 q2 => (wr_i (by omega)).symm) (wr_i (by decide)).symm r3
  · rw [g374]
    exact GoodP_congr (σ := σ1) (funext fun i => (fl _ _ (by omega) (by omega)).symm) (fl _ _ (by omega) (by omega)).symm c4
theorem Inv.own {σ : Sg} (hI : Inv σ) : Own σ := by obtain ⟨_, _, _, _, -, -, -, -, -, h, -⟩ := hI; exact h
theorem Inv.fd {σ : Sg} (hI : Inv σ) : σ 0 5 = σ 373 4 := by obtain ⟨_, _, _, _, -, -, -, -, h, -⟩ := hI; exact h
theorem Inv.mc {σ : Sg} {n nt no nf : Nat} (hI : Inv σ) (hW : Wf (σ 374) n nt no nf) : MC (σ 374) n nt σ σ ∧ GoodR nt (σ 374) σ := by
  obtain ⟨n', nt', no', nf', a1, a2, a3, a4, a5, a6, a7, a8, a9⟩ := hI
  have hnt' : nt' = nt := by
    have := hW.nt
    have := a2.nt
    exact (nI_eq (by omega) (by omega)).mp (a2.2.1.2.1.symm.trans hW.2.1.2.1)
  have hn' : n' = n := by
    have := hW.1.1.2
    have := a2.1.1.2
    exact (nI_eq (by omega) (by omega)).mp (a2.2.1.1.symm.trans hW.2.1.1)
  subst hnt'; subst hn'
  exact ⟨⟨fun c i _ => rfl, a6, a7, a9⟩, a8⟩
/-- refusals of a meet, on both sides -/
def rfm (g : Nat → Int32) (n nt : Nat) (a b s : Int32) : Int32 := if ib a nt = 0 then -100001 else if ib b nt = 0 then -100001 else if ib s n = 0 then -100001 else if gw g a.toNatClampNeg = gw g b.toNatClampNeg then -100003 else 0
theorem c_refusal {σ : Sg} {g : Nat → Int32} {n nt no nf : Nat} (hW : Wf g n nt no nf) (hL : LR σ 3 g) (a b s : Int32) : fX10_refusalOfMeet 0 a b s σ = some (rfm g n nt a b s, σ) := by
  have hnt := hW.nt
  have h7 : σ 7 0 = nI nt := hL.1.2.1.trans hW.2.1.2.1
  have h4 : σ 4 0 = nI n := hL.1.1.trans hW.2.1.1
  unfold fX10_refusalOfMeet rfm
  simp only [rf_0_2, rf_3_0, rf_3_1, e9_has (v0 := 7) h7, e8_hasStation (v0 := 4) h4, bd_v]
  by_cases A : ib a nt = 0
  · rw [if_pos A, if_pos A]
  rw [if_neg A, if_neg A]
  by_cases B : ib b nt = 0
  · rw [if_pos B, if_pos B]
  rw [if_neg B, if_neg B]
  by_cases C : ib s n = 0
  · rw [if_pos C, if_pos C]
  rw [if_neg C, if_neg C]
  obtain ⟨x, hx, rfl⟩ := ib_of (by omega) A
  obtain ⟨y, hy, rfl⟩ := ib_of (by omega) B
  rw [e9_areContrary σ x y (by omega) (by omega), bd_v, cw_gw hL (by omega), cw_gw hL (by omega), nI_cl (by omega), nI_cl (by omega)]
  by_cases D : gw g x = gw g y
  · rw [if_pos D, if_pos rfl, if_pos D]
  · rw [if_neg D, if_neg (by decide), if_neg D]
theorem s_price {σ : Sg} (hI : Inv σ) (a1 a2 a3 : Int32) : Two (fX10_price 0 a1 a2 a3) (fX11_price 373 a1 a2 a3) σ := by
  obtain ⟨n, nt, no, nf, hL, hW, h4, h7, h13, h3⟩ := hI.k
  obtain ⟨g0, g14, g40, g161⟩ := hW.2.1
  have hnt : nt ≤ 5 := hW.1.2.1
  have hn := hW.st
  have cref := c_refusal hW hL a1 a2 a3
  have fin : ∀ v : Int32, rfm (σ 374) n nt a1 a2 a3 = v → ¬ v = 0 → (∀ τ, τ = wr σ 0 5 (σ 0 5 + 1) → fX11_price 373 a1 a2 a3 τ = some (v, wr τ 373 4 (τ 373 4 + 1))) → Two (fX10_price 0 a1 a2 a3) (fX11_price 373 a1 a2 a3) σ := by
    intro v hv h0 hG
    refine two_find v hI ?_ hG
    unfold fX10_price
    rw [cref, bd_v, lt_v, hv, if_neg h0, e10_finding, bd_v]
  unfold rfm at fin
  by_cases A : ib a1 nt = 0
  · refine fin _ (by rw [if_pos A]) (by decide) (fun τ hτ => ?_)
    unfold fX11_price
    rw [e11_isTrain (n := nt) (by rw [row374 hτ, g14]) (by omega), bd_v, if_pos A, e11_finds]; rfl
  by_cases B : ib a2 nt = 0
  · refine fin _ (by rw [if_neg A, if_pos B]) (by decide) (fun τ hτ => ?_)
    unfold fX11_price
    rw [e11_isTrain (n := nt) (by rw [row374 hτ, g14]) (by omega), bd_v, if_neg A, e11_isTrain (n := nt) (by rw [row374 hτ, g14]) (by omega), bd_v, if_pos B, e11_finds]; rfl
  by_cases C : ib a3 n = 0
  · refine fin _ (by rw [if_neg A, if_neg B, if_pos C]) (by decide) (fun τ hτ => ?_)
    unfold fX11_price
    rw [e11_isTrain (n := nt) (by rw [row374 hτ, g14]) (by omega), bd_v, if_neg A, e11_isTrain (n := nt) (by rw [row374 hτ, g14]) (by omega), bd_v, if_neg B, e11_isStation (n := n) (by rw [row374 hτ, g0]) (by omega), bd_v, if_pos C, e11_finds]; rfl
  obtain ⟨x, hx, rfl⟩ := ib_of (by omega) A
  obtain ⟨y, hy, rfl⟩ := ib_of (by omega) B
  obtain ⟨s, hs, rfl⟩ := ib_of (by omega) C
  rw [nI_cl (show x < 2147483648 by omega), nI_cl (show y < 2147483648 by omega)] at fin
  have rr : ∀ τ : Sg, τ 374 = σ 374 → fX11_price 373 (nI x) (nI y) (nI s) τ = if gw (σ 374) x = gw (σ 374) y then some (-100003, wr τ 373 4 (τ 373 4 + 1)) else bd (fX11_priceOf 373 (nI x) (nI y) (nI s) τ) fun r ρ => some (r, ρ) := by
    intro τ hτ
    unfold fX11_price
    rw [e11_isTrain (n := nt) (by rw [hτ, g14]) (by omega), bd_v, if_neg A, e11_isTrain (n := nt) (by rw [hτ, g14]) (by omega), bd_v, if_neg B, e11_isStation (n := n) (by rw [hτ, g0]) (by omega), bd_v, if_neg C, e11_wayOf τ x (by omega), bd_v, e11_wayOf τ y (by omega), bd_v, hτ, e11_finds]
    rfl
  by_cases D : gw (σ 374) x = gw (σ 374) y
  · exact fin _ (by rw [if_neg A, if_neg B, if_neg C, if_pos D]) (by decide) (fun τ hτ => by rw [rr τ (row374 hτ), if_pos D])
  have hxy : x ≠ y := fun q => D (by rw [q])
  obtain ⟨hMC, hGR⟩ := hI.mc hW
  -- the lesser and the greater one
  obtain ⟨a, b, hab, hb, hpl, hor⟩ : ∃ a b, a < b ∧ b < nt ∧ ((if nI y < nI x then nI y else nI x) * 5 + (if nI x < nI y then nI y else nI x)) * 7 + nI s = nI (plK a b s) ∧ ((nI x = nI a ∧ nI y = nI b) ∨ (nI x = nI b ∧ nI y = nI a)) := by
    have pe : ∀ a b, (nI a * 5 + nI b) * 7 + nI s = nI (plK a b s) := fun a b => by
      unfold plK
      rw [show (5 : Int32) = nI 5 from rfl, show (7 : Int32) = nI 7 from rfl, pk_mul, nI_add, pk_mul, nI_add]
    rcases Nat.lt_or_ge x y with q | q
    · refine ⟨x, y, q, hy, ?_, Or.inl ⟨rfl, rfl⟩⟩
      rw [if_neg (nI_nlt (by omega) (by omega)), if_pos (nI_lt q (by omega)), pe]
    · refine ⟨y, x, by omega, hx, ?_, Or.inr ⟨rfl, rfl⟩⟩
      rw [if_pos (nI_lt (by omega) (by omega)), if_neg (nI_nlt (by omega) (by omega)), pe]
  obtain ⟨v, hP⟩ := Pv_ex hW hL hI.own (fun k _ => rfl) hab hb hs
  obtain ⟨σ1, e1, hM1⟩ := c_priceAt hW hL (fun k _ => rfl) hMC hab hb hs hP
  have h374 : σ1 374 = σ 374 := funext fun k => hM1.1 _ _ (by omega)
  have hGR1 : GoodR nt (σ 374) σ1 := GoodR_congr (τ := σ) (fun c hc => funext fun i => (hM1.1 c i (by omega)).symm) (fun i _ _ => (hM1.1 _ _ (by omega)).symm) (hM1.1 _ _ (by omega)).symm hGR
  obtain ⟨σ2, e2, hM2, -, -⟩ := r_priceOf (τ0 := σ1) (τ := σ1) hW (fun k _ => by rw [h374]) ⟨fun c i _ => rfl, fun i _ _ => rfl, hGR1⟩ hor hP
  have h5 : σ1 0 5 = σ2 373 4 := by rw [hM2.2.1 4 (by decide) (by decide), hM1.1 _ _ (by omega), hM1.1 _ _ (by omega)]; exact hI.fd
  have hI2 : Inv (wr σ2 373 4 (σ1 0 5)) := Inv_mend hI hW hM1 (by rw [wr_self]; exact hM2)
  rw [h5, wr_self] at hI2
  refine two_mk (r := v) (σ1 := σ1) (σ2 := σ2) ?_ ?_ hI2
  · unfold fX10_price fX4_placeOf
    have : rfm (σ 374) n nt (nI x) (nI y) (nI s) = 0 := by
      unfold rfm
      rw [if_neg A, if_neg B, if_neg C, nI_cl (by omega), nI_cl (by omega), if_neg D]
    rw [cref, bd_v, lt_v, this, if_pos rfl, bd_v, hpl, rf_0_0, e1, bd_v]
  · rw [rr σ1 h374, if_neg D, e2, bd_v]
