/-! PURE: meet, hand, stations, train; the first state -/
theorem s_meet {σ : Sg} (hI : Inv σ) (a1 a2 a3 : Int32) : Two (fX10_meet 0 a1 a2 a3) (fX11_meet 373 a1 a2 a3) σ := by
  obtain ⟨n, nt, no, nf, hL, hW, h4, h7, h13, h3⟩ := hI.k
  obtain ⟨g0, g14, g40, g161⟩ := hW.2.1
  have hnt : nt ≤ 5 := hW.1.2.1
  have hn := hW.st
  have cref := c_refusal hW hL a1 a2 a3
  have fin : ∀ v : Int32, rfm (σ 374) n nt a1 a2 a3 = v → ¬ v = 0 → (∀ τ, τ = wr σ 0 5 (σ 0 5 + 1) → fX11_meet 373 a1 a2 a3 τ = some (v, wr τ 373 4 (τ 373 4 + 1))) → Two (fX10_meet 0 a1 a2 a3) (fX11_meet 373 a1 a2 a3) σ := by
    intro v hv h0 hG
    refine two_find v hI ?_ hG
    unfold fX10_meet
    rw [cref, bd_v, lt_v, hv, if_neg h0, e10_finding, bd_v]
  unfold rfm at fin
  by_cases A : ib a1 nt = 0
  · refine fin _ (by rw [if_pos A]) (by decide) (fun τ hτ => ?_)
    unfold fX11_meet
    rw [e11_isTrain (n := nt) (by rw [row374 hτ, g14]) (by omega), bd_v, if_pos A, e11_finds]; rfl
  by_cases B : ib a2 nt = 0
  · refine fin _ (by rw [if_neg A, if_pos B]) (by decide) (fun τ hτ => ?_)
    unfold fX11_meet
    rw [e11_isTrain (n := nt) (by rw [row374 hτ, g14]) (by omega), bd_v, if_neg A, e11_isTrain (n := nt) (by rw [row374 hτ, g14]) (by omega), bd_v, if_pos B, e11_finds]; rfl
  by_cases C : ib a3 n = 0
  · refine fin _ (by rw [if_neg A, if_neg B, if_pos C]) (by decide) (fun τ hτ => ?_)
    unfold fX11_meet
    rw [e11_isTrain (n := nt) (by rw [row374 hτ, g14]) (by omega), bd_v, if_neg A, e11_isTrain (n := nt) (by rw [row374 hτ, g14]) (by omega), bd_v, if_neg B, e11_isStation (n := n) (by rw [row374 hτ, g0]) (by omega), bd_v, if_pos C, e11_finds]; rfl
  obtain ⟨x, hx, rfl⟩ := ib_of (by omega) A
  obtain ⟨y, hy, rfl⟩ := ib_of (by omega) B
  obtain ⟨s, hs, rfl⟩ := ib_of (by omega) C
  rw [nI_cl (show x < 2147483648 by omega), nI_cl (show y < 2147483648 by omega)] at fin
  have rr : ∀ τ : Sg, τ 374 = σ 374 → fX11_meet 373 (nI x) (nI y) (nI s) τ = if gw (σ 374) x = gw (σ 374) y then some (-100003, wr τ 373 4 (τ 373 4 + 1)) else bd (fX11_ordered 373 0 (nI x) (nI y) (nI s) 0 τ) fun r ρ => some (r, ρ) := by
    intro τ hτ
    unfold fX11_meet
    rw [e11_isTrain (n := nt) (by rw [hτ, g14]) (by omega), bd_v, if_neg A, e11_isTrain (n := nt) (by rw [hτ, g14]) (by omega), bd_v, if_neg B, e11_isStation (n := n) (by rw [hτ, g0]) (by omega), bd_v, if_neg C, e11_wayOf τ x (by omega), bd_v, e11_wayOf τ y (by omega), bd_v, hτ, e11_finds]
    rfl
  by_cases D : gw (σ 374) x = gw (σ 374) y
  · exact fin _ (by rw [if_neg A, if_neg B, if_neg C, if_pos D]) (by decide) (fun τ hτ => by rw [rr τ (row374 hτ), if_pos D])
  have hxy : x ≠ y := fun q => D (by rw [q])
  refine two_write 0 (nI x) (nI y) (nI s) 0 hI hW (fun ho => ?_) ?_ (fun τ hτ => by rw [rr τ hτ, if_neg D])
  · obtain ⟨q1, q2, q3, q4, q5⟩ := nwO_1 (g := σ 374) ho 0 (nI x) (nI y) (nI s) 0
    exact Or.inl ⟨x, y, s, hx, hy, hxy, hs, q1, q2, q3, q4, q5⟩
  · unfold fX10_meet
    have : rfm (σ 374) n nt (nI x) (nI y) (nI s) = 0 := by
      unfold rfm
      rw [if_neg A, if_neg B, if_neg C, nI_cl (by omega), nI_cl (by omega), if_neg D]
    rw [cref, bd_v, lt_v, this, if_pos rfl]
theorem Wf_hand {g : Nat → Int32} {n nt no nf o t q : Nat} (ho : o < no) (ht : t < 5) (hq : q ≤ 400) (hW : Wf g n nt no nf) : Wf (upd g (101 + (5 * o + t)) (nI q)) n nt no nf := by
  obtain ⟨⟨h0, b1, b2, b3⟩, ⟨h1, h2, h3, h4⟩, h5, h6, h7, h8, h9, h10⟩ := hW
  refine ⟨⟨h0, b1, b2, b3⟩, ⟨by rw [upd_ne (by omega), h1], by rw [upd_ne (by omega), h2], by rw [upd_ne (by omega), h3], by rw [upd_ne (by omega), h4]⟩, fun k hk => by rw [upd_ne (by omega)]; exact h5 k hk, fun k hk => by rw [upd_ne (by omega)]; exact h6 k hk, fun x hx => WfT_upd (fun k q1 q2 => upd_ne (by omega)) (h7 x hx), fun x hx => WfO_upd (fun k q1 q2 => upd_ne (by omega)) (h8 x hx), fun x y hx hy => ?_, fun k hk => by rw [upd_ne (by omega), upd_ne (by omega)]; exact h10 k hk⟩
  by_cases z : x = o ∧ y = t
  · obtain ⟨rfl, rfl⟩ := z
    rw [show 101 + 5 * x + y = 101 + (5 * x + y) from by omega, upd_eq]
    exact Or.inr ⟨q, hq, rfl⟩
  · rw [upd_ne (by omega)]; exact h9 x y hx hy
theorem s_hand {σ : Sg} (hI : Inv σ) (a1 a2 a3 : Int32) : Two (fX10_hand 0 a1 a2 a3) (fX11_hand 373 a1 a2 a3) σ := by
  obtain ⟨n, nt, no, nf, hL, hW, h4, h7, h13, h3⟩ := hI.k
  obtain ⟨g0, g14, g40, g161⟩ := hW.2.1
  have hnt : nt ≤ 5 := hW.1.2.1
  have hno := hW.no
  unfold fX10_hand fX11_hand
  simp only [rf_0_2, rf_3_1, rf_3_2, rf_373_0, ln_374, e9_has (v0 := 7) h7, e5_has (v0 := 13) h13, bd_v, e10_finding, e11_finds, e10_isWithin, e11_in, lt_v]
  by_cases A : ib a1 no = 0
  · exact two_find (-100001) hI (by simp only [e5_has (v0 := 13) h13, bd_v, A, if_true]) (fun τ hτ => by
      rw [e11_isOrder (n := no) (by rw [row374 hτ, g40]) (by omega), bd_v, if_pos A])
  obtain ⟨o, ho, rfl⟩ := ib_of (by omega) A
  by_cases D : ib a2 nt = 0
  · exact two_find (-100001) hI (by simp only [e9_has (v0 := 7) h7, e5_has (v0 := 13) h13, bd_v, if_neg A, D, if_true]) (fun τ hτ => by
      rw [e11_isOrder (n := no) (by rw [row374 hτ, g40]) (by omega), bd_v, if_neg A, e11_isTrain (n := nt) (by rw [row374 hτ, g14]) (by omega), bd_v, if_pos D])
  obtain ⟨t, ht, rfl⟩ := ib_of (by omega) D
  by_cases B : iw a3 0 400 = 0
  · exact two_find (-100001) hI (by simp only [e9_has (v0 := 7) h7, e5_has (v0 := 13) h13, bd_v, if_neg A, if_neg D, B, if_true]) (fun τ hτ => by
      rw [e11_isOrder (n := no) (by rw [row374 hτ, g40]) (by omega), bd_v, if_neg A, e11_isTrain (n := nt) (by rw [row374 hτ, g14]) (by omega), bd_v, if_neg D, if_pos B])
  obtain ⟨m, -, hm, rfl⟩ := iw_nat (a := 0) (b := 400) (iw_of B).1 (iw_of B).2 (by decide) (by decide)
  have x5 : nI o * 5 + nI t = nI (5 * o + t) := by rw [show (5 : Int32) = nI 5 from rfl, pk_mul, nI_add, Nat.mul_comm]
  have y5 : (101 : Int32) + 5 * nI o + nI t = nI (101 + (5 * o + t)) := by rw [ix2 (A := 101) (B := 5) 101 5 o rfl rfl, nI_add]; congr 1; omega
  have hwas : σ 19 (5 * o + t) = σ 374 (101 + (5 * o + t)) := by
    rw [hL.hd hW ho (by omega)]; congr 1; omega
  obtain ⟨q, hq, hset, hcls, href⟩ : ∃ q, q ≤ 400 ∧ (σ 19 (5 * o + t) = nI q ∨ q = m) ∧ (∀ τ : Sg, τ 19 (5 * o + t) = σ 19 (5 * o + t) → ∃ σ1, fX5_giveTo 13 (nI o) (nI t) (nI m) τ = some (σ 19 (5 * o + t), σ1) ∧ ∀ c i, σ1 c i = wr τ 19 (5 * o + t) (nI q) c i) ∧ (∀ (K : Int32 → Option (Int32 × Sg)), (if σ 374 (101 + (5 * o + t)) < 0 then K (nI m) else if nI m ≤ σ 374 (101 + (5 * o + t)) then K (nI m) else K (σ 374 (101 + (5 * o + t)))) = K (nI q)) := by
    have gv : ∀ τ : Sg, τ 19 (5 * o + t) = σ 19 (5 * o + t) → fX5_giveTo 13 (nI o) (nI t) (nI m) τ = if σ 19 (5 * o + t) = -1 then some (σ 19 (5 * o + t), wr τ 19 (5 * o + t) (nI m)) else if σ 19 (5 * o + t) ≤ nI m then some (σ 19 (5 * o + t), τ) else some (σ 19 (5 * o + t), wr τ 19 (5 * o + t) (nI m)) := by
      intro τ hτ
      unfold fX5_giveTo
      simp only [lt_v, x5, rf_13_6, ln_19, gd_in (show 5 * o + t < 60 by omega) (show 60 < 2147483648 by decide), nI_cl (show 5 * o + t < 2147483648 by omega), hτ]
    have hg := hW.hd ho (show t < 5 by omega)
    rw [show 101 + 5 * o + t = 101 + (5 * o + t) from by omega, ← hwas] at hg
    rcases hg with e | ⟨w, hw, e⟩
    · refine ⟨m, hm, Or.inr rfl, fun τ hτ => ⟨_, by rw [gv τ hτ, if_pos e], fun c i => rfl⟩, fun K => ?_⟩
      rw [← hwas, e, if_pos (by decide)]
    · by_cases z : w ≤ m
      · refine ⟨w, hw, Or.inl e, fun τ hτ => ⟨τ, by rw [gv τ hτ, if_neg (by rw [e]; exact nI_m1 (by omega)), if_pos (by rw [e]; exact nI_le z (by omega))], fun c i => ?_⟩, fun K => ?_⟩
        · rw [← e, ← hτ, wr_self]
        · rw [← hwas, e, if_neg (not_lt0 (by omega))]
          by_cases y : w = m
          · rw [if_pos (nI_le (by omega) (by omega)), y]
          · rw [if_neg (nle_of (by omega) (by omega))]
      · refine ⟨m, hm, Or.inr rfl, fun τ hτ => ⟨_, by rw [gv τ hτ, if_neg (by rw [e]; exact nI_m1 (by omega)), if_neg (by rw [e]; exact nle_of (by omega) (by omega))], fun c i => rfl⟩, fun K => ?_⟩
        rw [← hwas, e, if_neg (not_lt0 (by omega)), if_pos (nI_le (by omega) (by omega))]
  refine two_act (r := σ 19 (5 * o + t)) (lc := wr σ 19 (5 * o + t) (nI q)) (lr := upd (σ 374) (101 + (5 * o + t)) (nI q)) hI (fun τ e hl => ?_) (fun τ ρ hτ e hρ => ?_) (LR_wr hL (by unfold Rel; omega) (by omega)) (Wf_hand ho (by omega) hq hW)
  · obtain ⟨σ1, e1, f1⟩ := hcls τ (hl 19 _ (by decide) (by decide))
    refine ⟨σ1, ?_, fun c i hc => by rw [f1, wr_c (by omega)], fun c i q1 q2 => ?_⟩
    · simp only [e9_has (v0 := 7) h7, e5_has (v0 := 13) h13, bd_v, if_neg A, if_neg D, if_neg B, e, e1]
    · rw [f1]
      unfold wr
      rw [hl c i q1 q2]
  · refine ⟨wr ρ 374 (101 + (5 * o + t)) (nI q), ?_, fun c i hc => wr_c hc, fun k hk => ?_⟩
    · rw [e11_isOrder (n := no) (by rw [hτ, g40]) (by omega), bd_v, if_neg A, e11_isTrain (n := nt) (by rw [hτ, g14]) (by omega), bd_v, if_neg D, if_neg B, y5, gd_in (n := 174) (by omega) (by decide), nI_cl (by omega), hτ]
      have hb : ∀ v, (bd (fX11_becomes 373 (nI (101 + (5 * o + t))) v τ) fun r s => some (r, s)) = some (σ 19 (5 * o + t), wr ρ 374 (101 + (5 * o + t)) v) := by
        intro v
        unfold fX11_becomes
        rw [e, bd_v, rf_373_0, ln_374, gd_in (n := 174) (by omega) (by decide), lt_v, gd_in (n := 174) (by omega) (by decide), lt_v, nI_cl (by omega), hρ, ← hwas, bd_v]
      have := href (fun v => bd (fX11_becomes 373 (nI (101 + (5 * o + t))) v τ) fun r s => some (r, s))
      exact Eq.trans this (hb (nI q))
    · rw [u374, hρ]
/-- fewer or more stations -/
theorem Wf_stations {g : Nat → Int32} {n nt no nf m : Nat} (hm2 : 2 ≤ m) (hm : m ≤ 7) (hT : ∀ t, t < nt → ¬ nI m ≤ g (16 + 5 * t) ∧ g (17 + 5 * t) < nI m) (hO : ∀ o, o < no → g (44 + 5 * o) < nI m) (hW : Wf g n nt no nf) : Wf (upd g 0 (nI m)) m nt no nf := by
  obtain ⟨⟨h0, b1, b2, b3⟩, ⟨h1, h2, h3, h4⟩, h5, h6, h7, h8, h9, h10⟩ := hW
  have lt_of : ∀ x, x < 7 → nI x < nI m → x < m := fun x hx h => (nI_ltI (by omega) (by omega)).mp h
  refine ⟨⟨⟨hm2, hm⟩, b1, b2, b3⟩, ⟨upd_eq, by rw [upd_ne (by omega), h2], by rw [upd_ne (by omega), h3], by rw [upd_ne (by omega), h4]⟩, fun k hk => by rw [upd_ne (by omega)]; exact h5 k hk, fun k hk => by rw [upd_ne (by omega)]; exact h6 k hk, fun x hx => ?_, fun x hx => ?_, fun x y hx hy => by rw [upd_ne (by omega)]; exact h9 x y hx hy, fun k hk => by rw [upd_ne (by omega), upd_ne (by omega)]; exact h10 k hk⟩
  · obtain ⟨k, f, d, len, tm, a1, a2, a3, a4, a5, a6, a7, e1, e2, e3, e4, e5⟩ := h7 x hx
    obtain ⟨q1, q2⟩ := hT x hx
    rw [e2] at q1
    rw [e3] at q2
    refine ⟨k, f, d, len, tm, a1, lt_of f (by omega) (Int32.not_le.mp q1), lt_of d (by omega) q2, a4, a5, a6, a7, ?_⟩
    rw [upd_ne (by omega), upd_ne (by omega), upd_ne (by omega), upd_ne (by omega), upd_ne (by omega)]
    exact ⟨e1, e2, e3, e4, e5⟩
  · have hq := hO x hx
    unfold WfO
    rw [upd_ne (by omega), upd_ne (by omega), upd_ne (by omega), upd_ne (by omega), upd_ne (by omega)]
    rcases h8 x hx with ⟨a, b, s, ha, hb, hab, hs, e1, e2, e3, e4, e5⟩ | h | ⟨a, s, v, ha, hs, hv, e1, e2, e3, e4, e5⟩ | h | h
    · rw [e4] at hq
      exact Or.inl ⟨a, b, s, ha, hb, hab, lt_of s (by omega) hq, e1, e2, e3, e4, e5⟩
    · exact Or.inr (Or.inl h)
    · rw [e4] at hq
      exact Or.inr (Or.inr (Or.inl ⟨a, s, v, ha, lt_of s (by omega) hq, hv, e1, e2, e3, e4, e5⟩))
    · exact Or.inr (Or.inr (Or.inr (Or.inl h)))
    · exact Or.inr (Or.inr (Or.inr (Or.inr h)))
theorem s_stations {σ : Sg} (hI : Inv σ) (a1 : Int32) : Two (fX10_stations 0 a1) (fX11_stations 373 a1) σ := by
  obtain ⟨n, nt, no, nf, hL, hW, h4, h7, h13, h3⟩ := hI.k
  obtain ⟨g0, g14, g40, g161⟩ := hW.2.1
  have hnt : nt ≤ 5 := hW.1.2.1
  have hno := hW.no
  by_cases A : iw a1 2 7 = 0
  · refine two_find (-100001) hI ?_ (fun τ hτ => ?_)
    · unfold fX10_stations
      rw [e10_isWithin, bd_v, if_pos A, e10_finding, bd_v]
    · unfold fX11_stations
      rw [e11_in, bd_v, if_pos A, e11_finds, bd_v]
  obtain ⟨m, hm2, hm, rfl⟩ := iw_nat (a := 2) (b := 7) (iw_of A).1 (iw_of A).2 (by decide) (by decide)
  have lt5 : ∀ t, t < 5 → σ 9 t = σ 374 (16 + 5 * t) ∧ σ 10 t = σ 374 (17 + 5 * t) := fun t ht => ⟨(hL.2.2.2.1 t ht).1.2.1, (hL.2.2.2.1 t ht).1.2.2⟩
  -- trains
  have cT : (∃ t, t < nt ∧ ¬ (¬ nI m ≤ σ 374 (16 + 5 * t) ∧ σ 374 (17 + 5 * t) < nI m)) ∧ fX9_useStationFrom 7 (nI m) σ = some (1, σ) ∨ (∀ t, t < nt → ¬ ¬ (¬ nI m ≤ σ 374 (16 + 5 * t) ∧ σ 374 (17 + 5 * t) < nI m)) ∧ fX9_useStationFrom 7 (nI m) σ = some (0, σ) := by
    have hc : ∀ i, i < nt → ∀ K, fX9_useStationFrom_2 7 (nI m) K (nI i) σ = if nI m ≤ σ 374 (16 + 5 * i) then some (1, σ) else if σ 374 (17 + 5 * i) < nI m then K (nI (i + 1)) σ else some (1, σ) := by
      intro i hi K
      unfold fX9_useStationFrom_2
      simp only [h7, if_neg (nle_of hi (show nt < 2 ^ 31 by omega)), rf_7_2, rf_7_3, ln_9, ln_10, gd5 (show i < 5 by omega), nI_cl (show i < 2147483648 by omega), (lt5 i (by omega)).1, (lt5 i (by omega)).2, lt_v, nI_1, gd_zo1, gd_oT]
    unfold fX9_useStationFrom
    rw [lt_v]
    refine fl1' nt (by omega) (fun t => ¬ (¬ nI m ≤ σ 374 (16 + 5 * t) ∧ σ 374 (17 + 5 * t) < nI m)) _ _ (fun i hi h K => ?_) (fun i hi h K => ?_) (fun K => ?_)
    · have h' := Decidable.not_not.mp h
      rw [hc i hi K, if_neg h'.1, if_pos h'.2]
    · rw [hc i hi K]
      by_cases q : nI m ≤ σ 374 (16 + 5 * i)
      · rw [if_pos q]
      · rw [if_neg q, if_neg (fun y => h ⟨q, y⟩)]
    · unfold fX9_useStationFrom_2
      rw [h7, if_pos (nI_le (Nat.le_refl _) (by omega))]; rfl
  have cO : (∃ o, o < no ∧ ¬ σ 374 (44 + 5 * o) < nI m) ∧ fX5_useStationFrom 13 (nI m) σ = some (1, σ) ∨ (∀ o, o < no → ¬ ¬ σ 374 (44 + 5 * o) < nI m) ∧ fX5_useStationFrom 13 (nI m) σ = some (0, σ) := by
    have hc : ∀ i, i < no → ∀ K, fX5_useStationFrom_2 13 (nI m) K (nI i) σ = if σ 374 (44 + 5 * i) < nI m then K (nI (i + 1)) σ else some (1, σ) := by
      intro i hi K
      unfold fX5_useStationFrom_2
      simp only [h13, if_neg (nle_of hi (show no < 2 ^ 31 by omega)), rf_13_4, ln_17, gd_in (show i < 12 by omega) (show 12 < 2147483648 by decide), nI_cl (show i < 2147483648 by omega), (hL.or (show i < 12 by omega)).2.2.2.1, lt_v, nI_1, gd_zo1, gd_oT]
    unfold fX5_useStationFrom
    rw [lt_v]
    refine fl1' no (by omega) (fun o => ¬ σ 374 (44 + 5 * o) < nI m) _ _ (fun i hi h K => ?_) (fun i hi h K => ?_) (fun K => ?_)
    · rw [hc i hi K, if_pos (Decidable.not_not.mp h)]
    · rw [hc i hi K, if_neg h]
    · unfold fX5_useStationFrom_2
      rw [h13, if_pos (nI_le (Nat.le_refl _) (by omega))]; rfl
  -- the reference
  have rO : ∀ τ : Sg, τ 374 = σ 374 → (∃ o, o < no ∧ ¬ σ 374 (44 + 5 * o) < nI m) ∧ lq1 (fX11_stations_63 373 (nI m)) FU 0 τ = some (-100007, wr τ 373 4 (τ 373 4 + 1)) ∨ (∀ o, o < no → ¬ ¬ σ 374 (44 + 5 * o) < nI m) ∧ lq1 (fX11_stations_63 373 (nI m)) FU 0 τ = bd (fX11_becomes 373 0 (nI m) τ) fun r s => some (r, s) := by
    intro τ hτ
    have hc : ∀ i, i < no → ∀ K, fX11_stations_63 373 (nI m) K (nI i) τ = if σ 374 (44 + 5 * i) < nI m then K (nI (i + 1)) τ else some (-100007, wr τ 373 4 (τ 373 4 + 1)) := by
      intro i hi K
      unfold fX11_stations_63
      simp only [rf_373_0, ln_374, gd40, cl40, hτ, g40, if_neg (nle_of hi (show no < 2 ^ 31 by omega)), e11_stationOf τ i (show i < 12 by omega), bd_v, e11_finds, lt_v, nI_1]
    refine fl1' no (by omega) (fun o => ¬ σ 374 (44 + 5 * o) < nI m) _ _ (fun i hi h K => ?_) (fun i hi h K => ?_) (fun K => ?_)
    · rw [hc i hi K, if_pos (Decidable.not_not.mp h)]
    · rw [hc i hi K, if_neg h]
    · unfold fX11_stations_63
      rw [rf_373_0, ln_374, gd40, cl40, hτ, g40, if_pos (nI_le (Nat.le_refl _) (by omega))]
  have rT : ∀ τ : Sg, τ 374 = σ 374 → (∃ t, t < nt ∧ ¬ (¬ nI m ≤ σ 374 (16 + 5 * t) ∧ σ 374 (17 + 5 * t) < nI m)) ∧ fX11_stations 373 (nI m) τ = some (-100007, wr τ 373 4 (τ 373 4 + 1)) ∨ (∀ t, t < nt → ¬ ¬ (¬ nI m ≤ σ 374 (16 + 5 * t) ∧ σ 374 (17 + 5 * t) < nI m)) ∧ fX11_stations 373 (nI m) τ = lq1 (fX11_stations_63 373 (nI m)) FU 0 τ := by
    intro τ hτ
    have hc : ∀ i, i < nt → ∀ K, fX11_stations_19 373 (nI m) K (nI i) τ = if nI m ≤ σ 374 (16 + 5 * i) then some (-100007, wr τ 373 4 (τ 373 4 + 1)) else if σ 374 (17 + 5 * i) < nI m then K (nI (i + 1)) τ else some (-100007, wr τ 373 4 (τ 373 4 + 1)) := by
      intro i hi K
      unfold fX11_stations_19
      simp only [rf_373_0, ln_374, gd14, cl14, hτ, g14, if_neg (nle_of hi (show nt < 2 ^ 31 by omega)), e11_fromOf τ i (show i < 5 by omega), e11_toOf τ i (show i < 5 by omega), bd_v, e11_finds, lt_v, nI_1]
    unfold fX11_stations
    rw [e11_in, bd_v, if_neg A, lt_v]
    refine fl1' nt (by omega) (fun t => ¬ (¬ nI m ≤ σ 374 (16 + 5 * t) ∧ σ 374 (17 + 5 * t) < nI m)) _ _ (fun i hi h K => ?_) (fun i hi h K => ?_) (fun K => ?_)
    · have h' := Decidable.not_not.mp h
      rw [hc i hi K, if_neg h'.1, if_pos h'.2]
    · rw [hc i hi K]
      by_cases q : nI m ≤ σ 374 (16 + 5 * i)
      · rw [if_pos q]
      · rw [if_neg q, if_neg (fun y => h ⟨q, y⟩)]
    · unfold fX11_stations_19
      rw [rf_373_0, ln_374, gd14, cl14, hτ, g14, if_pos (nI_le (Nat.le_refl _) (by omega)), lt_v]
  have cl : fX10_stations 0 (nI m) σ = bd (fX3_needsMoreThan 3 (nI m) σ) fun r s => if r = 0 then bd (fX10_keepForUndo 0 s) fun _ s_36 => some (s_36 4 0, wr s_36 4 0 (nI m)) else some (-100007, wr s 0 5 (s 0 5 + 1)) := by
    unfold fX10_stations
    rw [e10_isWithin, bd_v, if_neg A, rf_0_2, rf_3_0]
    simp only [e10_finding, bd_v, lt_v]
  have tk : fX3_needsMoreThan 3 (nI m) σ = some (1, σ) → (∀ τ, τ = wr σ 0 5 (σ 0 5 + 1) → fX11_stations 373 (nI m) τ = some (-100007, wr τ 373 4 (τ 373 4 + 1))) → Two (fX10_stations 0 (nI m)) (fX11_stations 373 (nI m)) σ := by
    intro q1 q2
    exact two_find (-100007) hI (by rw [cl, q1, bd_v, if_neg (by decide)]) q2
  rcases cT with ⟨⟨t, ht, qt⟩, cT⟩ | ⟨qt, cT⟩
  · refine tk ?_ (fun τ hτ => ?_)
    · unfold fX3_needsMoreThan
      rw [rf_3_1, cT, bd_v, if_neg (by decide)]; rfl
    · rcases rT τ (row374 hτ) with ⟨-, h⟩ | ⟨h, -⟩
      · exact h
      · exact absurd qt (h t ht)
  have rT' : ∀ τ : Sg, τ 374 = σ 374 → fX11_stations 373 (nI m) τ = lq1 (fX11_stations_63 373 (nI m)) FU 0 τ := by
    intro τ hτ
    rcases rT τ hτ with ⟨⟨t, ht, h⟩, -⟩ | ⟨-, h⟩
    · exact absurd h (qt t ht)
    · exact h
  rcases cO with ⟨⟨o, ho, qo⟩, cO⟩ | ⟨qo, cO⟩
  · refine tk ?_ (fun τ hτ => ?_)
    · unfold fX3_needsMoreThan
      rw [rf_3_1, rf_3_2, cT, bd_v, if_pos rfl, cO, bd_v, if_neg (by decide)]; rfl
    · rw [rT' τ (row374 hτ)]
      rcases rO τ (row374 hτ) with ⟨-, h⟩ | ⟨h, -⟩
      · exact h
      · exact absurd qo (h o ho)
  have nm0 : fX3_needsMoreThan 3 (nI m) σ = some (0, σ) := by
    unfold fX3_needsMoreThan
    rw [rf_3_1, rf_3_2, cT, bd_v, if_pos rfl, cO, bd_v, if_pos rfl]; rfl
  refine two_set (c := 4) (i := 0) (j := 0) (v := nI m) hI (by decide) (by decide) (by decide) (fun τ e hl => ?_) (fun τ hτ => ?_) (fun h => LR_wr h (by unfold Rel; omega) (by decide)) (fun h => h.1.1) (Wf_stations hm2 hm (fun t ht => Decidable.not_not.mp (qt t ht)) (fun o ho => Decidable.not_not.mp (qo o ho)) hW)
  · rw [cl, nm0, bd_v, if_pos rfl, e, bd_v, hl 4 0 (by decide) (by decide)]
  · rw [rT' τ hτ]
    rcases rO τ hτ with ⟨⟨o, ho, h⟩, -⟩ | ⟨-, h⟩
    · exact absurd h (qo o ho)
    · rw [h]
      show (bd (fX11_becomes 373 (nI 0) (nI m) τ) fun r s => some (r, s)) = _
      cases fX11_becomes 373 (nI 0) (nI m) τ <;> rfl
