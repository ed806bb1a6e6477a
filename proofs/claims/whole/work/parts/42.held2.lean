/-! PURE: the reference's orders that a train holds -/
theorem vb0 : vp_nar .boolean (0 : Int32) = 0 := rfl
theorem vb1 : vp_nar .boolean (1 : Int32) = 1 := rfl
theorem vb_zo {v : Int32} (h : v = 0 ∨ v = 1) : vp_nar .boolean v = v := by rcases h with rfl | rfl <;> rfl
theorem cl40 : (40 : Int32).toNatClampNeg = 40 := by decide
theorem cl14 : (14 : Int32).toNatClampNeg = 14 := by decide
theorem cl161 : (161 : Int32).toNatClampNeg = 161 := by decide
theorem gd40 {β : Type} (F : Option β) : gd (inR (40 : Int32) 174) F = F := gd_t (by decide) F
theorem gd14 {β : Type} (F : Option β) : gd (inR (14 : Int32) 174) F = F := gd_t (by decide) F
theorem gd161 {β : Type} (F : Option β) : gd (inR (161 : Int32) 174) F = F := gd_t (by decide) F
theorem nIm (j : Nat) : nI j + (-1) = nI j - 1 := by rw [Int32.sub_eq_add_neg]
theorem fh_in {τ : Sg} {g : Nat → Int32} {n nt no nf t m k : Nat} (hO : On τ g) (hW : Wf g n nt no nf) (K : Int32 → Sg → Option (Unit × Sg)) (hk : k < no) (hH : ∀ x, k < x → x < no → τ 380 x = if hs g no t m (no - 1 - k) x = true then 1 else 0) (w0 : Int32) (hw : w0 = 0 ∨ w0 = 1) : fX11_findHeld_45 373 (nI t) (nI m) (nI k) w0 K τ = K (nI k - 1) (wr τ 380 k (if w0 = 1 ∧ anb g (hs g no t m (no - 1 - k)) no k = false then 1 else 0)) := by
  have hno := hW.1.2.2.1
  have t40 : τ 374 40 = nI no := (hO 40 (by decide)).trans hW.2.1.2.2.1
  have hst : ∀ i v σ, i < no → (σ = τ ∧ (v = 0 ∨ v = 1) ∧ k < i ∧ (v = 1 ↔ w0 = 1 ∧ ∀ j, k < j → j < i → ¬ (hs g no t m (no - 1 - k) j = true ∧ g (41 + 5 * j) = 4 ∧ g (42 + 5 * j) = nI k))) → ∃ v' σ', (∀ K2, fX11_findHeld_52 373 (nI t) (nI m) (nI k) K K2 v (nI i) σ = K2 v' (nI (i + 1)) σ') ∧ (σ' = τ ∧ (v' = 0 ∨ v' = 1) ∧ k < i + 1 ∧ (v' = 1 ↔ w0 = 1 ∧ ∀ j, k < j → j < i + 1 → ¬ (hs g no t m (no - 1 - k) j = true ∧ g (41 + 5 * j) = 4 ∧ g (42 + 5 * j) = nI k))) := by
    intro i v σ hi ⟨hσ, hv, hki, h⟩
    rw [hσ]
    have hc : ∀ K2 : Int32 → Int32 → Sg → Option (Unit × Sg), fX11_findHeld_52 373 (nI t) (nI m) (nI k) K K2 v (nI i) τ = (if v = 0 then K2 0 (nI (i + 1)) τ else if τ 380 i = 0 then K2 1 (nI (i + 1)) τ else if g (41 + 5 * i) = 4 then (if g (42 + 5 * i) = nI k then K2 0 (nI (i + 1)) τ else K2 1 (nI (i + 1)) τ) else K2 1 (nI (i + 1)) τ) := by
      intro K2
      unfold fX11_findHeld_52 fX11_findHeld_103 fX11_findHeld_99 fX11_findHeld_104
      rw [rf_373_0, ln_374, gd40, cl40, t40, if_neg (nle_of hi (by omega)), rf_373_10, ln_380, gd_in (n := 12) (by omega) (by decide), nI_cl (by omega), e11_formOf τ i (by omega), bd_v, e11_trainOf τ i (by omega), bd_v, hO _ (by omega), hO _ (by omega), nI_1]
      rfl
    have fin : ∀ v' : Int32, (v' = 1 ↔ v = 1 ∧ ¬ (hs g no t m (no - 1 - k) i = true ∧ g (41 + 5 * i) = 4 ∧ g (42 + 5 * i) = nI k)) → (v' = 1 ↔ w0 = 1 ∧ ∀ j, k < j → j < i + 1 → ¬ (hs g no t m (no - 1 - k) j = true ∧ g (41 + 5 * j) = 4 ∧ g (42 + 5 * j) = nI k)) := by
      intro v' hv'
      rw [hv', h]
      constructor
      · rintro ⟨⟨a, b⟩, c⟩
        refine ⟨a, fun j h1 h2 => ?_⟩
        by_cases q : j = i
        · subst q; exact c
        · exact b j h1 (by omega)
      · rintro ⟨a, b⟩
        exact ⟨⟨a, fun j h1 h2 => b j h1 (by omega)⟩, b i hki (by omega)⟩
    have hHi := hH i hki hi
    rcases hv with rfl | rfl
    · refine ⟨0, τ, fun K2 => by rw [hc K2, if_pos rfl], rfl, Or.inl rfl, by omega, fin 0 ?_⟩
      exact ⟨fun q => absurd q (by decide), fun q => absurd q.1 (by decide)⟩
    · by_cases a : hs g no t m (no - 1 - k) i = true
      · rw [if_pos a] at hHi
        by_cases b : g (41 + 5 * i) = 4
        · by_cases c : g (42 + 5 * i) = nI k
          · exact ⟨0, τ, fun K2 => by rw [hc K2, if_neg (by decide), hHi, if_neg (by decide), if_pos b, if_pos c], rfl, Or.inl rfl, by omega, fin 0 ⟨fun q => absurd q (by decide), fun q => absurd ⟨a, b, c⟩ q.2⟩⟩
          · exact ⟨1, τ, fun K2 => by rw [hc K2, if_neg (by decide), hHi, if_neg (by decide), if_pos b, if_neg c], rfl, Or.inr rfl, by omega, fin 1 ⟨fun _ => ⟨rfl, fun q => c q.2.2⟩, fun _ => rfl⟩⟩
        · exact ⟨1, τ, fun K2 => by rw [hc K2, if_neg (by decide), hHi, if_neg (by decide), if_neg b], rfl, Or.inr rfl, by omega, fin 1 ⟨fun _ => ⟨rfl, fun q => b q.2.1⟩, fun _ => rfl⟩⟩
      · rw [if_neg a] at hHi
        exact ⟨1, τ, fun K2 => by rw [hc K2, if_neg (by decide), hHi, if_pos rfl], rfl, Or.inr rfl, by omega, fin 1 ⟨fun _ => ⟨rfl, fun q => a q.1⟩, fun _ => rfl⟩⟩
  obtain ⟨v, σ1, fu, e, hσ, hv, -, hv2⟩ := sl2 (b := fX11_findHeld_52 373 (nI t) (nI m) (nI k) K) no _ hst (no - (k + 1)) (k + 1) FU w0 τ (by omega) (by rw [FU_s]; omega) ⟨rfl, hw, by omega, ⟨fun h => ⟨h, fun j a b => by omega⟩, fun h => h.1⟩⟩
  unfold fX11_findHeld_45
  rw [lt_v, lt_v, nI_1, e, hσ]
  generalize lq2 (fX11_findHeld_52 373 (nI t) (nI m) (nI k) K) fu = KK
  unfold fX11_findHeld_52
  rw [rf_373_0, ln_374, gd40, cl40, t40, if_pos (nI_le (Nat.le_refl _) (by omega)), rf_373_10, ln_380, gd_in (n := 12) (by omega) (by decide), nI_cl (by omega), lt_v, lt_v, nIm, vb_zo hv]
  congr 2
  have key : v = 1 ↔ w0 = 1 ∧ anb g (hs g no t m (no - 1 - k)) no k = false := by
    rw [hv2]
    constructor
    · rintro ⟨a, b⟩
      refine ⟨a, ?_⟩
      rcases hq : anb g (hs g no t m (no - 1 - k)) no k with _ | _
      · rfl
      · obtain ⟨j, h1, h2, h3⟩ := anb_iff.mp hq
        have := hs_rng _ _ (by omega) h2
        exact absurd ⟨h2, h3⟩ (b j (by omega) h1)
    · rintro ⟨a, b⟩
      refine ⟨a, fun j h1 h2 h3 => ?_⟩
      rw [anb_iff.mpr ⟨j, h2, h3⟩] at b
      exact absurd b (by decide)
  by_cases z : w0 = 1 ∧ anb g (hs g no t m (no - 1 - k)) no k = false
  · rw [if_pos z, key.mpr z]
  · rw [if_neg z]
    exact hv.resolve_right (fun q => z (key.mp q))
/-- the reference's rows say what train t holds in minute m -/
def HR (τ : Sg) (g : Nat → Int32) (no t m : Nat) : Prop := ∀ x, x < no → τ 380 x = if hE g no t m x = true then 1 else 0
theorem fh_lp {g : Nat → Int32} {n nt no nf t m : Nat} (hW : Wf g n nt no nf) (ht : t < 5) (hm : m ≤ 500) : ∀ j fu τ, j < fu → j ≤ no → On τ g → (∀ x, j ≤ x → x < no → τ 380 x = if hs g no t m (no - j) x = true then 1 else 0) → ∃ ρ, lq1 (fX11_findHeld_10 373 (nI t) (nI m)) fu (nI j - 1) τ = some ((), ρ) ∧ HR ρ g no t m ∧ ∀ c i, c ≠ 380 → ρ c i = τ c i := by
  have hno : no ≤ 12 := hW.1.2.2.1
  intro j
  induction j with
  | zero =>
    intro fu τ hf hj hO hH
    obtain ⟨fu, rfl⟩ : ∃ k, fu = k + 1 := ⟨fu - 1, by omega⟩
    refine ⟨τ, ?_, fun x hx => hH x (by omega) hx, fun c i _ => rfl⟩
    change fX11_findHeld_10 373 _ _ _ _ _ = _
    unfold fX11_findHeld_10
    rw [if_pos (by decide)]
  | succ j ih =>
    intro fu τ hf hj hO hH
    obtain ⟨fu, rfl⟩ : ∃ k, fu = k + 1 := ⟨fu - 1, by omega⟩
    rw [nI_pred]
    have hH' : ∀ x, j < x → x < no → τ 380 x = if hs g no t m (no - 1 - j) x = true then 1 else 0 := fun x h1 h2 => by
      rw [hH x h1 h2, show no - (j + 1) = no - 1 - j by omega]
    have x5 : (101 : Int32) + 5 * nI j + nI t = nI (101 + 5 * j + t) := by rw [ix2 (A := 101) (B := 5) 101 5 j rfl rfl, nI_add]
    have key : ∃ w0 : Int32, (w0 = 0 ∨ w0 = 1) ∧ (w0 = 1 ↔ hh g t m j = true) ∧ lq1 (fX11_findHeld_10 373 (nI t) (nI m)) (fu + 1) (nI j) τ = fX11_findHeld_45 373 (nI t) (nI m) (nI j) w0 (lq1 (fX11_findHeld_10 373 (nI t) (nI m)) fu) τ := by
      change ∃ w0 : Int32, _ ∧ _ ∧ fX11_findHeld_10 373 (nI t) (nI m) (lq1 (fX11_findHeld_10 373 (nI t) (nI m)) fu) (nI j) τ = _
      unfold fX11_findHeld_10 fX11_findHeld_44
      rw [if_neg (not_lt0 (by omega)), x5, rf_373_0, ln_374, gd_in (n := 174) (by omega) (by decide), lt_v, nI_cl (by omega), hO _ (by omega)]
      rcases hW.hd (show j < no by omega) ht with e | ⟨q, hq, e⟩
      · rw [e, if_pos (by decide), hh_m1 e]
        exact ⟨0, Or.inl rfl, ⟨fun q => absurd q (by decide), fun q => absurd q (by decide)⟩, rfl⟩
      · rw [e, if_neg (not_lt0 (by omega)), hh_v e hq hm]
        by_cases z : q ≤ m
        · rw [if_neg (nI_nlt z (by omega))]
          exact ⟨1, Or.inr rfl, ⟨fun _ => decide_eq_true z, fun _ => rfl⟩, rfl⟩
        · rw [if_pos (nI_lt (by omega) (by omega))]
          exact ⟨0, Or.inl rfl, ⟨fun q => absurd q (by decide), fun q => absurd (of_decide_eq_true q) z⟩, rfl⟩
    obtain ⟨w0, hw, hw1, e1⟩ := key
    rw [e1, fh_in hO hW _ (by omega) hH' w0 hw]
    obtain ⟨ρ, e2, h2, h3⟩ := ih fu (wr τ 380 j (if w0 = 1 ∧ anb g (hs g no t m (no - 1 - j)) no j = false then 1 else 0)) (by omega) (by omega) (fun k hk => by rw [wr_c (by decide)]; exact hO k hk) (fun x h1 h2 => by
      rw [show no - j = no - 1 - j + 1 by omega]
      by_cases q : x = j
      · subst q
        have hn := hs_new (g := g) (no := no) (t := t) (m := m) (d := no - 1 - x)
        rw [show no - 1 - (no - 1 - x) = x by omega] at hn
        rw [wr_eq, hn]
        simp only [Bool.and_eq_true]
        by_cases z : w0 = 1 ∧ anb g (hs g no t m (no - 1 - x)) no x = false
        · rw [if_pos z, if_pos ⟨hw1.mp z.1, by rw [z.2]; rfl⟩]
        · rw [if_neg z, if_neg (fun y => z ⟨hw1.mpr y.1, by have := y.2; simpa using this⟩)]
      · rw [wr_i q, hs_old (by omega)]
        exact hH' x (by omega) h2)
    exact ⟨ρ, e2, h2, fun c i hc => by rw [h3 c i hc, wr_c hc]⟩
theorem e11_findHeld {τ : Sg} {g : Nat → Int32} {n nt no nf t m : Nat} (hO : On τ g) (hW : Wf g n nt no nf) (ht : t < 5) (hm : m ≤ 500) : ∃ ρ, fX11_findHeld 373 (nI t) (nI m) τ = some ((), ρ) ∧ HR ρ g no t m ∧ ∀ c i, c ≠ 380 → ρ c i = τ c i := by
  have hno := hW.1.2.2.1
  have t40 : τ 374 40 = nI no := (hO 40 (by decide)).trans hW.2.1.2.2.1
  unfold fX11_findHeld
  rw [rf_373_0, ln_374, gd40, cl40, t40, lt_v]
  exact fh_lp hW ht hm no FU τ (by rw [FU_s]; omega) (by omega) hO (fun x h1 h2 => by omega)
/-! PURE: holds -/
theorem Inv_380 {σ ρ : Sg} (h : ∀ c i, c ≠ 380 → ρ c i = σ c i) (hI : Inv σ) : Inv ρ := by
  have r : ∀ c, c ≠ 380 → σ c = ρ c := fun c hc => funext fun i => (h c i hc).symm
  refine Inv_alk ⟨fun c q0 _ _ _ _ => r c (by omega), ⟨(h _ _ (by decide)).symm, (h _ _ (by decide)).symm, (h _ _ (by decide)).symm, (h _ _ (by decide)).symm⟩, fun i _ _ => (h _ _ (by decide)).symm, fun c hc => r c (by omega)⟩ ?_ hI
  obtain ⟨n, nt, no, nf, a1, a2, a3, a4, a5, a6⟩ := hI
  rw [h _ _ (by decide), h _ _ (by decide), a5]
theorem s_holds {σ : Sg} (hI : Inv σ) (a1 a2 a3 : Int32) : Two (fX10_holds 0 a1 a2 a3) (fX11_holds 373 a1 a2 a3) σ := by
  obtain ⟨n, nt, no, nf, hL, hW, h4, h7, h13, h3⟩ := hI.k
  obtain ⟨g0, g14, g40, g161⟩ := hW.2.1
  have hnt : nt ≤ 5 := hW.1.2.1
  have hno : no ≤ 12 := hW.1.2.2.1
  unfold fX10_holds fX11_holds
  simp only [rf_0_2, rf_3_1, rf_3_2, e9_has (v0 := 7) h7, e5_has (v0 := 13) h13, bd_v, e10_finding, e11_finds, e10_isWithin, e11_isMinute]
  by_cases A : ib a1 nt = 0
  · exact two_find (-100001) hI (by simp only [e9_has (v0 := 7) h7, bd_v, A, if_true]) (fun τ hτ => by
      rw [e11_isTrain (n := nt) (by rw [row374 hτ, g14]) (by omega), bd_v, if_pos A])
  obtain ⟨s, hs, rfl⟩ := ib_of (by omega) A
  by_cases D : ib a2 no = 0
  · exact two_find (-100001) hI (by simp only [e9_has (v0 := 7) h7, e5_has (v0 := 13) h13, bd_v, if_neg A, D, if_true]) (fun τ hτ => by
      rw [e11_isTrain (n := nt) (by rw [row374 hτ, g14]) (by omega), bd_v, if_neg A, e11_isOrder (n := no) (by rw [row374 hτ, g40]) (by omega), bd_v, if_pos D])
  obtain ⟨p, hp, rfl⟩ := ib_of (by omega) D
  by_cases B : iw a3 0 500 = 0
  · exact two_find (-100001) hI (by simp only [e9_has (v0 := 7) h7, e5_has (v0 := 13) h13, bd_v, if_neg A, if_neg D, B, if_true]) (fun τ hτ => by
      rw [e11_isTrain (n := nt) (by rw [row374 hτ, g14]) (by omega), bd_v, if_neg A, e11_isOrder (n := no) (by rw [row374 hτ, g40]) (by omega), bd_v, if_neg D, if_pos B])
  obtain ⟨v, -, hv, rfl⟩ := iw_nat (a := 0) (b := 500) (iw_of B).1 (iw_of B).2 (by decide) (by decide)
  obtain ⟨r, er, hr⟩ := e5_heldBy hL hW (show s < 5 by omega) hv
  obtain ⟨ρ, eρ, hR, hf⟩ := e11_findHeld (τ := σ) (fun k _ => rfl) hW (show s < 5 by omega) hv
  have hz : ((r >>> (nI p &&& 31)) &&& 1) = if hE (σ 374) no s v p = true then 1 else 0 := by
    by_cases z : hE (σ 374) no s v p = true
    · rw [if_pos z]
      have h1 : bt r p = true := by rw [hr p (by omega), z]
      refine b_ext fun i hi => ?_
      rw [b_and, b_1 i hi]
      by_cases y : i = 0
      · subst y
        rw [b_sshr p (by omega) r (by decide), if_pos (by omega), show p + 0 = p from rfl, h1]
        rfl
      · rw [decide_eq_false y, Bool.and_false]
    · rw [if_neg z]
      exact (bt_test r p (by omega)).mpr (by rw [hr p (by omega)]; simpa using z)
  refine ⟨if hE (σ 374) no s v p = true then 1 else 0, σ, ρ, ?_, ?_, Inv_380 hf hI⟩
  · simp only [e9_has (v0 := 7) h7, e5_has (v0 := 13) h13, bd_v, if_neg A, if_neg D, if_neg B, er, hz]
  · show bd _ _ = _
    rw [e11_isTrain (n := nt) g14 (by omega), bd_v, if_neg A, e11_isOrder (n := no) g40 (by omega), bd_v, if_neg D, if_neg B, eρ, bd_v, rf_373_10, ln_380, gd_in (n := 12) (by omega) (by decide), nI_cl (by omega), hR p hp]
    by_cases z : hE (σ 374) no s v p = true
    · rw [if_pos z]; rfl
    · rw [if_neg z]; rfl
