/-! PURE: papers are brought up to a minute -/
theorem hs_same {g : Nat → Int32} {no t m m' : Nat} (h : ∀ k, k < no → hh g t m k = hh g t m' k) : ∀ d, d ≤ no → hs g no t m d = hs g no t m' d := by
  intro d
  induction d with
  | zero => intro _; rfl
  | succ d ih =>
    intro hd
    funext x
    have e := ih (by omega)
    show (if x = no - 1 - d then hh g t m x && !(anb g (hs g no t m d) no x) else hs g no t m d x) = (if x = no - 1 - d then hh g t m' x && !(anb g (hs g no t m' d) no x) else hs g no t m' d x)
    rw [e]
    by_cases q : x = no - 1 - d
    · rw [if_pos q, if_pos q, h x (by omega)]
    · rw [if_neg q, if_neg q]
theorem hE_same {g : Nat → Int32} {no t m m' : Nat} (h : ∀ k, k < no → hh g t m k = hh g t m' k) : hE g no t m = hE g no t m' := hs_same h no (Nat.le_refl _)
theorem e5_nextHanding {σ : Sg} {g : Nat → Int32} {n nt no nf t m : Nat} (hL : LR σ 3 g) (hW : Wf g n nt no nf) (ht : t < 5) (hm : m ≤ 500) : ∃ u, m < u ∧ u ≤ 501 ∧ fX5_nextHanding 13 (nI t) (nI m) σ = some (nI u, σ) ∧ ∀ m', m ≤ m' → m' < u → hE g no t m' = hE g no t m := by
  have hno : no ≤ 12 := hW.1.2.2.1
  have h13 : σ 13 0 = nI no := hL.1.2.2.1.trans hW.2.1.2.2.1
  have hst : ∀ i v (ρ : Sg), i < no → (ρ = σ ∧ ∃ u, v = nI u ∧ m < u ∧ u ≤ 501 ∧ ∀ k q, k < i → q ≤ 400 → g (101 + 5 * k + t) = nI q → q ≤ m ∨ u ≤ q) → ∃ v' ρ', (∀ K, fX5_nextHanding_7 13 (nI t) (nI m) K v (nI i) ρ = K v' (nI (i + 1)) ρ') ∧ (ρ' = σ ∧ ∃ u, v' = nI u ∧ m < u ∧ u ≤ 501 ∧ ∀ k q, k < i + 1 → q ≤ 400 → g (101 + 5 * k + t) = nI q → q ≤ m ∨ u ≤ q) := by
    rintro i v ρ hi ⟨hρ, u, rfl, h1, h2, h3⟩
    rw [hρ]
    have x5 : nI i * 5 + nI t = nI (5 * i + t) := by rw [show (5 : Int32) = nI 5 from rfl, pk_mul, nI_add, Nat.mul_comm]
    have hv := hL.hd hW hi ht
    have hc : ∀ K : Int32 → Int32 → Sg → Option (Int32 × Sg), fX5_nextHanding_7 13 (nI t) (nI m) K (nI u) (nI i) σ = (if g (101 + 5 * i + t) ≤ nI m then K (nI u) (nI (i + 1)) σ else if nI u ≤ g (101 + 5 * i + t) then K (nI u) (nI (i + 1)) σ else K (g (101 + 5 * i + t)) (nI (i + 1)) σ) := by
      intro K
      unfold fX5_nextHanding_7 fX5_nextHanding_44
      rw [h13, if_neg (nle_of hi (by omega)), x5, rf_13_6, ln_19, gd_in (n := 60) (by omega) (by decide), lt_v, nI_cl (by omega), hv, nI_1]
      rfl
    have nx : ∀ u', u' ≤ u → (∀ q, q ≤ 400 → g (101 + 5 * i + t) = nI q → q ≤ m ∨ u' ≤ q) → ∀ k q, k < i + 1 → q ≤ 400 → g (101 + 5 * k + t) = nI q → q ≤ m ∨ u' ≤ q := by
      intro u' hu' hq k q hk hq4 e
      by_cases z : k = i
      · subst z; exact hq q hq4 e
      · have := h3 k q (by omega) hq4 e
        omega
    rcases hW.hd hi ht with e | ⟨q, hq, e⟩
    · refine ⟨nI u, σ, fun K => ?_, rfl, u, rfl, h1, h2, nx u (Nat.le_refl _) (fun q' hq' e' => ?_)⟩
      · rw [hc K, e, if_pos (Int32.le_trans (show (-1 : Int32) ≤ 0 from by decide) (nI_pos' (by omega)))]
      · rw [e] at e'; exact absurd e'.symm (nI_m1 (by omega))
    · have inj : ∀ q', q' ≤ 400 → g (101 + 5 * i + t) = nI q' → q' = q := fun q' hq' e' => ((nI_eq (by omega) (by omega)).mp (e.symm.trans e')).symm
      by_cases z : q ≤ m
      · refine ⟨nI u, σ, fun K => ?_, rfl, u, rfl, h1, h2, nx u (Nat.le_refl _) (fun q' hq' e' => ?_)⟩
        · rw [hc K, e, if_pos (nI_le z (by omega))]
        · rw [inj q' hq' e']; exact Or.inl z
      · by_cases y : u ≤ q
        · refine ⟨nI u, σ, fun K => ?_, rfl, u, rfl, h1, h2, nx u (Nat.le_refl _) (fun q' hq' e' => ?_)⟩
          · rw [hc K, e, if_neg (nle_of (by omega) (by omega)), if_pos (nI_le y (by omega))]
          · rw [inj q' hq' e']; exact Or.inr y
        · refine ⟨nI q, σ, fun K => ?_, rfl, q, rfl, by omega, by omega, nx q (by omega) (fun q' hq' e' => ?_)⟩
          · rw [hc K, e, if_neg (nle_of (by omega) (by omega)), if_neg (nle_of (by omega) (by omega))]
          · rw [inj q' hq' e']; exact Or.inr (Nat.le_refl _)
  obtain ⟨v, ρ, fu, e, hρ, u, hv, h1, h2, h3⟩ := sl2 (b := fX5_nextHanding_7 13 (nI t) (nI m)) no _ hst no 0 FU 501 σ (by omega) (by rw [FU_s]; omega) ⟨rfl, 501, rfl, by omega, by omega, fun k q hk => by omega⟩
  refine ⟨u, h1, h2, ?_, fun m' hm1 hm2 => hE_same (fun k hk => ?_)⟩
  · unfold fX5_nextHanding
    rw [lt_v, lt_v]
    refine Eq.trans e ?_
    rw [hρ, hv]
    generalize lq2 (fX5_nextHanding_7 13 (nI t) (nI m)) fu = KK
    unfold fX5_nextHanding_7
    rw [h13, if_pos (nI_le (Nat.le_refl _) (by omega))]
  · rcases hW.hd hk ht with e | ⟨q, hq, e⟩
    · rw [hh_m1 e, hh_m1 e]
    · rw [hh_v e hq (by omega), hh_v e hq hm]
      have := h3 k q hk hq e
      by_cases z : q ≤ m
      · rw [decide_eq_true z, decide_eq_true (by omega)]
      · rw [decide_eq_false z, decide_eq_false (by omega)]
/-- the meet more: of a and b at s -/
def Xo (E : Option (Nat × Nat × Nat)) (t : Nat) : Int32 := match E with
  | none => -1
  | some (a, b, _) => if t = a then nI b else if t = b then nI a else -1
def Xs (E : Option (Nat × Nat × Nat)) : Int32 := match E with
  | none => -1
  | some (_, _, s) => nI s
def xmt (E : Option (Nat × Nat × Nat)) (t s o : Nat) : Prop := match E with
  | none => False
  | some (a, b, z) => s = z ∧ ((t = a ∧ o = b) ∨ (t = b ∧ o = a))
def Xok (E : Option (Nat × Nat × Nat)) (n nt : Nat) : Prop := match E with
  | none => True
  | some (a, b, s) => a < b ∧ b < nt ∧ s < n
/-- the papers of train t are right for what it holds by H -/
def Pap (σ : Sg) (g : Nat → Int32) (E : Option (Nat × Nat × Nat)) (no t : Nat) (H : Nat → Bool) : Prop := (∀ a, a < 5 → σ (38 + 4 * t) a = lsm g H a no) ∧ (∀ s, s < 7 → σ (39 + 4 * t) s = wmx g H t s no) ∧ σ (37 + 4 * t) 4 = rmn g H t no ∧ ∀ s o, s < 7 → o < 32 → (bt (σ (40 + 4 * t) s) o = true ↔ mtb g H t s o no ∨ xmt E t s o)
/-- from minute m on the papers of train t are right as long as they say -/
def PO (σ : Sg) (g : Nat → Int32) (E : Option (Nat × Nat × Nat)) (no t m : Nat) : Prop := ∃ u, σ (37 + 4 * t) 3 = nI u ∧ u ≤ 501 ∧ ∀ m', m ≤ m' → m' < u → Pap σ g E no t (hE g no t m')
def PX (σ : Sg) (E : Option (Nat × Nat × Nat)) (t : Nat) : Prop := σ (37 + 4 * t) 0 = nI t ∧ σ (37 + 4 * t) 1 = Xo E t ∧ σ (37 + 4 * t) 2 = Xs E
theorem e6_bringUpTo {σ : Sg} {g : Nat → Int32} {E : Option (Nat × Nat × Nat)} {n nt no nf t m : Nat} (hL : LR σ 3 g) (hW : Wf g n nt no nf) (hE0 : Xok E n nt) (ht : t < nt) (hm : m ≤ 500) (hX : PX σ E t) (hP : PO σ g E no t m) : ∃ τ, fX6_bringUpTo (37 + 4 * t) (nI m) 13 σ = some ((), τ) ∧ Pap τ g E no t (hE g no t m) ∧ PO τ g E no t m ∧ PX τ E t ∧ ∀ c i, (c < 37 + 4 * t ∨ 40 + 4 * t < c) → τ c i = σ c i := by
  have hno : no ≤ 12 := hW.1.2.2.1
  have hnt : nt ≤ 5 := hW.1.2.1
  have hn : n ≤ 7 := hW.1.1.2
  have h13 : σ 13 0 = nI no := hL.1.2.2.1.trans hW.2.1.2.2.1
  obtain ⟨⟨-, p1, p2, p3⟩, q1, q2, q3⟩ := rf_pap t (by omega)
  obtain ⟨x0, x1, x2⟩ := hX
  obtain ⟨u, hu, hu5, hu2⟩ := hP
  unfold fX6_bringUpTo
  rw [hu]
  by_cases A : u ≤ m
  · rw [if_pos (nI_le A (by omega)), x0]
    obtain ⟨w, w1, w2, w3, w4⟩ := e5_nextHanding hL hW (show t < 5 by omega) hm
    rw [w3, bd_v, lt_v, lt_v, p1, p2, p3, e_fill (38 + 4 * t) 5 0 q1 (by decide), bd_v, e_fill (39 + 4 * t) 7 0 q2 (by decide), bd_v, e_fill (40 + 4 * t) 7 0 q3 (by decide), bd_v]
    generalize hs : upR (upR (upR (wr (wr σ (37 + 4 * t) 3 (nI w)) (37 + 4 * t) 4 501) (38 + 4 * t) 0 5 fun _ => 0) (39 + 4 * t) 0 7 fun _ => 0) (40 + 4 * t) 0 7 (fun _ => 0) = s0
    have f0 : ∀ c i, (c < 37 + 4 * t ∨ 40 + 4 * t < c) → s0 c i = σ c i := fun c i hc => by
      rw [← hs, upR_c (by omega), upR_c (by omega), upR_c (by omega), wr_c (by omega), wr_c (by omega)]
    have f1 : ∀ i, i < 3 → s0 (37 + 4 * t) i = σ (37 + 4 * t) i := fun i hi => by
      rw [← hs, upR_c (by omega), upR_c (by omega), upR_c (by omega), wr_i (by omega), wr_i (by omega)]
    have f3 : s0 (37 + 4 * t) 3 = nI w := by
      rw [← hs, upR_c (by omega), upR_c (by omega), upR_c (by omega), wr_i (by omega), wr_eq]
    have P0 : PapC s0 g t (hE g no t m) 0 := by
      refine ⟨fun a ha => ?_, fun s hs' => ?_, ?_, fun s o hs' ho => ?_⟩
      · rw [← hs, upR_c (by omega), upR_c (by omega), upR_in (by omega) ha]; rfl
      · rw [← hs, upR_c (by omega), upR_in (by omega) hs']; rfl
      · rw [← hs, upR_c (by omega), upR_c (by omega), upR_c (by omega), wr_eq]; rfl
      · rw [← hs, upR_in (by omega) hs', b_0]
        exact ⟨fun h => absurd h (by decide), fun ⟨k, hk, _⟩ => by omega⟩
    have hL0 : LR s0 3 g := LR_congr (fun c c1 c2 => funext fun i => (f0 c i (by omega)).symm) hL
    rw [f1 0 (by decide), x0]
    obtain ⟨r, er, hr⟩ := e5_heldBy hL0 hW (show t < 5 by omega) hm
    rw [er, bd_v, lt_v, lt_v]
    have hst : ∀ i (ρ : Sg), i < no → (PapC ρ g t (hE g no t m) i ∧ (∀ c j, (c < 37 + 4 * t ∨ 40 + 4 * t < c) → ρ c j = σ c j) ∧ ∀ j, j < 4 → ρ (37 + 4 * t) j = s0 (37 + 4 * t) j) → ∃ ρ', (∀ K, fX6_bringUpTo_66 (37 + 4 * t) 13 r K (nI i) ρ = K (nI (i + 1)) ρ') ∧ (PapC ρ' g t (hE g no t m) (i + 1) ∧ (∀ c j, (c < 37 + 4 * t ∨ 40 + 4 * t < c) → ρ' c j = σ c j) ∧ ∀ j, j < 4 → ρ' (37 + 4 * t) j = s0 (37 + 4 * t) j) := by
      rintro i ρ hi ⟨hp, hf, hf2⟩
      have hLρ : LR ρ 3 g := LR_congr (fun c c1 c2 => funext fun j => (hf c j (by omega)).symm) hL
      have hb : bt r i = hE g no t m i := hr i (by omega)
      by_cases z : hE g no t m i = true
      · obtain ⟨ρ', e1, e2, e3, e4⟩ := e6_take hLρ hW ht hi (by rw [hf2 0 (by decide), f1 0 (by decide), x0]) z hp
        refine ⟨ρ', fun K => ?_, e2, fun c j hc => by rw [e3 c j hc, hf c j hc], fun j hj => by rw [e4 j hj, hf2 j hj]⟩
        unfold fX6_bringUpTo_66 fX6_bringUpTo_91
        rw [hf 13 0 (by omega), h13, if_neg (nle_of hi (by omega)), if_neg (fun h => by rw [bt_test r i (by omega), hb, z] at h; exact absurd h (by decide)), e1, bd_v, lt_v, nI_1]
      · refine ⟨ρ, fun K => ?_, PapC_skip (by simpa using z) hp, hf, hf2⟩
        unfold fX6_bringUpTo_66 fX6_bringUpTo_91
        rw [hf 13 0 (by omega), h13, if_neg (nle_of hi (by omega)), if_pos ((bt_test r i (by omega)).mpr (by rw [hb]; simpa using z)), lt_v, nI_1]
    obtain ⟨ρ, fu, e, hp, hf, hf2⟩ := sl1 (b := fX6_bringUpTo_66 (37 + 4 * t) 13 r) no _ hst no 0 FU s0 (by omega) (by rw [FU_s]; omega) ⟨P0, f0, fun j _ => rfl⟩
    have e' : lq1 (fX6_bringUpTo_66 (37 + 4 * t) 13 r) FU 0 s0 = fX6_bringUpTo_66 (37 + 4 * t) 13 r (lq1 (fX6_bringUpTo_66 (37 + 4 * t) 13 r) fu) (nI no) ρ := e
    rw [e']
    generalize lq1 (fX6_bringUpTo_66 (37 + 4 * t) 13 r) fu = KK
    unfold fX6_bringUpTo_66
    rw [hf 13 0 (by omega), h13, if_pos (nI_le (Nat.le_refl _) (by omega)), hf2 1 (by decide), f1 1 (by decide), x1, hf2 2 (by decide), f1 2 (by decide), x2, p3, q3]
    have fin : ∀ τ : Sg, (∀ s o, s < 7 → o < 32 → (bt (τ (40 + 4 * t) s) o = true ↔ bt (ρ (40 + 4 * t) s) o = true ∨ xmt E t s o)) → (∀ c i, c ≠ 40 + 4 * t → τ c i = ρ c i) → Pap τ g E no t (hE g no t m) ∧ PO τ g E no t m ∧ PX τ E t ∧ ∀ c i, (c < 37 + 4 * t ∨ 40 + 4 * t < c) → τ c i = σ c i := by
      intro τ k1 k2
      have pp : Pap τ g E no t (hE g no t m) := ⟨fun a ha => by rw [k2 _ _ (by omega)]; exact hp.1 a ha, fun s hs' => by rw [k2 _ _ (by omega)]; exact hp.2.1 s hs', by rw [k2 _ _ (by omega)]; exact hp.2.2.1, fun s o hs' ho => by rw [k1 s o hs' ho, hp.2.2.2 s o hs' ho]⟩
      refine ⟨pp, ⟨w, by rw [k2 _ _ (by omega), hf2 3 (by decide), f3], w2, fun m' m1 m2 => by rw [w4 m' m1 m2]; exact pp⟩, ⟨?_, ?_, ?_⟩, fun c i hc => by rw [k2 _ _ (by omega), hf c i hc]⟩
      · rw [k2 _ _ (by omega), hf2 0 (by decide), f1 0 (by decide), x0]
      · rw [k2 _ _ (by omega), hf2 1 (by decide), f1 1 (by decide), x1]
      · rw [k2 _ _ (by omega), hf2 2 (by decide), f1 2 (by decide), x2]
    rcases E with _ | ⟨a, b, s⟩
    · rw [if_pos (show Xo none t = -1 from rfl)]
      exact ⟨ρ, rfl, fin ρ (fun s o _ _ => ⟨Or.inl, fun h => h.resolve_right id⟩) (fun c i _ => rfl)⟩
    · obtain ⟨y1, y2, y3⟩ : a < b ∧ b < nt ∧ s < n := hE0
      by_cases B : t = a ∨ t = b
      · obtain ⟨y, hy, ey, hyy⟩ : ∃ y, y < 5 ∧ Xo (some (a, b, s)) t = nI y ∧ ∀ z o, xmt (some (a, b, s)) t z o ↔ z = s ∧ o = y := by
          rcases B with B | B
          · refine ⟨b, by omega, ?_, fun z o => ?_⟩
            · show (if t = a then nI b else _) = _
              rw [if_pos B]
            · show z = s ∧ ((t = a ∧ o = b) ∨ (t = b ∧ o = a)) ↔ _
              omega
          · refine ⟨a, by omega, ?_, fun z o => ?_⟩
            · show (if t = a then nI b else if t = b then nI a else -1) = _
              rw [if_neg (by omega), if_pos B]
            · show z = s ∧ ((t = a ∧ o = b) ∨ (t = b ∧ o = a)) ↔ _
              omega
        have es : Xs (some (a, b, s)) = nI s := rfl
        rw [ey, if_neg (nI_m1 (by omega)), es, gd_in (n := 7) (by omega) (by decide), gd_in (n := 7) (by omega) (by decide), lt_v, nI_cl (by omega)]
        refine ⟨_, rfl, fin _ (fun z o hz ho => ?_) (fun c i hc => wr_c hc)⟩
        rw [hyy]
        by_cases x : z = s
        · subst x
          rw [wr_eq, bt_set _ _ _ (by omega) ho, Bool.or_eq_true, decide_eq_true_eq]
          exact ⟨fun h => h.imp id (fun h => ⟨rfl, h.symm⟩), fun h => h.imp id (fun h => h.2.symm)⟩
        · rw [wr_i x]
          exact ⟨Or.inl, fun h => h.resolve_right (fun q => x q.1)⟩
      · have ey : Xo (some (a, b, s)) t = -1 := by
          show (if t = a then nI b else if t = b then nI a else -1) = _
          rw [if_neg (by omega), if_neg (by omega)]
        rw [if_pos ey]
        refine ⟨ρ, rfl, fin ρ (fun z o _ _ => ⟨Or.inl, fun h => h.resolve_right (fun q => ?_)⟩) (fun c i _ => rfl)⟩
        have : z = s ∧ ((t = a ∧ o = b) ∨ (t = b ∧ o = a)) := q
        omega
  · rw [if_neg (nle_of (by omega) (by omega))]
    exact ⟨σ, rfl, hu2 m (Nat.le_refl _) (by omega), ⟨u, hu, hu5, hu2⟩, ⟨x0, x1, x2⟩, fun c i _ => rfl⟩
