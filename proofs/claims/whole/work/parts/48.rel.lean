/-! PURE: how class and reference stand to each other within a day -/
def plc (h p : Nat) : Nat := if h = 0 then 200 else if h = 3 then 300 else if h = 2 then 100 + p else p
/-- the reference's train t: h how, p place, w way, b back, l left at -/
def TrR (τ : Sg) (t h p w b l : Nat) : Prop := (τ 381 t = nI h ∧ (h = 1 ∨ h = 2 → τ 382 t = nI p) ∧ τ 383 t = nI w) ∧ (τ 391 t = nI b ∧ (h = 2 → τ 384 t = nI l)) ∧ (h ≠ 3 → τ 385 t = -1) ∧ (h = 3 → ∃ v, v ≤ 500 ∧ τ 385 t = nI v)
/-- the class's -/
def TrC (g : Nat → Int32) (σ : Sg) (t h p w b l : Nat) : Prop := (σ 30 t = nI (plc h p) ∧ σ 31 t = nI w ∧ (∃ k, k < 4 ∧ g (15 + 5 * t) = nI k ∧ σ 32 t = 2 * rnk k + (if w = 0 then 1 else 0))) ∧ (σ 33 t = (if b = 0 then g (17 + 5 * t) else g (16 + 5 * t)) ∧ (h = 2 → σ 34 t = nI l)) ∧ bt (σ 2 14) t = decide (h = 3)
/-- where it can be -/
def TrG (g : Nat → Int32) (n t m1 m2 h p w b l : Nat) : Prop := ∃ f d, (g (16 + 5 * t) = nI f ∧ g (17 + 5 * t) = nI d ∧ f < n ∧ d < n ∧ f ≠ d) ∧ (h ≤ 3 ∧ b < 2 ∧ w = (if b = 0 then (if d ≤ f then 1 else 0) else (if d ≤ f then 0 else 1))) ∧ ((b = 1 → g (15 + 5 * t) = 3) ∧ (h = 0 → b = 0)) ∧ (h = 1 → (w = 0 ∧ min f d ≤ p ∧ p < max f d) ∨ (w = 1 ∧ min f d < p ∧ p ≤ max f d)) ∧ (h = 2 → (min f d ≤ p ∧ p < max f d ∧ l < m1) ∧ ∃ v, 1 ≤ v ∧ v ≤ 30 ∧ g (8 + p) = nI v ∧ m2 ≤ l + v)
/-- where it was -/
def TrS (σ τ : Sg) (t h w b : Nat) : Prop := (h ≠ 3 → ∀ q, q < 7 → (τ 392 (7 * t + q) ≠ 0 ↔ (bt (σ 35 q) t = true ∨ bt (σ 35 (7 + q)) t = true)) ∧ (τ 393 (7 * t + q) ≠ 0 ↔ bt (σ 35 (7 * w + q)) t = true)) ∧ (b = 0 → ∀ q, q < 7 → bt (σ 35 (7 * (1 - w) + q)) t = false)
def Tr (g : Nat → Int32) (n : Nat) (σ τ : Sg) (m1 m2 t : Nat) : Prop := ∃ h p w b l, TrR τ t h p w b l ∧ TrC g σ t h p w b l ∧ TrG g n t m1 m2 h p w b l ∧ TrS σ τ t h w b
/-- what the class has made ready for the day -/
def SC (g : Nat → Int32) (E : Option (Nat × Nat × Nat)) (n nt : Nat) (σ : Sg) : Prop := LR σ 3 g ∧ ∀ t, t < nt → ((∀ q, q < n → σ 28 (7 * t + q) = du g t q) ∧ (∀ k, k < 6 → (bt (σ 29 t) k = true ↔ gov2 g t k))) ∧ (bt (σ 2 13) t = true ↔ tt g t) ∧ PX σ E t
def LL (σ τ : Sg) : Prop := ∀ j, j < 14 → (σ 36 j = -1000 ∧ τ 388 j = -100) ∨ ∃ v, v ≤ 500 ∧ σ 36 j = nI v ∧ τ 388 j = nI v
theorem wTrG {g : Nat → Int32} {n t m1 m2 h p w b l : Nat} (hG : TrG g n t m1 m2 h p w b l) : w < 2 := by
  obtain ⟨f, d, -, ⟨-, -, h2⟩, -⟩ := hG
  rw [h2]
  split <;> split <;> omega
theorem okTr {g : Nat → Int32} {n t m1 m2 p w b l : Nat} (hG : TrG g n t m1 m2 1 p w b l) : okW w p n := by
  obtain ⟨f, d, ⟨-, -, h1, h2, h3⟩, -, -, h4, -⟩ := hG
  rcases h4 rfl with ⟨rfl, h5⟩ | ⟨rfl, h5⟩
  · exact ⟨by omega, Or.inl ⟨rfl, by omega⟩⟩
  · exact ⟨by omega, Or.inr ⟨rfl, by omega⟩⟩
theorem sup_tab : ∀ k, k < 4 → ∀ k2, k2 < 4 → ∀ w, w < 2 → (((2 * rnk k + (if 1 - w = 0 then 1 else 0)) < (2 * rnk k2 + (if w = 0 then 1 else 0) : Int32)) ↔ (if (if nI k2 = 3 then 0 else nI k2) < (if nI k = 3 then 0 else nI k) then (1 : Int32) else if (if nI k = 3 then 0 else nI k) = (if nI k2 = 3 then 0 else nI k2) then (if nI (1 - w) = 0 then 1 else 0) else 0) = 0) := by decide +kernel
theorem mt_in {g : Nat → Int32} {n nt no nf t o k : Nat} (hW : Wf g n nt no nf) (hk : k < no) (ht : t < nt) (ho : o < 32) (h : mt1 g t o k) : o < nt ∧ o ≠ t := by
  have hnt := hW.nt
  obtain ⟨h0, h1⟩ := h
  rcases hW.2.2.2.2.2.1 k hk with ⟨a, b, s, ha, hb, hab, hs, e1, e2, e3, e4, e5⟩ | ⟨a, v, -, -, -, q, -⟩ | ⟨a, s, v, -, -, -, q, -⟩ | ⟨a, v, -, -, q, -⟩ | ⟨a, -, q, -⟩
  · rw [e2, e3, nI_eq (by omega) (by omega), nI_eq (by omega) (by omega), nI_eq (by omega) (by omega), nI_eq (by omega) (by omega)] at h1
    omega
  · rw [h0] at q; exact absurd q (by decide)
  · rw [h0] at q; exact absurd q (by decide)
  · rw [h0] at q; exact absurd q (by decide)
  · rw [h0] at q; exact absurd q (by decide)
theorem xm_in {E : Option (Nat × Nat × Nat)} {n nt t s o : Nat} (hX : Xok E n nt) (h : xmt E t s o) : o < nt ∧ o ≠ t := by
  rcases E with _ | ⟨a, b, z⟩
  · exact absurd h id
  · obtain ⟨y1, y2, y3⟩ : a < b ∧ b < nt ∧ z < n := hX
    have : s = z ∧ ((t = a ∧ o = b) ∨ (t = b ∧ o = a)) := h
    omega
theorem mx_in {g : Nat → Int32} {E : Option (Nat × Nat × Nat)} {H : Nat → Bool} {n nt no nf t s o : Nat} (hW : Wf g n nt no nf) (hX : Xok E n nt) (ht : t < nt) (ho : o < 32) (h : mtb g H t s o no ∨ xmt E t s o) : o < nt ∧ o ≠ t := by
  rcases h with ⟨k, h1, -, -, h2⟩ | h
  · exact mt_in hW h1 ht ho h2
  · exact xm_in hX h
theorem c_metBeyond {σ : Sg} {t w s : Nat} (ht : t < 5) (hw : w < 2) (hs : s < 7) : ∃ r, fX6_metBeyond (37 + 4 * t) (nI s) (nI w) σ = some (r, σ) ∧ ∀ o, o < 32 → (bt r o = true ↔ ∃ z, z < 7 ∧ bey w s z ∧ bt (σ (40 + 4 * t) z) o = true) := by
  obtain ⟨⟨-, p1, p2, p3⟩, q1, q2, q3⟩ := rf_pap t ht
  have hst : ∀ i (v : Int32) (ρ : Sg), i < 7 → (ρ = σ ∧ ∀ o, o < 32 → (bt v o = true ↔ ∃ z, z < i ∧ bey w s z ∧ bt (σ (40 + 4 * t) z) o = true)) → ∃ v' ρ', (∀ K, fX6_metBeyond_5 (37 + 4 * t) (nI s) (nI w) K v (nI i) ρ = K v' (nI (i + 1)) ρ') ∧ (ρ' = σ ∧ ∀ o, o < 32 → (bt v' o = true ↔ ∃ z, z < i + 1 ∧ bey w s z ∧ bt (σ (40 + 4 * t) z) o = true)) := by
    rintro i v ρ hi ⟨hρ, hv⟩
    rw [hρ]
    have y : bey w s i → ∃ v' ρ', (∀ K, fX6_metBeyond_31 (37 + 4 * t) (nI s) (nI w) v (nI i) K σ = K v' (nI (i + 1)) ρ') ∧ (ρ' = σ ∧ ∀ o, o < 32 → (bt v' o = true ↔ ∃ z, z < i + 1 ∧ bey w s z ∧ bt (σ (40 + 4 * t) z) o = true)) := by
      intro hb
      refine ⟨v ||| σ (40 + 4 * t) i, σ, fun K => ?_, rfl, fun o ho => ?_⟩
      · unfold fX6_metBeyond_31 fX6_metBeyond_41
        rw [p3, q3, gd_in (n := 7) (by omega) (by decide), lt_v, lt_v, nI_1, nI_cl (by omega)]
      · rw [b_or, Bool.or_eq_true, hv o ho]
        constructor
        · rintro (⟨z, h1, h2⟩ | h2)
          · exact ⟨z, by omega, h2⟩
          · exact ⟨i, by omega, hb, h2⟩
        · rintro ⟨z, h1, h2⟩
          by_cases q : z = i
          · subst q; exact Or.inr h2.2
          · exact Or.inl ⟨z, by omega, h2⟩
    have x : ¬ bey w s i → ∃ v' ρ', (∀ K, fX6_metBeyond_41 (37 + 4 * t) (nI s) (nI w) v (nI i) K σ = K v' (nI (i + 1)) ρ') ∧ (ρ' = σ ∧ ∀ o, o < 32 → (bt v' o = true ↔ ∃ z, z < i + 1 ∧ bey w s z ∧ bt (σ (40 + 4 * t) z) o = true)) := by
      intro hb
      refine ⟨v, σ, fun K => ?_, rfl, fun o ho => ?_⟩
      · unfold fX6_metBeyond_41
        rw [lt_v, nI_1]
      · rw [hv o ho]
        constructor
        · rintro ⟨z, h1, h2⟩
          exact ⟨z, by omega, h2⟩
        · rintro ⟨z, h1, h2⟩
          by_cases q : z = i
          · subst q; exact absurd h2.1 hb
          · exact ⟨z, by omega, h2⟩
    unfold fX6_metBeyond_5
    simp only [if_neg (show ¬ (7 : Int32) ≤ nI i from nle_of (a := 7) hi (by decide))]
    by_cases A : w = 0
    · subst A
      simp only [if_pos nI_0]
      by_cases B : i ≤ s
      · simp only [if_pos (nI_le B (by omega))]
        exact x (by unfold bey; rw [if_pos rfl]; omega)
      · simp only [if_neg (nle_of (show s < i by omega) (by omega))]
        exact y (by unfold bey; rw [if_pos rfl]; omega)
    · obtain rfl : w = 1 := by omega
      simp only [if_neg n10]
      by_cases B : s ≤ i
      · simp only [if_pos (nI_le B (by omega))]
        exact x (by unfold bey; rw [if_neg e10']; omega)
      · simp only [if_neg (nle_of (show i < s by omega) (by omega))]
        exact y (by unfold bey; rw [if_neg e10']; omega)
  obtain ⟨v, ρ, fu, e, hρ, hv⟩ := sl2 (b := fX6_metBeyond_5 (37 + 4 * t) (nI s) (nI w)) 7 _ hst 7 0 FU 0 σ (by omega) (by rw [FU_s]; omega) ⟨rfl, fun o ho => by rw [b_0]; exact ⟨fun h => absurd h (by decide), fun ⟨z, hz, _⟩ => by omega⟩⟩
  refine ⟨v, ?_, hv⟩
  unfold fX6_metBeyond
  rw [lt_v, lt_v]
  refine Eq.trans e ?_
  rw [hρ]
  generalize lq2 (fX6_metBeyond_5 (37 + 4 * t) (nI s) (nI w)) fu = KK
  unfold fX6_metBeyond_5
  rw [if_pos (by decide)]
/-- the class: is a superior train to be looked for -/
theorem c_isBarred {σ τ : Sg} {g : Nat → Int32} {E : Option (Nat × Nat × Nat)} {n nt no nf t m m1 m2 p w b l : Nat} (hW : Wf g n nt no nf) (hX : Xok E n nt) (hS : SC g E n nt σ) (hT : ∀ o, o < nt → Tr g n σ τ m1 m2 o) (hP : Pap σ g E no t (hE g no t m)) (ht : t < nt) (hC : TrC g σ t 1 p w b l) (hG : TrG g n t m1 m2 1 p w b l) : ∃ r : Int32, fX0_isBarred 2 (nI t) (nI m) (37 + 4 * t) σ = some (r, σ) ∧ ((r = 0 ∧ ∀ o, o < nt → o ≠ t → agn τ g (hE g no t m) E no t o m w p) ∨ (r = 1 ∧ ¬ ∀ o, o < nt → o ≠ t → agn τ g (hE g no t m) E no t o m w p)) := by
  have hnt := hW.nt
  have hn : n ≤ 7 := hW.1.1.2
  have hk := okTr hG
  have hpn : p < n := hk.1
  have hw2 := wTrG hG
  have hsc : sct w p < 6 := by unfold sct; split <;> (rcases hk.2 with ⟨h, h2⟩ | ⟨h, h2⟩ <;> omega)
  have hnx : nxt w p < n := by unfold nxt; split <;> (rcases hk.2 with ⟨h, h2⟩ | ⟨h, h2⟩ <;> omega)
  obtain ⟨⟨c1, c2, kt, hkt, ekt, c3⟩, ⟨c4, c5⟩, c6⟩ := hC
  have c1' : σ 30 t = nI p := c1
  obtain ⟨⟨-, p1, p2, p3⟩, q1, q2, q3⟩ := rf_pap t (by omega)
  obtain ⟨mb, emb, hmb⟩ := c_metBeyond (σ := σ) (t := t) (by omega) hw2 (show p < 7 by omega)
  have h7 : σ 7 0 = nI nt := hS.1.1.2.1.trans hW.2.1.2.1
  have ewc : (1 : Int32) - nI w = nI (1 - w) := pk_sub (a := 1) (b := w) (by omega)
  have e7 : nI (1 - w) * 7 + nI p = nI (7 * (1 - w) + p) := by rw [show (7 : Int32) = nI 7 from rfl, pk_mul, nI_add, Nat.mul_comm]
  have h6 : σ 6 (sct w p) = g (8 + sct w p) := hS.1.2.2.1 _ hsc
  generalize hC2 : nI m + g (8 + sct w p) + 5 = clr
  generalize hH : σ 2 14 ||| σ 35 (7 * (1 - w) + p) ||| mb = hm
  -- one other train
  have one : ∀ o, o < nt → ∀ K, (¬ (o ≠ t → agn τ g (hE g no t m) E no t o m w p) ∧ fX0_isBarred_102 2 (nI t) (37 + 4 * t) (nI (sct w p)) (nI (nxt w p)) clr (nI (1 - w)) hm K (nI o) σ = some (1, σ)) ∨ ((o ≠ t → agn τ g (hE g no t m) E no t o m w p) ∧ fX0_isBarred_102 2 (nI t) (37 + 4 * t) (nI (sct w p)) (nI (nxt w p)) clr (nI (1 - w)) hm K (nI o) σ = K (nI (o + 1)) σ) := by
    intro o ho K
    obtain ⟨h, po, wo, bo, lo, ⟨⟨r1, r2, r3⟩, ⟨r4, r5⟩, r6, r7⟩, ⟨⟨d1, d2, ko, hko, eko, d3⟩, ⟨d4, d5⟩, d6⟩, hGo, ⟨s1, s2⟩⟩ := hT o ho
    have hwo := wTrG hGo
    have hh3 : h ≤ 3 := by obtain ⟨f, d, -, ⟨h1, -⟩, -⟩ := hGo; exact h1
    obtain ⟨⟨v1, v2⟩, v3, -⟩ := hS.2 o ho
    have x7 : nI o * 7 + nI (nxt w p) = nI (7 * o + nxt w p) := by rw [show (7 : Int32) = nI 7 from rfl, pk_mul, nI_add, Nat.mul_comm]
    have hnx7 : nxt w p < 7 := by omega
    unfold fX0_isBarred_102 fX0_isBarred_180 fX0_isBarred_217 fX0_isBarred_218 fX0_isBarred_237
    simp only [lt_v, rf_2_0, rf_3_1, rf_2_7, rf_2_8, rf_2_5, rf_2_4, p1, q1, ln_31, ln_32, ln_29, ln_28, h7, if_neg (nle_of ho (show nt < 2 ^ 31 by omega)), gd_in (show o < 5 by omega) (show 5 < 2147483648 by decide), gd_in (show t < 5 by omega) (show 5 < 2147483648 by decide), gd_zo1, gd_oT, x7, gd_in (show 7 * o + nxt w p < 35 by omega) (show 35 < 2147483648 by decide), nI_cl (show o < 2147483648 by omega), nI_cl (show t < 2147483648 by omega), nI_cl (show 7 * o + nxt w p < 2147483648 by omega), nI_1, d2, d3, c3, v1 (nxt w p) hnx, hP.1 o (by omega)]
    by_cases A : wo = 1 - w
    · subst A
      rw [if_pos rfl]
      have hot : o ≠ t := fun q => by subst q; have := (nI_eq (by omega) (by omega)).mp (c2.symm.trans d2); omega
      have nA : ¬ τ 383 o = nI w := fun q => by have := (nI_eq (by omega) (by omega)).mp (r3.symm.trans q); omega
      have hsup : (2 * rnk ko + (if 1 - w = 0 then 1 else 0) < 2 * rnk kt + (if w = 0 then 1 else 0)) ↔ gov g o (τ 383 o) t = 0 := by
        rw [sup_tab ko hko kt hkt w hw2, r3]
        unfold gov gr
        rw [eko, ekt]
      by_cases B : 2 * rnk ko + (if 1 - w = 0 then 1 else 0) < 2 * rnk kt + (if w = 0 then 1 else 0)
      · rw [if_pos B]
        exact Or.inr ⟨fun _ => Or.inr (Or.inr (Or.inr (Or.inr (Or.inl (hsup.mp B))))), rfl⟩
      rw [if_neg B]
      have nB : ¬ gov g o (τ 383 o) t = 0 := fun q => B (hsup.mpr q)
      by_cases C : gov2 g o (sct w p)
      · have hr : bt (σ 29 o) (sct w p) = true := (v2 _ hsc).mpr C
        rw [if_neg (fun q => by rw [bt_test _ _ (by omega), hr] at q; exact absurd q (by decide))]
        have hharm : bt hm o = true ↔ (τ 381 o = 3 ∨ τ 393 (7 * o + p) ≠ 0 ∨ mby g (hE g no t m) E no t o w p) := by
          rw [← hH, b_or, b_or, Bool.or_eq_true, Bool.or_eq_true, d6, decide_eq_true_eq, hmb o (by omega)]
          have hb3 : τ 381 o = 3 ↔ h = 3 := by rw [r1]; exact nI_eq (b := 3) (by omega) (by decide)
          have hmm : (∃ z, z < 7 ∧ bey w p z ∧ bt (σ (40 + 4 * t) z) o = true) ↔ mby g (hE g no t m) E no t o w p := by
            unfold mby
            constructor
            · rintro ⟨z, z1, z2, z3⟩
              exact ⟨z, z1, z2, (hP.2.2.2 z o z1 (by omega)).mp z3⟩
            · rintro ⟨z, z1, z2, z3⟩
              exact ⟨z, z1, z2, (hP.2.2.2 z o z1 (by omega)).mpr z3⟩
          rw [hmm, hb3]
          by_cases D : h = 3
          · exact ⟨fun _ => Or.inl D, fun _ => Or.inl (Or.inl D)⟩
          · have := (s1 D p (by omega)).2
            rw [this]
            constructor
            · rintro ((q | q) | q)
              · exact Or.inl q
              · exact Or.inr (Or.inl q)
              · exact Or.inr (Or.inr q)
            · rintro (q | q | q)
              · exact Or.inl (Or.inl q)
              · exact Or.inl (Or.inr q)
              · exact Or.inr q
        by_cases F : bt hm o = true
        · have hn0 : ¬ ((hm >>> (nI o &&& 31)) &&& 1) = 0 := fun q => by rw [bt_test _ _ (by omega), F] at q; exact absurd q (by decide)
          have ha : agn τ g (hE g no t m) E no t o m w p := by
            rcases hharm.mp F with q | q | q
            · exact Or.inr (Or.inl q)
            · exact Or.inr (Or.inr (Or.inr (Or.inl q)))
            · exact Or.inr (Or.inr (Or.inr (Or.inr (Or.inr (Or.inl q)))))
          simp only [if_neg hn0]
          refine Or.inr ⟨fun _ => ha, ?_⟩
          repeat' split
          all_goals rfl
        · have hn0 : ((hm >>> (nI o &&& 31)) &&& 1) = 0 := (bt_test _ _ (by omega)).mpr (by simpa using F)
          have nF := fun q => F (hharm.mpr q)
          simp only [if_pos hn0]
          have hfar : (far g (hE g no t m) no m (sct w p) (nxt w p) o) ↔ (bt (σ 2 13) o = true ∧ ¬ du g o (nxt w p) + lsm g (hE g no t m) o no < clr) := by
            unfold far
            rw [v3, hC2]
          have hng : ¬ far g (hE g no t m) no m (sct w p) (nxt w p) o → ¬ (o ≠ t → agn τ g (hE g no t m) E no t o m w p) := by
            intro hf q
            rcases q hot with q | q | q | q | q | q | q
            · exact nA q
            · exact nF (Or.inl q)
            · exact q C
            · exact nF (Or.inr (Or.inl q))
            · exact nB q
            · exact nF (Or.inr (Or.inr q))
            · exact hf q
          by_cases G : bt (σ 2 13) o = true
          · simp only [if_neg (show ¬ ((σ 2 13 >>> (nI o &&& 31)) &&& 1) = 0 from fun q => by rw [bt_test _ _ (by omega), G] at q; exact absurd q (by decide)), if_neg (show ¬ (1 : Int32) = 0 by decide)]
            by_cases I : du g o (nxt w p) + lsm g (hE g no t m) o no < clr
            · rw [if_pos I]
              exact Or.inl ⟨hng (fun q => (hfar.mp q).2 I), rfl⟩
            · rw [if_neg I]
              exact Or.inr ⟨fun _ => Or.inr (Or.inr (Or.inr (Or.inr (Or.inr (Or.inr (hfar.mpr ⟨G, I⟩)))))), rfl⟩
          · simp only [if_pos ((bt_test (σ 2 13) o (by omega)).mpr (by simpa using G)), if_true]
            exact Or.inl ⟨hng (fun q => G (hfar.mp q).1), trivial⟩
      · have hr : bt (σ 29 o) (sct w p) = false := by simpa using fun q => C ((v2 _ hsc).mp q)
        rw [if_pos ((bt_test _ _ (by omega)).mpr hr)]
        exact Or.inr ⟨fun _ => Or.inr (Or.inr (Or.inl C)), rfl⟩
    · rw [if_neg (fun q => A ((nI_eq (by omega) (by omega)).mp q))]
      have : wo = w := by omega
      exact Or.inr ⟨fun _ => Or.inl (by rw [r3, this]), rfl⟩
  have k3 : ∀ K, fX0_isBarred_102 2 (nI t) (37 + 4 * t) (nI (sct w p)) (nI (nxt w p)) clr (nI (1 - w)) hm K (nI nt) σ = some (0, σ) := by
    intro K
    unfold fX0_isBarred_102
    rw [rf_2_0, rf_3_1, h7, if_pos (nI_le (Nat.le_refl _) (by omega))]; rfl
  have e35 : fX0_isBarred_35 2 (nI t) (nI m) (37 + 4 * t) (nI p) (nI (sct w p)) (nI (nxt w p)) σ = lq1 (fX0_isBarred_102 2 (nI t) (37 + 4 * t) (nI (sct w p)) (nI (nxt w p)) clr (nI (1 - w)) hm) FU 0 σ := by
    unfold fX0_isBarred_35
    rw [lt_v, rf_2_0, rf_3_0, rf_4_2, ln_6, gd_in (n := 6) hsc (by decide), lt_v, nI_cl (show sct w p < 2147483648 by omega), h6, hC2, rf_2_7, ln_31, gd_in (n := 5) (by omega) (by decide), lt_v]
    simp only [nI_cl (show t < 2147483648 by omega), c2, ewc, e7, rf_2_11, ln_35, gd_in (show 7 * (1 - w) + p < 14 by omega) (show 14 < 2147483648 by decide), gd_in (show t < 5 by omega) (show 5 < 2147483648 by decide), emb, bd_v, lt_v, nI_cl (show 7 * (1 - w) + p < 2147483648 by omega), hH]
  have esec : fX0_sectionAhead 2 (nI t) σ = some (nI (sct w p), σ) := by
    unfold fX0_sectionAhead sct
    rw [rf_2_7, rf_2_6, ln_31, ln_30, gd_in (n := 5) (by omega) (by decide), gd_in (n := 5) (by omega) (by decide), gd_in (n := 5) (by omega) (by decide), nI_cl (by omega), c1', c2]
    rcases hk.2 with ⟨rfl, h⟩ | ⟨rfl, h⟩
    · simp only [if_pos nI_0, if_true]
    · simp only [if_neg n10, if_neg e10']
      obtain ⟨j, rfl⟩ : ∃ j, p = j + 1 := ⟨p - 1, by omega⟩
      rw [nI_pred]; rfl
  have etot : fX0_isBarred 2 (nI t) (nI m) (37 + 4 * t) σ = lq1 (fX0_isBarred_102 2 (nI t) (37 + 4 * t) (nI (sct w p)) (nI (nxt w p)) clr (nI (1 - w)) hm) FU 0 σ := by
    unfold fX0_isBarred
    rw [rf_2_6, ln_30, gd_in (n := 5) (by omega) (by decide), lt_v, esec, bd_v, lt_v, rf_2_7, ln_31, gd_in (n := 5) (by omega) (by decide), nI_cl (by omega), c1', c2, ← e35]
    rcases hk.2 with ⟨rfl, h⟩ | ⟨rfl, h⟩
    · rw [if_pos nI_0, nI_1]; rfl
    · rw [if_neg n10]
      obtain ⟨j, rfl⟩ : ∃ j, p = j + 1 := ⟨p - 1, by omega⟩
      rw [nI_pred]; rfl
  rw [etot]
  rcases fl1' nt (by omega) (fun o => ¬ (o ≠ t → agn τ g (hE g no t m) E no t o m w p)) _ _ (fun i hi h K => (one i hi K).elim (fun q => absurd q.1 h) (fun q => q.2)) (fun i hi h K => (one i hi K).elim (fun q => q.2) (fun q => absurd q.1 h)) k3 with ⟨⟨o, ho, h5⟩, h6⟩ | ⟨h5, h6⟩
  · exact ⟨1, h6, Or.inr ⟨rfl, fun q => h5 (q o ho)⟩⟩
  · exact ⟨0, h6, Or.inl ⟨rfl, fun o ho => Classical.not_not.mp (h5 o ho)⟩⟩
