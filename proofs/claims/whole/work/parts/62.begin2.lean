/-! PURE: the class begins a day -/
def BT (g : Nat → Int32) (n : Nat) (σ : Sg) (x : Nat) : Prop := (σ 30 x = 200 ∧ σ 31 x = gw g x ∧ (∃ k, k < 4 ∧ g (15 + 5 * x) = nI k ∧ σ 32 x = 2 * rnk k + (if gw g x = 0 then 1 else 0)) ∧ σ 33 x = g (17 + 5 * x)) ∧ (∀ q, q < n → σ 28 (7 * x + q) = du g x q) ∧ (∀ k, k < 6 → (bt (σ 29 x) k = true ↔ gov2 g x k)) ∧ (bt (σ 2 13) x = true ↔ tt g x)
theorem c_due {σ : Sg} {g : Nat → Int32} {n nt no nf t : Nat} (hW : Wf g n nt no nf) (hL : LR σ 3 g) (ht : t < nt) : ∃ σ', lq1 (fX0_beginTrain_101 2 (nI t) 7) FU 0 σ = some ((), σ') ∧ (∀ c i, c ≠ 28 → σ' c i = σ c i) ∧ (∀ j, (j < 7 * t ∨ 7 * t + 7 ≤ j) → σ' 28 j = σ 28 j) ∧ ∀ q, q < n → σ' 28 (7 * t + q) = du g t q := by
  have hnt := hW.nt
  have hn : n ≤ 7 := hW.1.1.2
  obtain ⟨k, f, d, len, tm, a1, a2, a3, a4, a5, a6, a7, e1, e2, e3, e4, e5⟩ := hW.2.2.2.2.1 t ht
  have h4 : σ 4 0 = nI n := hL.1.1.trans hW.2.1.1
  have l9 : σ 9 t = nI f := by rw [← e2]; exact (hL.2.2.2.1 t (by omega)).1.2.1
  have l12 : σ 12 t = g (19 + 5 * t) := (hL.2.2.2.1 t (by omega)).2.2
  have hst : ∀ i (ρ : Sg), i < n → ((∀ c j, c ≠ 28 → ρ c j = σ c j) ∧ (∀ j, (j < 7 * t ∨ 7 * t + 7 ≤ j) → ρ 28 j = σ 28 j) ∧ ∀ q, q < i → ρ 28 (7 * t + q) = du g t q) → ∃ ρ', (∀ K, fX0_beginTrain_101 2 (nI t) 7 K (nI i) ρ = K (nI (i + 1)) ρ') ∧ ((∀ c j, c ≠ 28 → ρ' c j = σ c j) ∧ (∀ j, (j < 7 * t ∨ 7 * t + 7 ≤ j) → ρ' 28 j = σ 28 j) ∧ ∀ q, q < i + 1 → ρ' 28 (7 * t + q) = du g t q) := by
    rintro i ρ hi ⟨k1, k2, k3⟩
    refine ⟨wr ρ 28 (7 * t + i) (du g t i), fun K => ?_, fun c j hc => by rw [wr_c hc, k1 c j hc], fun j hj => by rw [wr_i (by omega), k2 j hj], fun q hq => ?_⟩
    · have hmb := e8_minutesBetween ρ f i (by omega) (by omega)
      have h6 : ρ 6 = σ 6 := funext fun j => k1 6 j (by decide)
      unfold fX0_beginTrain_101
      rw [rf_2_0, rf_3_0, k1 4 0 (by decide), h4, if_neg (nle_of hi (by omega)), rf_7_5, rf_7_2, ln_12, ln_9, gd5 (by omega), gd5 (by omega), nI_cl (show t < 2147483648 by omega), k1 9 t (by decide), l9, hmb, bd_v, i7, rf_2_4, ln_28, gd35 (by omega), nI_cl (by omega), k1 12 t (by decide), l12, lt_v, lt_v, nI_1, h6, cb_LR hL (by omega) (by omega)]
      unfold du
      rw [e2, nI_cl (by omega)]
    · by_cases z : q = i
      · subst z; rw [wr_eq]
      · rw [wr_i (by omega), k3 q (by omega)]
  obtain ⟨ρ, fu, e, k1, k2, k3⟩ := sl1 (b := fX0_beginTrain_101 2 (nI t) 7) n _ hst n 0 FU σ (by omega) (by rw [FU_s]; omega) ⟨fun c j _ => rfl, fun j _ => rfl, fun q hq => by omega⟩
  refine ⟨ρ, ?_, k1, k2, k3⟩
  refine Eq.trans e ?_
  generalize lq1 (fX0_beginTrain_101 2 (nI t) 7) fu = KK
  unfold fX0_beginTrain_101
  rw [rf_2_0, rf_3_0, k1 4 0 (by decide), h4, if_pos (nI_le (Nat.le_refl _) (by omega))]
theorem c_beginTrain {σ : Sg} {g : Nat → Int32} {n nt no nf t : Nat} (hW : Wf g n nt no nf) (hL : LR σ 3 g) (ht : t < nt) (h13 : bt (σ 2 13) t = false) : ∃ σ', fX0_beginTrain 2 (nI t) σ = some ((), σ') ∧ BT g n σ' t ∧ (∀ c i, (c < 28 ∨ 34 < c) → ¬ (c = 2 ∧ i = 13) → σ' c i = σ c i) ∧ (∀ o, o < 32 → o ≠ t → bt (σ' 2 13) o = bt (σ 2 13) o) ∧ (∀ c o, 29 ≤ c → c ≤ 34 → o ≠ t → σ' c o = σ c o) ∧ ∀ j, (j < 7 * t ∨ 7 * t + 7 ≤ j) → σ' 28 j = σ 28 j := by
  have hnt := hW.nt
  have hn : n ≤ 7 := hW.1.1.2
  obtain ⟨k, f, d, len, tm, a1, a2, a3, a4, a5, a6, a7, e1, e2, e3, e4, e5⟩ := hW.2.2.2.2.1 t ht
  have l8 : σ 8 t = nI k := by rw [← e1]; exact (hL.2.2.2.1 t (by omega)).1.1
  have l9 : σ 9 t = nI f := by rw [← e2]; exact (hL.2.2.2.1 t (by omega)).1.2.1
  have l10 : σ 10 t = nI d := by rw [← e3]; exact (hL.2.2.2.1 t (by omega)).1.2.2
  have hcw : cw σ t = gw g t := cw_gw hL (by omega)
  -- the way
  have s1 : fX9_wayOf 7 (nI t) (wr σ 30 t 200) = some (gw g t, wr σ 30 t 200) := by
    rw [e9_wayOf _ t (by omega)]
    have : cw (wr σ 30 t 200) t = gw g t := by
      rw [← hcw]
      unfold cw
      rw [wr_c (by decide), wr_c (by decide)]
    rw [this]
  generalize hA : wr (wr σ 30 t 200) 31 t (gw g t) = sA
  have fA : ∀ c i, c ≠ 30 → c ≠ 31 → sA c i = σ c i := fun c i q1 q2 => by rw [← hA, wr_c q2, wr_c q1]
  have A31 : sA 31 t = gw g t := by rw [← hA, wr_eq]
  have s2 : fX9_strength 7 (nI t) (gw g t) sA = some (2 * rnk k + (if gw g t = 0 then 1 else 0), sA) := e9_strength sA t k _ (by omega) a1 (by rw [fA _ _ (by decide) (by decide), l8])
  generalize hB : wr (wr sA 32 t (2 * rnk k + (if gw g t = 0 then 1 else 0))) 33 t (nI d) = sB
  have fB : ∀ c i, c ≠ 30 → c ≠ 31 → c ≠ 32 → c ≠ 33 → sB c i = σ c i := fun c i q1 q2 q3 q4 => by rw [← hB, wr_c q4, wr_c q3, fA c i q1 q2]
  -- the route
  have hlo : (if nI d < nI f then nI d else nI f) = nI (min f d) := by
    by_cases z : d < f
    · rw [if_pos (nI_lt z (by omega))]; congr 1; omega
    · rw [if_neg (nI_nlt (by omega) (by omega))]; congr 1; omega
  have hhi : (if nI f < nI d then nI d else nI f) = nI (max f d) := by
    by_cases z : f < d
    · rw [if_pos (nI_lt z (by omega))]; congr 1; omega
    · rw [if_neg (nI_nlt (by omega) (by omega))]; congr 1; omega
  have s3 : fX9_route 7 (nI t) sB = some (((1 : Int32) <<< (nI (max f d) &&& 31)) - ((1 : Int32) <<< (nI (min f d) &&& 31)), sB) := by
    unfold fX9_route
    simp only [rf_7_2, rf_7_3, ln_9, ln_10, gd5 (show t < 5 by omega), lt_v, nI_cl (show t < 2147483648 by omega), fB 9 t (by decide) (by decide) (by decide) (by decide), fB 10 t (by decide) (by decide) (by decide) (by decide), l9, l10, hlo, hhi]
  generalize hC : wr (wr sB 29 t (((1 : Int32) <<< (nI (max f d) &&& 31)) - ((1 : Int32) <<< (nI (min f d) &&& 31)))) 34 t (-1) = sC
  have fC : ∀ c i, c ≠ 29 → c ≠ 30 → c ≠ 31 → c ≠ 32 → c ≠ 33 → c ≠ 34 → sC c i = σ c i := fun c i q0 q1 q2 q3 q4 q5 => by rw [← hC, wr_c q5, wr_c q0, fB c i q1 q2 q3 q4]
  have s4 : fX9_isTimetabled 7 (nI t) sC = some (if nI k = 1 ∨ nI k = 2 then 1 else 0, sC) := by
    rw [e9_isTimetabled sC t (by omega), fC 8 t (by decide) (by decide) (by decide) (by decide) (by decide) (by decide), l8]
  -- the timetable bit, the minutes that are due
  have main : ∀ bit : Int32, (∀ o, o < 32 → (bt bit o = true ↔ (o = t ∧ tt g t))) → ∃ σ', fX0_beginTrain_95 2 (nI t) 7 bit (sC 2 13) 2 sC = some ((), σ') ∧ BT g n σ' t ∧ (∀ c i, (c < 28 ∨ 34 < c) → ¬ (c = 2 ∧ i = 13) → σ' c i = σ c i) ∧ (∀ o, o < 32 → o ≠ t → bt (σ' 2 13) o = bt (σ 2 13) o) ∧ (∀ c o, 29 ≤ c → c ≤ 34 → o ≠ t → σ' c o = σ c o) ∧ ∀ j, (j < 7 * t ∨ 7 * t + 7 ≤ j) → σ' 28 j = σ 28 j := by
    intro bit hbit
    have hL' : LR (wr sC 2 13 (sC 2 13 ||| bit)) 3 g := LR_congr (fun c q1 q2 => funext fun i => by rw [wr_c (by omega), fC c i (by omega) (by omega) (by omega) (by omega) (by omega) (by omega)]) hL
    obtain ⟨σ', e, k1, k2, k3⟩ := c_due hW hL' ht
    refine ⟨σ', ?_, ⟨⟨?_, ?_, ⟨k, a1, e1, ?_⟩, ?_⟩, k3, fun q hq => ?_, ?_⟩, fun c i q1 q2 => ?_, fun o ho hot => ?_, fun c o q1 q2 q3 => ?_, fun j hj => ?_⟩
    · unfold fX0_beginTrain_95
      rw [lt_v, lt_v]
      exact e
    · rw [k1 _ _ (by decide), wr_c (by decide), ← hC, wr_c (by decide), wr_c (by decide), ← hB, wr_c (by decide), wr_c (by decide), ← hA, wr_c (by decide), wr_eq]
    · rw [k1 _ _ (by decide), wr_c (by decide), ← hC, wr_c (by decide), wr_c (by decide), ← hB, wr_c (by decide), wr_c (by decide), A31]
    · rw [k1 _ _ (by decide), wr_c (by decide), ← hC, wr_c (by decide), wr_c (by decide), ← hB, wr_c (by decide), wr_eq]
    · rw [k1 _ _ (by decide), wr_c (by decide), ← hC, wr_c (by decide), wr_c (by decide), ← hB, wr_eq, e3]
    · rw [k1 _ _ (by decide), wr_c (by decide), ← hC, wr_c (by decide), wr_eq, bt_route _ (by omega) _ (by omega) _ (by omega) (by omega), decide_eq_true_eq]
      constructor
      · intro h
        exact ⟨f, d, e2, e3, by omega, by omega, by omega⟩
      · rintro ⟨f', d', h1, h2, h3, h4, h5⟩
        have q1 := (nI_eq (by omega) (by omega)).mp (e2.symm.trans h1)
        have q2 := (nI_eq (by omega) (by omega)).mp (e3.symm.trans h2)
        omega
    · rw [k1 _ _ (by decide), wr_eq, b_or, Bool.or_eq_true, fC _ _ (by decide) (by decide) (by decide) (by decide) (by decide) (by decide), h13, hbit t (by omega)]
      exact ⟨fun h => h.elim (fun h => absurd h (by decide)) (fun h => h.2), fun h => Or.inr ⟨rfl, h⟩⟩
    · rw [k1 _ _ (by omega)]
      unfold wr
      rw [if_neg q2, fC _ _ (by omega) (by omega) (by omega) (by omega) (by omega) (by omega)]
    · rw [k1 _ _ (by decide), wr_eq, b_or, fC _ _ (by decide) (by decide) (by decide) (by decide) (by decide) (by decide)]
      have : bt bit o = false := by
        rcases hq : bt bit o with _ | _
        · rfl
        · exact absurd ((hbit o ho).mp hq).1 hot
      rw [this, Bool.or_false]
    · rw [k1 _ _ (by omega), wr_c (by omega), ← hC]
      have y : ∀ (s : Sg) c' v, wr s c' t v c o = s c o := fun s c' v => wr_i q3
      rw [y, y, ← hB, y, y, ← hA, y, y]
    · rw [k2 j hj, wr_c (by omega), fC _ _ (by decide) (by decide) (by decide) (by decide) (by decide) (by decide)]
  have hkt : (nI k = 1 ∨ nI k = 2) ↔ tt g t := by
    unfold tt
    rw [e1]
  have e0 : fX0_beginTrain 2 (nI t) σ = if (if nI k = 1 ∨ nI k = 2 then (1 : Int32) else 0) = 0 then fX0_beginTrain_95 2 (nI t) 7 0 (sC 2 13) 2 sC else fX0_beginTrain_95 2 (nI t) 7 ((1 : Int32) <<< (nI t &&& 31)) (sC 2 13) 2 sC := by
    unfold fX0_beginTrain
    simp only [rf_2_0, rf_2_5, rf_2_6, rf_2_7, rf_2_8, rf_2_9, rf_2_10, rf_3_1, rf_7_3, ln_10, ln_29, ln_30, ln_31, ln_32, ln_33, ln_34, gd5 (show t < 5 by omega), lt_v, nI_cl (show t < 2147483648 by omega), s1, bd_v, hA, A31, s2, wr_c (show 10 ≠ 32 by decide), fA 10 t (by decide) (by decide), l10, hB, s3, hC, s4]
  rw [e0]
  by_cases A : nI k = 1 ∨ nI k = 2
  · rw [if_pos A, if_neg (by decide)]
    have hb : ∀ o, o < 32 → (bt ((1 : Int32) <<< (nI t &&& 31)) o = true ↔ (o = t ∧ tt g t)) := fun o ho => by
      rw [bt_one _ _ (by omega) ho, decide_eq_true_eq]
      exact ⟨fun q => ⟨q.symm, hkt.mp A⟩, fun q => q.1.symm⟩
    exact main _ hb
  · rw [if_neg A, if_pos rfl]
    have hb : ∀ o, o < 32 → (bt (0 : Int32) o = true ↔ (o = t ∧ tt g t)) := fun o ho => by
      rw [b_0]
      exact ⟨fun q => absurd q (by decide), fun q => absurd (hkt.mpr q.2) A⟩
    exact main _ hb
