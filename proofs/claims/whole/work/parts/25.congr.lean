/-! PURE: what does not touch the invariant -/
theorem LR_congr {σ τ : Sg} {L : Nat} {g : Nat → Int32} (h : ∀ c, L ≤ c → c ≤ L + 18 → σ c = τ c) (hL : LR σ L g) : LR τ L g := by
  unfold LR at *
  rw [← h L (by omega) (by omega), ← h (L + 1) (by omega) (by omega), ← h (L + 2) (by omega) (by omega), ← h (L + 3) (by omega) (by omega), ← h (L + 4) (by omega) (by omega), ← h (L + 5) (by omega) (by omega), ← h (L + 6) (by omega) (by omega), ← h (L + 7) (by omega) (by omega), ← h (L + 8) (by omega) (by omega), ← h (L + 9) (by omega) (by omega), ← h (L + 10) (by omega) (by omega), ← h (L + 11) (by omega) (by omega), ← h (L + 12) (by omega) (by omega), ← h (L + 13) (by omega) (by omega), ← h (L + 14) (by omega) (by omega), ← h (L + 15) (by omega) (by omega), ← h (L + 16) (by omega) (by omega), ← h (L + 17) (by omega) (by omega), ← h (L + 18) (by omega) (by omega)]
  exact hL
theorem Hist_congr {σ τ : Sg} (h : ∀ c, 60 ≤ c → c < 364 → σ c = τ c) (h1 : σ 58 1 = τ 58 1 ∧ σ 58 2 = τ 58 2) (h2 : σ 373 2 = τ 373 2 ∧ σ 373 3 = τ 373 3) (h3 : σ 375 = τ 375) (hH : Hist σ) : Hist τ := by
  obtain ⟨nx, ct, a, b, ⟨c1, c2, c3, c4⟩, d⟩ := hH
  refine ⟨nx, ct, a, b, ⟨by rw [← h1.1, c1], by rw [← h1.2, c2], by rw [← h2.1, c3], by rw [← h2.2, c4]⟩, fun e h4 h5 => ?_⟩
  rw [← h3]
  obtain ⟨d1, d2⟩ := d e h4 h5
  have hm : (nx + 16 - e) % 16 < 16 := Nat.mod_lt _ (by decide)
  exact ⟨LR_congr (fun c q1 q2 => h c (by omega) (by omega)) d1, d2⟩
theorem Shs_congr {σ τ : Sg} (h : ∀ c, 365 ≤ c → c < 373 → σ c = τ c) (h1 : σ 376 = τ 376) (h2 : σ 377 = τ 377) (h3 : σ 378 = τ 378) (hS : Shs σ) : Shs τ := by
  intro s hs
  have e1 := h (shX s) (by unfold shX; omega) (by unfold shX; omega)
  have e2 := h (shX s + 1) (by unfold shX; omega) (by unfold shX; omega)
  rw [← h1, ← h2, ← h3, ← e1, ← e2]
  exact hS s hs
theorem Own_congr {σ τ : Sg} (h : ∀ t, t < 5 → σ (37 + 4 * t) 0 = τ (37 + 4 * t) 0) (hO : Own σ) : Own τ := fun t ht => by rw [← h t ht]; exact hO t ht
theorem Obs_L {nt : Nat} {σ ρ τ : Sg} (h : ∀ c, 22 ≤ c → c ≤ 26 → σ c = ρ c) (hO : Obs nt σ τ) : Obs nt ρ τ := by
  unfold Obs at *
  rw [← h 22 (by decide) (by decide), ← h 23 (by decide) (by decide), ← h 24 (by decide) (by decide), ← h 25 (by decide) (by decide), ← h 26 (by decide) (by decide)]
  exact hO
theorem Obs_R {nt : Nat} {σ τ ρ : Sg} (h : ∀ c, (c = 374 ∨ c = 385 ∨ c = 386 ∨ c = 387 ∨ c = 389 ∨ c = 390) → τ c = ρ c) (hf : ∀ i, 25 ≤ i → i ≤ 31 → τ 373 i = ρ 373 i) (hO : Obs nt σ τ) : Obs nt σ ρ := by
  unfold Obs at *
  rw [← h 374 (by simp), ← h 385 (by simp), ← h 386 (by simp), ← h 387 (by simp), ← h 389 (by simp), ← h 390 (by simp), ← hf 25 (by decide) (by decide), ← hf 26 (by decide) (by decide), ← hf 27 (by decide) (by decide), ← hf 28 (by decide) (by decide), ← hf 29 (by decide) (by decide), ← hf 30 (by decide) (by decide), ← hf 31 (by decide) (by decide)]
  exact hO
theorem GoodC_congr {nt : Nat} {g : Nat → Int32} {σ ρ : Sg} (h : ∀ c, 22 ≤ c → c ≤ 26 → σ c = ρ c) (h2 : σ 2 2 = ρ 2 2) (hG : GoodC nt g σ) : GoodC nt g ρ := by
  rcases hG with a | ⟨a, b⟩
  · exact Or.inl (by rw [← h2, a])
  · exact Or.inr ⟨by rw [← h2, a], fun τ τ1 x y z => Obs_L h (b τ τ1 x y z)⟩
theorem GoodR_congr {nt : Nat} {g : Nat → Int32} {τ ρ : Sg} (h : ∀ c, (c = 374 ∨ c = 385 ∨ c = 386 ∨ c = 387 ∨ c = 389 ∨ c = 390) → τ c = ρ c) (hf : ∀ i, 25 ≤ i → i ≤ 31 → τ 373 i = ρ 373 i) (h9 : τ 373 9 = ρ 373 9) (hG : GoodR nt g τ) : GoodR nt g ρ := by
  rcases hG with a | ⟨a, b⟩
  · exact Or.inl (by rw [← h9, a])
  · exact Or.inr ⟨by rw [← h9, a], fun σ σ1 x y z => Obs_R h hf (b σ σ1 x y z)⟩
theorem GoodP_congr {n nt : Nat} {g : Nat → Int32} {σ ρ : Sg} (h : σ 57 = ρ 57) (h2 : σ 1 3 = ρ 1 3) (hG : GoodP n nt g σ) : GoodP n nt g ρ := by
  unfold GoodP at *
  rw [← h, ← h2]
  exact hG
/-- the same but for findings and other cells that no part of the invariant reads -/
def Alk (σ τ : Sg) : Prop := (∀ c, c < 373 → c ≠ 0 → c ≠ 1 → c ≠ 2 → c ≠ 58 → σ c = τ c) ∧ (σ 1 3 = τ 1 3 ∧ σ 2 2 = τ 2 2 ∧ σ 58 1 = τ 58 1 ∧ σ 58 2 = τ 58 2) ∧ (∀ i, i ≠ 4 → i < 32 → σ 373 i = τ 373 i) ∧ ∀ c, (c = 374 ∨ c = 375 ∨ c = 376 ∨ c = 377 ∨ c = 378 ∨ c = 385 ∨ c = 386 ∨ c = 387 ∨ c = 389 ∨ c = 390) → σ c = τ c
theorem Inv_alk {σ τ : Sg} (h : Alk σ τ) (hf : τ 0 5 = τ 373 4) (hI : Inv σ) : Inv τ := by
  obtain ⟨h1, ⟨h2, h3, h4, h5⟩, h6, h7⟩ := h
  obtain ⟨n, nt, no, nf, a1, a2, a3, a4, a5, a6, a7, a8, a9⟩ := hI
  have e := h7 374 (by simp)
  refine ⟨n, nt, no, nf, ?_, ?_, ?_, ?_, hf, ?_, ?_, ?_, ?_⟩
  · rw [← e]
    exact LR_congr (fun c q1 q2 => h1 c (by omega) (by omega) (by omega) (by omega) (by omega)) a1
  · rw [← e]; exact a2
  · exact Hist_congr (fun c q1 q2 => h1 c (by omega) (by omega) (by omega) (by omega) (by omega)) ⟨h4, h5⟩ ⟨h6 2 (by decide) (by decide), h6 3 (by decide) (by decide)⟩ (h7 375 (by simp)) a3
  · exact Shs_congr (fun c q1 q2 => h1 c (by omega) (by omega) (by omega) (by omega) (by omega)) (h7 376 (by simp)) (h7 377 (by simp)) (h7 378 (by simp)) a4
  · exact Own_congr (fun t ht => by rw [h1 (37 + 4 * t) (by omega) (by omega) (by omega) (by omega) (by omega)]) a6
  · rw [← e]
    exact GoodC_congr (fun c q1 q2 => h1 c (by omega) (by omega) (by omega) (by omega) (by omega)) h3 a7
  · rw [← e]
    exact GoodR_congr (fun c hc => h7 c (by rcases hc with rfl | rfl | rfl | rfl | rfl | rfl <;> simp)) (fun i q1 q2 => h6 i (by omega) (by omega)) (h6 9 (by decide) (by decide)) a8
  · rw [← e]
    exact GoodP_congr (h1 57 (by decide) (by decide) (by decide) (by decide) (by decide)) h2 a9
theorem Inv_find {σ : Sg} (hI : Inv σ) : Inv (wr (wr σ 0 5 (σ 0 5 + 1)) 373 4 (wr σ 0 5 (σ 0 5 + 1) 373 4 + 1)) := by
  refine Inv_alk ⟨fun c q0 q1 _ _ _ => ?_, ⟨?_, ?_, ?_, ?_⟩, fun i q1 q2 => ?_, fun c hc => ?_⟩ ?_ hI
  · funext i
    rw [wr_c (by omega), wr_c (by omega)]
  · rw [wr_c (by decide), wr_c (by decide)]
  · rw [wr_c (by decide), wr_c (by decide)]
  · rw [wr_c (by decide), wr_c (by decide)]
  · rw [wr_c (by decide), wr_c (by decide)]
  · rw [wr_i q1, wr_c (by decide)]
  · funext i
    rw [wr_c (by omega), wr_c (by omega)]
  · obtain ⟨n, nt, no, nf, a1, a2, a3, a4, a5, a6⟩ := hI
    rw [wr_c (by decide), wr_eq, wr_eq, wr_c (by decide), a5]
/-- both find -/
theorem two_find {σ : Sg} {F G : Sg → Option (Int32 × Sg)} (v : Int32) (hI : Inv σ) (hF : F σ = some (v, wr σ 0 5 (σ 0 5 + 1))) (hG : ∀ τ, τ = wr σ 0 5 (σ 0 5 + 1) → G τ = some (v, wr τ 373 4 (τ 373 4 + 1))) : Two F G σ := ⟨v, _, _, hF, hG _ rfl, Inv_find hI⟩
/-- both only read -/
theorem two_read {σ : Sg} {F G : Sg → Option (Int32 × Sg)} (v : Int32) (hI : Inv σ) (hF : F σ = some (v, σ)) (hG : G σ = some (v, σ)) : Two F G σ := ⟨v, σ, σ, hF, hG, hI⟩
