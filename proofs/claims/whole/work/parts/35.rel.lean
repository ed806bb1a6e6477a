/-! PURE: writing into both lines -/
/-- cell c, place i of the class's line is number j of the reference's -/
def Rel (c i j : Nat) : Prop := (c = 4 ∧ i = 0 ∧ j = 0) ∨ (c = 7 ∧ i = 0 ∧ j = 14) ∨ (c = 13 ∧ i = 0 ∧ j = 40) ∨ (c = 3 ∧ i = 3 ∧ j = 161) ∨ (c = 5 ∧ i < 7 ∧ j = 1 + i) ∨ (c = 6 ∧ i < 6 ∧ j = 8 + i) ∨ (8 ≤ c ∧ c ≤ 12 ∧ i < 5 ∧ j = 7 + c + 5 * i) ∨ (14 ≤ c ∧ c ≤ 18 ∧ i < 12 ∧ j = 27 + c + 5 * i) ∨ (c = 19 ∧ i < 60 ∧ j = 101 + i) ∨ (c = 20 ∧ i < 6 ∧ j = 162 + 2 * i) ∨ (c = 21 ∧ i < 6 ∧ j = 163 + 2 * i)
theorem Rel_inj {c i j c' i' j' : Nat} (h : Rel c i j) (h' : Rel c' i' j') : (c' = c ∧ i' = i) ↔ j' = j := by
  unfold Rel at h h'
  rcases h with h | h | h | h | h | h | h | h | h | h | h <;> rcases h' with h' | h' | h' | h' | h' | h' | h' | h' | h' | h' | h' <;> omega
theorem Rel_lt {c i j : Nat} (h : Rel c i j) : 3 ≤ c ∧ c < 22 ∧ j < 174 := by
  unfold Rel at h
  omega
theorem LR_rel {σ : Sg} {g : Nat → Int32} (h : LR σ 3 g) {c i j : Nat} (hr : Rel c i j) (hc : c ≠ 19 ∨ nI (i / 5) < g 40) : σ c i = g j := by
  obtain ⟨⟨h1, h2, h3, h4⟩, h5, h6, h7, h8, h9, h10⟩ := h
  rcases hr with ⟨rfl, rfl, rfl⟩ | ⟨rfl, rfl, rfl⟩ | ⟨rfl, rfl, rfl⟩ | ⟨rfl, rfl, rfl⟩ | ⟨rfl, q, rfl⟩ | ⟨rfl, q, rfl⟩ | ⟨q1, q2, q3, rfl⟩ | ⟨q1, q2, q3, rfl⟩ | ⟨rfl, q, rfl⟩ | ⟨rfl, q, rfl⟩ | ⟨rfl, q, rfl⟩
  · exact h1
  · exact h2
  · exact h3
  · exact h4
  · exact h5 i q
  · exact h6 i q
  · obtain ⟨⟨a, b, d⟩, e, f⟩ := h7 i q3
    rcases (by omega : c = 8 ∨ c = 9 ∨ c = 10 ∨ c = 11 ∨ c = 12) with rfl | rfl | rfl | rfl | rfl
    · exact a
    · exact b
    · exact d
    · exact e
    · exact f
  · obtain ⟨⟨a, b, d⟩, e, f⟩ := h8 i q3
    rcases (by omega : c = 14 ∨ c = 15 ∨ c = 16 ∨ c = 17 ∨ c = 18) with rfl | rfl | rfl | rfl | rfl
    · exact a
    · exact b
    · exact d
    · exact e
    · exact f
  · have := h9 (i / 5) (i % 5) (by omega) (by omega) (hc.resolve_left (fun q => q rfl))
    rw [show 5 * (i / 5) + i % 5 = i from by omega, show 101 + 5 * (i / 5) + i % 5 = 101 + i from by omega] at this
    exact this
  · exact (h10 i q).1
  · exact (h10 i q).2
theorem LR_mk {σ : Sg} {g : Nat → Int32} (h : ∀ c i j, Rel c i j → (c ≠ 19 ∨ nI (i / 5) < g 40) → σ c i = g j) : LR σ 3 g := by
  unfold Rel at h
  refine ⟨⟨h _ _ _ (by omega) (Or.inl (by decide)), h _ _ _ (by omega) (Or.inl (by decide)), h _ _ _ (by omega) (Or.inl (by decide)), h _ _ _ (by omega) (Or.inl (by decide))⟩, fun k hk => h _ _ _ (by omega) (Or.inl (by decide)), fun k hk => h _ _ _ (by omega) (Or.inl (by decide)), fun t ht => ⟨⟨h _ _ _ (by omega) (Or.inl (by decide)), h _ _ _ (by omega) (Or.inl (by decide)), h _ _ _ (by omega) (Or.inl (by decide))⟩, h _ _ _ (by omega) (Or.inl (by decide)), h _ _ _ (by omega) (Or.inl (by decide))⟩, fun o ho => ⟨⟨h _ _ _ (by omega) (Or.inl (by decide)), h _ _ _ (by omega) (Or.inl (by decide)), h _ _ _ (by omega) (Or.inl (by decide))⟩, h _ _ _ (by omega) (Or.inl (by decide)), h _ _ _ (by omega) (Or.inl (by decide))⟩, fun o t ho ht hot => h _ _ _ (by omega) (Or.inr (by rw [show (5 * o + t) / 5 = o from by omega]; exact hot)), fun k hk => ⟨h _ _ _ (by omega) (Or.inl (by decide)), h _ _ _ (by omega) (Or.inl (by decide))⟩⟩
theorem LR_wr {σ : Sg} {g : Nat → Int32} {c i j : Nat} {v : Int32} (h : LR σ 3 g) (hr : Rel c i j) (hj : j ≠ 40) : LR (wr σ c i v) 3 (upd g j v) := by
  refine LR_mk fun c' i' j' hr' hc => ?_
  have z := Rel_inj hr hr'
  rw [upd_ne (by omega)] at hc
  have e := LR_rel h hr' hc
  unfold wr upd
  by_cases y : j' = j
  · rw [if_pos (z.mpr y), if_pos y]
  · rw [if_neg (fun q => y (z.mp q)), if_neg y, e]
theorem KC_fr {nx ct : Nat} {σ τ ρ : Sg} (h : KC nx ct σ τ) (hf : ∀ c i, c < 3 ∨ 22 ≤ c → ρ c i = τ c i) : KC nx ct σ ρ := by
  obtain ⟨k1, ⟨k2, k3, k4, k5⟩, k6, k7, k8⟩ := h
  exact ⟨fun g hg => LR_congr (fun q q1 q2 => funext fun i => (hf q i (by omega)).symm) (k1 g hg), ⟨by rw [hf _ _ (by omega), k2], by rw [hf _ _ (by omega), k3], by rw [hf _ _ (by omega), k4], by rw [hf _ _ (by omega), k5]⟩, fun q j q1 q2 q3 q4 => by rw [hf _ _ (by omega), k6 q j q1 q2 q3 q4], fun j => by rw [hf _ _ (by omega), k7 j], fun q j q1 => by rw [hf _ _ (by omega), k8 q j q1]⟩
theorem KR_fr {nx ct : Nat} {σ τ ρ : Sg} (h : KR nx ct σ τ) (hf : ∀ c i, c ≠ 374 → ρ c i = τ c i) : KR nx ct σ ρ := by
  obtain ⟨⟨r1, r2, r3⟩, r4, r5, r6, r7⟩ := h
  exact ⟨⟨by rw [hf _ _ (by decide), r1], by rw [hf _ _ (by decide), r2], by rw [hf _ _ (by decide), r3]⟩, fun j q1 q2 q3 => by rw [hf _ _ (by decide), r4 j q1 q2 q3], fun k hk => by rw [hf _ _ (by decide), r5 k hk], fun j hj => by rw [hf _ _ (by decide), r6 j hj], fun c j q1 q2 q3 => by rw [hf _ _ q2, r7 c j q1 q2 q3]⟩
/-- an act that keeps the line for undo and then writes into it, on both sides -/
theorem two_act {F G : Sg → Option (Int32 × Sg)} {σ lc : Sg} {lr : Nat → Int32} {r : Int32} {n nt no nf : Nat} (hI : Inv σ)
    (hF : ∀ τ, fX10_keepForUndo 0 σ = some ((), τ) → (∀ c i, 3 ≤ c → c < 22 → τ c i = σ c i) → ∃ σ1, F σ = some (r, σ1) ∧ (∀ c i, c < 3 ∨ 22 ≤ c → σ1 c i = τ c i) ∧ ∀ c i, 3 ≤ c → c < 22 → σ1 c i = lc c i)
    (hG : ∀ τ ρ, τ 374 = σ 374 → fX11_keep 373 τ = some ((), ρ) → ρ 374 = σ 374 → ∃ σ2, G τ = some (r, σ2) ∧ (∀ c i, c ≠ 374 → σ2 c i = ρ c i) ∧ ∀ k, k < 174 → σ2 374 k = lr k)
    (hL : LR lc 3 lr) (hW : Wf lr n nt no nf) : Two F G σ := by
  obtain ⟨nx, ct, a1, a2, a3, a4, a5, a6⟩ := hI.h
  obtain ⟨τ, e, hK, hl⟩ := e10_keep a1 a2 a5 a6
  obtain ⟨σ1, f1, f2, f3⟩ := hF τ e hl
  have hK2 := KC_fr hK f2
  have hr : σ1 374 = σ 374 := funext fun k => by rw [f2 _ _ (by omega), hK.2.2.2.2 374 k (by decide)]
  obtain ⟨ρ, e2, hR, hl2⟩ := e11_keep (σ := σ1) (nx := nx) (ct := ct) (by rw [f2 _ _ (by omega), hK.2.2.2.2 373 2 (by decide), a3]) (by rw [f2 _ _ (by omega), hK.2.2.2.2 373 3 (by decide), a4]) a5 a6
  obtain ⟨σ2, g1, g2, g3⟩ := hG σ1 ρ hr e2 (funext fun k => by rw [hl2, hr])
  refine two_mk (r := r) (σ1 := σ1) (σ2 := σ2) f1 g1 ?_
  refine Inv_act hI a1 a2 a5 a6 hK2 (KR_fr hR g2) (LR_of hL (fun c i q1 q2 => ?_) g3) (Wf_g (fun k hk => (g3 k hk).symm) hW)
  rw [g2 _ _ (by omega), hR.2.2.2.2 c i (by omega) (by omega) (by omega), f3 c i q1 q2]
