/-! PURE: acts that only read the line -/
theorem Inv.k {σ : Sg} (hI : Inv σ) : ∃ n nt no nf, LR σ 3 (σ 374) ∧ Wf (σ 374) n nt no nf ∧ (σ 4 0 = nI n ∧ σ 7 0 = nI nt ∧ σ 13 0 = nI no ∧ σ 3 3 = nI nf) := by
  obtain ⟨n, nt, no, nf, a1, a2, -⟩ := hI
  refine ⟨n, nt, no, nf, a1, a2, ?_, ?_, ?_, ?_⟩
  · rw [← a2.2.1.1]; exact a1.1.1
  · rw [← a2.2.1.2.1]; exact a1.1.2.1
  · rw [← a2.2.1.2.2.1]; exact a1.1.2.2.1
  · rw [← a2.2.1.2.2.2]; exact a1.1.2.2.2
theorem row374 {σ τ : Sg} {v : Int32} (h : τ = wr σ 0 5 v) : τ 374 = σ 374 := by
  funext i
  rw [h, wr_c (by decide)]
theorem cw_gw {σ : Sg} {g : Nat → Int32} (h : LR σ 3 g) {t : Nat} (ht : t < 5) : cw σ t = gw g t := by
  unfold cw gw
  obtain ⟨⟨-, h1, h2⟩, -⟩ := h.2.2.2.1 t ht
  rw [show σ 9 t = g (16 + 5 * t) from h1, show σ 10 t = g (17 + 5 * t) from h2]
/-- superior: by strength, by rank and way -/
theorem over_tab : ∀ k, k < 4 → ∀ k2, k2 < 4 → ∀ w, w < 2 → (2 * rnk k + (if nI w = 0 then 1 else 0) ≤ 2 * rnk k2 + (if nI (1 - w) = 0 then 1 else 0)) = ((if (if nI k2 = 3 then 0 else nI k2) < (if nI k = 3 then 0 else nI k) then (1 : Int32) else if (if nI k = 3 then 0 else nI k) = (if nI k2 = 3 then 0 else nI k2) then (if nI w = 0 then 1 else 0) else 0) = 0) := by decide
theorem s_over {σ : Sg} (hI : Inv σ) (a1 a2 : Int32) : Two (fX10_over 0 a1 a2) (fX11_over 373 a1 a2) σ := by
  obtain ⟨n, nt, no, nf, hL, hW, h4, h7, h13, h3⟩ := hI.k
  have g14 := hW.2.1.2.1
  have hnt : nt ≤ 5 := hW.1.2.1
  unfold fX10_over fX11_over
  simp only [rf_0_2, rf_3_1, e9_has (v0 := 7) h7, bd_v, e10_finding, e11_finds]
  by_cases A : ib a1 nt = 0
  · exact two_find (-100001) hI (by simp only [e9_has (v0 := 7) h7, bd_v, A, if_true]) (fun τ hτ => by
      rw [e11_isTrain (n := nt) (by rw [row374 hτ, g14]) (by omega), bd_v, if_pos A])
  obtain ⟨t, ht, rfl⟩ := ib_of (by omega) A
  by_cases B : ib a2 nt = 0
  · exact two_find (-100001) hI (by simp only [e9_has (v0 := 7) h7, bd_v, if_neg A, B, if_true]) (fun τ hτ => by
      have e : τ 374 14 = nI nt := by rw [row374 hτ, g14]
      rw [e11_isTrain e (by omega), bd_v, if_neg A, e11_isTrain e (by omega), bd_v, if_pos B])
  obtain ⟨o, ho, rfl⟩ := ib_of (by omega) B
  by_cases D : gw (σ 374) t = gw (σ 374) o
  · refine two_find (-100003) hI ?_ (fun τ hτ => ?_)
    · simp only [e9_has (v0 := 7) h7, bd_v, if_neg A, if_neg B]
      rw [e9_areContrary σ t o (by omega) (by omega), bd_v, cw_gw hL (by omega), cw_gw hL (by omega), if_pos D, if_pos rfl]
    · have e : τ 374 14 = nI nt := by rw [row374 hτ, g14]
      rw [e11_isTrain e (by omega), bd_v, if_neg A, e11_isTrain e (by omega), bd_v, if_neg B, e11_wayOf τ t (by omega), bd_v, e11_wayOf τ o (by omega), bd_v, row374 hτ, if_pos D]
  · obtain ⟨k, f, d, len, tm, hk, -, -, -, -, -, -, e1, -⟩ := hW.2.2.2.2.1 t ht
    obtain ⟨k2, f2, d2, len2, tm2, hk2, -, -, -, -, -, -, e2, -⟩ := hW.2.2.2.2.1 o ho
    have c1 : σ 8 t = nI k := by rw [← e1]; exact (hL.2.2.2.1 t (by omega)).1.1
    have c2 : σ 8 o = nI k2 := by rw [← e2]; exact (hL.2.2.2.1 o (by omega)).1.1
    have hw : ∃ w, w < 2 ∧ gw (σ 374) t = nI w ∧ gw (σ 374) o = nI (1 - w) := by
      rcases gw_zo (σ 374) t with q | q <;> rcases gw_zo (σ 374) o with r | r
      · exact absurd (q.trans r.symm) D
      · exact ⟨0, by decide, q, r⟩
      · exact ⟨1, by decide, q, r⟩
      · exact absurd (q.trans r.symm) D
    obtain ⟨w, hw2, w1, w2⟩ := hw
    have key := over_tab k hk k2 hk2 w hw2
    refine two_read (if gov (σ 374) t (gw (σ 374) t) o = 0 then 0 else 1) hI ?_ ?_
    · simp only [e9_has (v0 := 7) h7, bd_v, if_neg A, if_neg B]
      rw [e9_areContrary σ t o (by omega) (by omega), bd_v, cw_gw hL (by omega), cw_gw hL (by omega), if_neg D, if_neg (by decide), e9_wayOf σ t (by omega), bd_v, cw_gw hL (by omega), e9_strength σ t k _ (by omega) hk c1, bd_v, lt_v, e9_wayOf σ o (by omega), bd_v, cw_gw hL (by omega), e9_strength σ o k2 _ (by omega) hk2 c2, bd_v]
      unfold gov gr
      rw [e1, e2, w1, w2]
      by_cases q : 2 * rnk k + (if nI w = 0 then 1 else 0) ≤ 2 * rnk k2 + (if nI (1 - w) = 0 then 1 else 0)
      · rw [if_pos q, if_pos (key ▸ q)]
      · rw [if_neg q, if_neg (fun z => q (key ▸ z))]
    · rw [e11_isTrain g14 (by omega), bd_v, if_neg A, e11_isTrain g14 (by omega), bd_v, if_neg B, e11_wayOf σ t (by omega), bd_v, e11_wayOf σ o (by omega), bd_v, if_neg D, e11_wayOf σ t (by omega), bd_v, e11_isOver σ t o _ (by omega) (by omega), bd_v]
      split <;> rfl
