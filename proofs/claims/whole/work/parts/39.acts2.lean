/-! PURE: late, wait, run, annul, meet -/
theorem s_late {σ : Sg} (hI : Inv σ) (a1 a2 : Int32) : Two (fX10_late 0 a1 a2) (fX11_late 373 a1 a2) σ := by
  obtain ⟨n, nt, no, nf, hL, hW, h4, h7, h13, h3⟩ := hI.k
  obtain ⟨g0, g14, g40, g161⟩ := hW.2.1
  have hnt : nt ≤ 5 := hW.1.2.1
  unfold fX10_late fX11_late
  simp only [rf_0_2, rf_3_1, e9_has (v0 := 7) h7, bd_v, e10_finding, e11_finds, e10_isWithin, e11_in]
  by_cases A : ib a1 nt = 0
  · exact two_find (-100001) hI (by simp only [e9_has (v0 := 7) h7, bd_v, A, if_true]) (fun τ hτ => by
      rw [e11_isTrain (n := nt) (by rw [row374 hτ, g14]) (by omega), bd_v, if_pos A])
  obtain ⟨s, hs, rfl⟩ := ib_of (by omega) A
  by_cases B : iw a2 1 120 = 0
  · exact two_find (-100001) hI (by simp only [e9_has (v0 := 7) h7, bd_v, if_neg A, B, if_true]) (fun τ hτ => by
      rw [e11_isTrain (n := nt) (by rw [row374 hτ, g14]) (by omega), bd_v, if_neg A, if_pos B])
  obtain ⟨v, hv0, hv, rfl⟩ := iw_nat (a := 1) (b := 120) (iw_of B).1 (iw_of B).2 (by decide) (by decide)
  refine two_write 1 (nI s) (-1) (-1) (nI v) hI hW (fun ho => ?_) ?_ (fun τ hτ => ?_)
  · obtain ⟨q1, q2, q3, q4, q5⟩ := nwO_1 (g := σ 374) ho 1 (nI s) (-1) (-1) (nI v)
    exact Or.inr (Or.inl ⟨s, v, hs, hv0, hv, q1, q2, q3, q4, q5⟩)
  · simp only [e9_has (v0 := 7) h7, bd_v, if_neg A, if_neg B]
  · rw [e11_isTrain (n := nt) (by rw [hτ, g14]) (by omega), bd_v, if_neg A, if_neg B]
theorem s_run {σ : Sg} (hI : Inv σ) (a1 a2 : Int32) : Two (fX10_run 0 a1 a2) (fX11_run 373 a1 a2) σ := by
  obtain ⟨n, nt, no, nf, hL, hW, h4, h7, h13, h3⟩ := hI.k
  obtain ⟨g0, g14, g40, g161⟩ := hW.2.1
  have hnt : nt ≤ 5 := hW.1.2.1
  unfold fX10_run fX11_run
  simp only [rf_0_2, rf_3_1, e9_has (v0 := 7) h7, bd_v, e10_finding, e11_finds, e10_isWithin, e11_in]
  by_cases A : ib a1 nt = 0
  · exact two_find (-100001) hI (by simp only [e9_has (v0 := 7) h7, bd_v, A, if_true]) (fun τ hτ => by
      rw [e11_isTrain (n := nt) (by rw [row374 hτ, g14]) (by omega), bd_v, if_pos A])
  obtain ⟨s, hs, rfl⟩ := ib_of (by omega) A
  by_cases B : iw a2 0 400 = 0
  · exact two_find (-100001) hI (by simp only [e9_has (v0 := 7) h7, bd_v, if_neg A, B, if_true]) (fun τ hτ => by
      rw [e11_isTrain (n := nt) (by rw [row374 hτ, g14]) (by omega), bd_v, if_neg A, if_pos B])
  obtain ⟨v, -, hv, rfl⟩ := iw_nat (a := 0) (b := 400) (iw_of B).1 (iw_of B).2 (by decide) (by decide)
  refine two_write 3 (nI s) (-1) (-1) (nI v) hI hW (fun ho => ?_) ?_ (fun τ hτ => ?_)
  · obtain ⟨q1, q2, q3, q4, q5⟩ := nwO_1 (g := σ 374) ho 3 (nI s) (-1) (-1) (nI v)
    exact Or.inr (Or.inr (Or.inr (Or.inl ⟨s, v, hs, hv, q1, q2, q3, q4, q5⟩)))
  · simp only [e9_has (v0 := 7) h7, bd_v, if_neg A, if_neg B]
  · rw [e11_isTrain (n := nt) (by rw [hτ, g14]) (by omega), bd_v, if_neg A, if_neg B]
theorem s_wait {σ : Sg} (hI : Inv σ) (a1 a2 a3 : Int32) : Two (fX10_wait 0 a1 a2 a3) (fX11_wait 373 a1 a2 a3) σ := by
  obtain ⟨n, nt, no, nf, hL, hW, h4, h7, h13, h3⟩ := hI.k
  obtain ⟨g0, g14, g40, g161⟩ := hW.2.1
  have hnt : nt ≤ 5 := hW.1.2.1
  have hn := hW.st
  unfold fX10_wait fX11_wait
  simp only [rf_0_2, rf_3_1, rf_3_0, e9_has (v0 := 7) h7, e8_hasStation (v0 := 4) h4, bd_v, e10_finding, e11_finds, e10_isWithin, e11_in]
  by_cases A : ib a1 nt = 0
  · exact two_find (-100001) hI (by simp only [e9_has (v0 := 7) h7, bd_v, A, if_true]) (fun τ hτ => by
      rw [e11_isTrain (n := nt) (by rw [row374 hτ, g14]) (by omega), bd_v, if_pos A])
  obtain ⟨s, hs, rfl⟩ := ib_of (by omega) A
  by_cases D : ib a2 n = 0
  · exact two_find (-100001) hI (by simp only [e9_has (v0 := 7) h7, e8_hasStation (v0 := 4) h4, bd_v, if_neg A, D, if_true]) (fun τ hτ => by
      rw [e11_isTrain (n := nt) (by rw [row374 hτ, g14]) (by omega), bd_v, if_neg A, e11_isStation (n := n) (by rw [row374 hτ, g0]) (by omega), bd_v, if_pos D])
  obtain ⟨p, hp, rfl⟩ := ib_of (by omega) D
  by_cases B : iw a3 0 400 = 0
  · exact two_find (-100001) hI (by simp only [e9_has (v0 := 7) h7, e8_hasStation (v0 := 4) h4, bd_v, if_neg A, if_neg D, B, if_true]) (fun τ hτ => by
      rw [e11_isTrain (n := nt) (by rw [row374 hτ, g14]) (by omega), bd_v, if_neg A, e11_isStation (n := n) (by rw [row374 hτ, g0]) (by omega), bd_v, if_neg D, if_pos B])
  obtain ⟨v, -, hv, rfl⟩ := iw_nat (a := 0) (b := 400) (iw_of B).1 (iw_of B).2 (by decide) (by decide)
  refine two_write 2 (nI s) (-1) (nI p) (nI v) hI hW (fun ho => ?_) ?_ (fun τ hτ => ?_)
  · obtain ⟨q1, q2, q3, q4, q5⟩ := nwO_1 (g := σ 374) ho 2 (nI s) (-1) (nI p) (nI v)
    exact Or.inr (Or.inr (Or.inl ⟨s, p, v, hs, hp, hv, q1, q2, q3, q4, q5⟩))
  · simp only [e9_has (v0 := 7) h7, e8_hasStation (v0 := 4) h4, bd_v, if_neg A, if_neg D, if_neg B]
  · rw [e11_isTrain (n := nt) (by rw [hτ, g14]) (by omega), bd_v, if_neg A, e11_isStation (n := n) (by rw [hτ, g0]) (by omega), bd_v, if_neg D, if_neg B]
theorem s_annul {σ : Sg} (hI : Inv σ) (a1 : Int32) : Two (fX10_annul 0 a1) (fX11_annul 373 a1) σ := by
  obtain ⟨n, nt, no, nf, hL, hW, h4, h7, h13, h3⟩ := hI.k
  obtain ⟨g0, g14, g40, g161⟩ := hW.2.1
  have hno : no ≤ 12 := hW.1.2.2.1
  unfold fX10_annul fX11_annul
  simp only [rf_0_2, rf_3_2, e5_has (v0 := 13) h13, bd_v, e10_finding, e11_finds]
  by_cases A : ib a1 no = 0
  · exact two_find (-100001) hI (by simp only [e5_has (v0 := 13) h13, bd_v, A, if_true]) (fun τ hτ => by
      rw [e11_isOrder (n := no) (by rw [row374 hτ, g40]) (by omega), bd_v, if_pos A])
  obtain ⟨s, hs, rfl⟩ := ib_of (by omega) A
  refine two_write 4 (nI s) (-1) (-1) 0 hI hW (fun ho => ?_) ?_ (fun τ hτ => ?_)
  · obtain ⟨q1, q2, q3, q4, q5⟩ := nwO_1 (g := σ 374) ho 4 (nI s) (-1) (-1) 0
    exact Or.inr (Or.inr (Or.inr (Or.inr ⟨s, hs, q1, q2, q3, q4, q5⟩)))
  · simp only [e5_has (v0 := 13) h13, bd_v, if_neg A]
  · rw [e11_isOrder (n := no) (by rw [hτ, g40]) (by omega), bd_v, if_neg A]
