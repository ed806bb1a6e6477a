/-! PURE: the law's loop -/
theorem law_add {i k : Nat} {c : Int32} (h : c = nI k) : nI i + c = nI (i + k) := by rw [h, nI_add]
set_option maxRecDepth 100000 in
set_option maxHeartbeats 4000000 in
theorem law_step (xs : Nat → Int32) (L : Nat) (hL : L ≤ 3072) (k : Int32 → Sg → Option (Int32 × Sg)) (i : Nat) (hi : i + 6 ≤ L) (σ : Sg) (hI : Inv σ) : ∃ σ', Inv σ' ∧ fL_law_18 xs L 0 373 k (nI i) σ = k (nI (i + 6)) σ' := by
  have e1 : nI i + 1 = nI (i + 1) := law_add rfl
  have e2 : nI i + 2 = nI (i + 2) := law_add rfl
  have e3 : nI i + 3 = nI (i + 3) := law_add rfl
  have e4 : nI i + 4 = nI (i + 4) := law_add rfl
  have e5 : nI i + 5 = nI (i + 5) := law_add rfl
  have e6 : nI i + 6 = nI (i + 6) := law_add rfl
  have hn : ¬ nI L - 6 < nI i := by
    rw [show nI L - 6 = nI (L - 6) from pk_sub (a := L) (b := 6) (by omega)]
    exact nI_nlt (by omega) (by omega)
  have g0 : ∀ {F : Option (Int32 × Sg)} {j : Nat}, j < 6 → gd (inR (nI (i + j)) L) F = F := fun h => gd_in (by omega) (by omega)
  unfold fL_law_18
  rw [if_neg hn, gd_in (by omega) (by omega)]
  simp only [e1, e2, e3, e4, e5]
  generalize xs (nI i).toNatClampNeg &&& 63 = c
  by_cases h0 : c = 0
  · rw [if_pos h0]
    obtain ⟨r, s1, s2, f1, f2, hI2⟩ := s_stations hI (xs (nI (i + 1)).toNatClampNeg)
    rw [g0 (j := 1) (by decide), f1, bd_v, g0 (j := 1) (by decide), f2, bd_v, if_pos rfl]
    refine ⟨s2, hI2, ?_⟩
    unfold fL_law_1370
    rw [lt_v, e6]
  rw [if_neg h0]
  by_cases h1 : c = 1
  · rw [if_pos h1]
    obtain ⟨r, s1, s2, f1, f2, hI2⟩ := s_siding hI (xs (nI (i + 1)).toNatClampNeg) (xs (nI (i + 2)).toNatClampNeg)
    rw [g0 (j := 1) (by decide), g0 (j := 2) (by decide), f1, bd_v, g0 (j := 1) (by decide), g0 (j := 2) (by decide), f2, bd_v, if_pos rfl]
    refine ⟨s2, hI2, ?_⟩
    unfold fL_law_1370
    rw [lt_v, e6]
  rw [if_neg h1]
  by_cases h2 : c = 2
  · rw [if_pos h2]
    obtain ⟨r, s1, s2, f1, f2, hI2⟩ := s_section hI (xs (nI (i + 1)).toNatClampNeg) (xs (nI (i + 2)).toNatClampNeg)
    rw [g0 (j := 1) (by decide), g0 (j := 2) (by decide), f1, bd_v, g0 (j := 1) (by decide), g0 (j := 2) (by decide), f2, bd_v, if_pos rfl]
    refine ⟨s2, hI2, ?_⟩
    unfold fL_law_1370
    rw [lt_v, e6]
  rw [if_neg h2]
  by_cases h3 : c = 3
  · rw [if_pos h3]
    obtain ⟨r, s1, s2, f1, f2, hI2⟩ := s_train hI (xs (nI (i + 1)).toNatClampNeg) (xs (nI (i + 2)).toNatClampNeg) (xs (nI (i + 3)).toNatClampNeg) (xs (nI (i + 4)).toNatClampNeg) (xs (nI (i + 5)).toNatClampNeg)
    rw [g0 (j := 1) (by decide), g0 (j := 2) (by decide), g0 (j := 3) (by decide), g0 (j := 4) (by decide), g0 (j := 5) (by decide), f1, bd_v, g0 (j := 1) (by decide), g0 (j := 2) (by decide), g0 (j := 3) (by decide), g0 (j := 4) (by decide), g0 (j := 5) (by decide), f2, bd_v, if_pos rfl]
    refine ⟨s2, hI2, ?_⟩
    unfold fL_law_1370
    rw [lt_v, e6]
  rw [if_neg h3]
  by_cases h4 : c = 4
  · rw [if_pos h4]
    obtain ⟨r, s1, s2, f1, f2, hI2⟩ := s_as hI (xs (nI (i + 1)).toNatClampNeg) (xs (nI (i + 2)).toNatClampNeg)
    rw [g0 (j := 1) (by decide), g0 (j := 2) (by decide), f1, bd_v, g0 (j := 1) (by decide), g0 (j := 2) (by decide), f2, bd_v, if_pos rfl]
    refine ⟨s2, hI2, ?_⟩
    unfold fL_law_1370
    rw [lt_v, e6]
  rw [if_neg h4]
  by_cases h5 : c = 5
  · rw [if_pos h5]
    obtain ⟨r, s1, s2, f1, f2, hI2⟩ := s_of hI (xs (nI (i + 1)).toNatClampNeg) (xs (nI (i + 2)).toNatClampNeg)
    rw [g0 (j := 1) (by decide), g0 (j := 2) (by decide), f1, bd_v, g0 (j := 1) (by decide), g0 (j := 2) (by decide), f2, bd_v, if_pos rfl]
    refine ⟨s2, hI2, ?_⟩
    unfold fL_law_1370
    rw [lt_v, e6]
  rw [if_neg h5]
  by_cases h6 : c = 6
  · rw [if_pos h6]
    obtain ⟨r, s1, s2, f1, f2, hI2⟩ := s_time hI (xs (nI (i + 1)).toNatClampNeg) (xs (nI (i + 2)).toNatClampNeg)
    rw [g0 (j := 1) (by decide), g0 (j := 2) (by decide), f1, bd_v, g0 (j := 1) (by decide), g0 (j := 2) (by decide), f2, bd_v, if_pos rfl]
    refine ⟨s2, hI2, ?_⟩
    unfold fL_law_1370
    rw [lt_v, e6]
  rw [if_neg h6]
  by_cases h7 : c = 7
  · rw [if_pos h7]
    obtain ⟨r, s1, s2, f1, f2, hI2⟩ := s_due hI (xs (nI (i + 1)).toNatClampNeg) (xs (nI (i + 2)).toNatClampNeg)
    rw [g0 (j := 1) (by decide), g0 (j := 2) (by decide), f1, bd_v, g0 (j := 1) (by decide), g0 (j := 2) (by decide), f2, bd_v, if_pos rfl]
    refine ⟨s2, hI2, ?_⟩
    unfold fL_law_1370
    rw [lt_v, e6]
  rw [if_neg h7]
  by_cases h8 : c = 8
  · rw [if_pos h8]
    obtain ⟨r, s1, s2, f1, f2, hI2⟩ := s_over hI (xs (nI (i + 1)).toNatClampNeg) (xs (nI (i + 2)).toNatClampNeg)
    rw [g0 (j := 1) (by decide), g0 (j := 2) (by decide), f1, bd_v, g0 (j := 1) (by decide), g0 (j := 2) (by decide), f2, bd_v, if_pos rfl]
    refine ⟨s2, hI2, ?_⟩
    unfold fL_law_1370
    rw [lt_v, e6]
  rw [if_neg h8]
  by_cases h9 : c = 9
  · rw [if_pos h9]
    obtain ⟨r, s1, s2, f1, f2, hI2⟩ := s_meet hI (xs (nI (i + 1)).toNatClampNeg) (xs (nI (i + 2)).toNatClampNeg) (xs (nI (i + 3)).toNatClampNeg)
    rw [g0 (j := 1) (by decide), g0 (j := 2) (by decide), g0 (j := 3) (by decide), f1, bd_v, g0 (j := 1) (by decide), g0 (j := 2) (by decide), g0 (j := 3) (by decide), f2, bd_v, if_pos rfl]
    refine ⟨s2, hI2, ?_⟩
    unfold fL_law_1370
    rw [lt_v, e6]
  rw [if_neg h9]
  by_cases h10 : c = 10
  · rw [if_pos h10]
    obtain ⟨r, s1, s2, f1, f2, hI2⟩ := s_late hI (xs (nI (i + 1)).toNatClampNeg) (xs (nI (i + 2)).toNatClampNeg)
    rw [g0 (j := 1) (by decide), g0 (j := 2) (by decide), f1, bd_v, g0 (j := 1) (by decide), g0 (j := 2) (by decide), f2, bd_v, if_pos rfl]
    refine ⟨s2, hI2, ?_⟩
    unfold fL_law_1370
    rw [lt_v, e6]
  rw [if_neg h10]
  by_cases h11 : c = 11
  · rw [if_pos h11]
    obtain ⟨r, s1, s2, f1, f2, hI2⟩ := s_wait hI (xs (nI (i + 1)).toNatClampNeg) (xs (nI (i + 2)).toNatClampNeg) (xs (nI (i + 3)).toNatClampNeg)
    rw [g0 (j := 1) (by decide), g0 (j := 2) (by decide), g0 (j := 3) (by decide), f1, bd_v, g0 (j := 1) (by decide), g0 (j := 2) (by decide), g0 (j := 3) (by decide), f2, bd_v, if_pos rfl]
    refine ⟨s2, hI2, ?_⟩
    unfold fL_law_1370
    rw [lt_v, e6]
  rw [if_neg h11]
  by_cases h12 : c = 12
  · rw [if_pos h12]
    obtain ⟨r, s1, s2, f1, f2, hI2⟩ := s_run hI (xs (nI (i + 1)).toNatClampNeg) (xs (nI (i + 2)).toNatClampNeg)
    rw [g0 (j := 1) (by decide), g0 (j := 2) (by decide), f1, bd_v, g0 (j := 1) (by decide), g0 (j := 2) (by decide), f2, bd_v, if_pos rfl]
    refine ⟨s2, hI2, ?_⟩
    unfold fL_law_1370
    rw [lt_v, e6]
  rw [if_neg h12]
  by_cases h13 : c = 13
  · rw [if_pos h13]
    obtain ⟨r, s1, s2, f1, f2, hI2⟩ := s_annul hI (xs (nI (i + 1)).toNatClampNeg)
    rw [g0 (j := 1) (by decide), f1, bd_v, g0 (j := 1) (by decide), f2, bd_v, if_pos rfl]
    refine ⟨s2, hI2, ?_⟩
    unfold fL_law_1370
    rw [lt_v, e6]
  rw [if_neg h13]
  by_cases h14 : c = 14
  · rw [if_pos h14]
    obtain ⟨r, s1, s2, f1, f2, hI2⟩ := s_hand hI (xs (nI (i + 1)).toNatClampNeg) (xs (nI (i + 2)).toNatClampNeg) (xs (nI (i + 3)).toNatClampNeg)
    rw [g0 (j := 1) (by decide), g0 (j := 2) (by decide), g0 (j := 3) (by decide), f1, bd_v, g0 (j := 1) (by decide), g0 (j := 2) (by decide), g0 (j := 3) (by decide), f2, bd_v, if_pos rfl]
    refine ⟨s2, hI2, ?_⟩
    unfold fL_law_1370
    rw [lt_v, e6]
  rw [if_neg h14]
  by_cases h15 : c = 15
  · rw [if_pos h15]
    obtain ⟨r, s1, s2, f1, f2, hI2⟩ := s_holds hI (xs (nI (i + 1)).toNatClampNeg) (xs (nI (i + 2)).toNatClampNeg) (xs (nI (i + 3)).toNatClampNeg)
    rw [g0 (j := 1) (by decide), g0 (j := 2) (by decide), g0 (j := 3) (by decide), f1, bd_v, g0 (j := 1) (by decide), g0 (j := 2) (by decide), g0 (j := 3) (by decide), f2, bd_v, if_pos rfl]
    refine ⟨s2, hI2, ?_⟩
    unfold fL_law_1370
    rw [lt_v, e6]
  rw [if_neg h15]
  by_cases h16 : c = 16
  · rw [if_pos h16]
    obtain ⟨r, s1, s2, f1, f2, hI2⟩ := s_order hI (xs (nI (i + 1)).toNatClampNeg) (xs (nI (i + 2)).toNatClampNeg)
    rw [g0 (j := 1) (by decide), g0 (j := 2) (by decide), f1, bd_v, g0 (j := 1) (by decide), g0 (j := 2) (by decide), f2, bd_v, if_pos rfl]
    refine ⟨s2, hI2, ?_⟩
    unfold fL_law_1370
    rw [lt_v, e6]
  rw [if_neg h16]
  by_cases h17 : c = 17
  · rw [if_pos h17]
    obtain ⟨r, s1, s2, f1, f2, hI2⟩ := s_force hI (xs (nI (i + 1)).toNatClampNeg) (xs (nI (i + 2)).toNatClampNeg)
    rw [g0 (j := 1) (by decide), g0 (j := 2) (by decide), f1, bd_v, g0 (j := 1) (by decide), g0 (j := 2) (by decide), f2, bd_v, if_pos rfl]
    refine ⟨s2, hI2, ?_⟩
    unfold fL_law_1370
    rw [lt_v, e6]
  rw [if_neg h17]
  by_cases h18 : c = 18
  · rw [if_pos h18]
    obtain ⟨r, s1, s2, f1, f2, hI2⟩ := s_where hI (xs (nI (i + 1)).toNatClampNeg) (xs (nI (i + 2)).toNatClampNeg)
    rw [g0 (j := 1) (by decide), g0 (j := 2) (by decide), f1, bd_v, g0 (j := 1) (by decide), g0 (j := 2) (by decide), f2, bd_v, if_pos rfl]
    refine ⟨s2, hI2, ?_⟩
    unfold fL_law_1370
    rw [lt_v, e6]
  rw [if_neg h18]
  by_cases h19 : c = 19
  · rw [if_pos h19]
    obtain ⟨r, s1, s2, f1, f2, hI2⟩ := s_came hI (xs (nI (i + 1)).toNatClampNeg) (xs (nI (i + 2)).toNatClampNeg)
    rw [g0 (j := 1) (by decide), g0 (j := 2) (by decide), f1, bd_v, g0 (j := 1) (by decide), g0 (j := 2) (by decide), f2, bd_v, if_pos rfl]
    refine ⟨s2, hI2, ?_⟩
    unfold fL_law_1370
    rw [lt_v, e6]
  rw [if_neg h19]
  by_cases h20 : c = 20
  · rw [if_pos h20]
    obtain ⟨r, s1, s2, f1, f2, hI2⟩ := s_left hI (xs (nI (i + 1)).toNatClampNeg) (xs (nI (i + 2)).toNatClampNeg)
    rw [g0 (j := 1) (by decide), g0 (j := 2) (by decide), f1, bd_v, g0 (j := 1) (by decide), g0 (j := 2) (by decide), f2, bd_v, if_pos rfl]
    refine ⟨s2, hI2, ?_⟩
    unfold fL_law_1370
    rw [lt_v, e6]
  rw [if_neg h20]
  by_cases h21 : c = 21
  · rw [if_pos h21]
    obtain ⟨r, s1, s2, f1, f2, hI2⟩ := s_why hI (xs (nI (i + 1)).toNatClampNeg) (xs (nI (i + 2)).toNatClampNeg)
    rw [g0 (j := 1) (by decide), g0 (j := 2) (by decide), f1, bd_v, g0 (j := 1) (by decide), g0 (j := 2) (by decide), f2, bd_v, if_pos rfl]
    refine ⟨s2, hI2, ?_⟩
    unfold fL_law_1370
    rw [lt_v, e6]
  rw [if_neg h21]
  by_cases h22 : c = 22
  · rw [if_pos h22]
    obtain ⟨r, s1, s2, f1, f2, hI2⟩ := s_heads hI
    rw [f1, bd_v, f2, bd_v, if_pos rfl]
    refine ⟨s2, hI2, ?_⟩
    unfold fL_law_1370
    rw [lt_v, e6]
  rw [if_neg h22]
  by_cases h23 : c = 23
  · rw [if_pos h23]
    obtain ⟨r, s1, s2, f1, f2, hI2⟩ := s_head hI (xs (nI (i + 1)).toNatClampNeg)
    rw [g0 (j := 1) (by decide), f1, bd_v, g0 (j := 1) (by decide), f2, bd_v, if_pos rfl]
    refine ⟨s2, hI2, ?_⟩
    unfold fL_law_1370
    rw [lt_v, e6]
  rw [if_neg h23]
  by_cases h24 : c = 24
  · rw [if_pos h24]
    obtain ⟨r, s1, s2, f1, f2, hI2⟩ := s_cause hI
    rw [f1, bd_v, f2, bd_v, if_pos rfl]
    refine ⟨s2, hI2, ?_⟩
    unfold fL_law_1370
    rw [lt_v, e6]
  rw [if_neg h24]
  by_cases h25 : c = 25
  · rw [if_pos h25]
    obtain ⟨r, s1, s2, f1, f2, hI2⟩ := s_fouls hI
    rw [f1, bd_v, f2, bd_v, if_pos rfl]
    refine ⟨s2, hI2, ?_⟩
    unfold fL_law_1370
    rw [lt_v, e6]
  rw [if_neg h25]
  by_cases h26 : c = 26
  · rw [if_pos h26]
    obtain ⟨r, s1, s2, f1, f2, hI2⟩ := s_delay hI
    rw [f1, bd_v, f2, bd_v, if_pos rfl]
    refine ⟨s2, hI2, ?_⟩
    unfold fL_law_1370
    rw [lt_v, e6]
  rw [if_neg h26]
  by_cases h27 : c = 27
  · rw [if_pos h27]
    obtain ⟨r, s1, s2, f1, f2, hI2⟩ := s_best hI (xs (nI (i + 1)).toNatClampNeg)
    rw [g0 (j := 1) (by decide), f1, bd_v, g0 (j := 1) (by decide), f2, bd_v, if_pos rfl]
    refine ⟨s2, hI2, ?_⟩
    unfold fL_law_1370
    rw [lt_v, e6]
  rw [if_neg h27]
  by_cases h28 : c = 28
  · rw [if_pos h28]
    obtain ⟨r, s1, s2, f1, f2, hI2⟩ := s_price hI (xs (nI (i + 1)).toNatClampNeg) (xs (nI (i + 2)).toNatClampNeg) (xs (nI (i + 3)).toNatClampNeg)
    rw [g0 (j := 1) (by decide), g0 (j := 2) (by decide), g0 (j := 3) (by decide), f1, bd_v, g0 (j := 1) (by decide), g0 (j := 2) (by decide), g0 (j := 3) (by decide), f2, bd_v, if_pos rfl]
    refine ⟨s2, hI2, ?_⟩
    unfold fL_law_1370
    rw [lt_v, e6]
  rw [if_neg h28]
  by_cases h29 : c = 29
  · rw [if_pos h29]
    obtain ⟨r, s1, s2, f1, f2, hI2⟩ := s_proves hI (xs (nI (i + 1)).toNatClampNeg) (xs (nI (i + 2)).toNatClampNeg) (xs (nI (i + 3)).toNatClampNeg) (xs (nI (i + 4)).toNatClampNeg)
    rw [g0 (j := 1) (by decide), g0 (j := 2) (by decide), g0 (j := 3) (by decide), g0 (j := 4) (by decide), f1, bd_v, g0 (j := 1) (by decide), g0 (j := 2) (by decide), g0 (j := 3) (by decide), g0 (j := 4) (by decide), f2, bd_v, if_pos rfl]
    refine ⟨s2, hI2, ?_⟩
    unfold fL_law_1370
    rw [lt_v, e6]
  rw [if_neg h29]
  by_cases h30 : c = 30
  · rw [if_pos h30]
    obtain ⟨r, s1, s2, f1, f2, hI2⟩ := s_sheet hI (xs (nI (i + 1)).toNatClampNeg) (xs (nI (i + 2)).toNatClampNeg) (xs (nI (i + 3)).toNatClampNeg)
    rw [g0 (j := 1) (by decide), g0 (j := 2) (by decide), g0 (j := 3) (by decide), f1, bd_v, g0 (j := 1) (by decide), g0 (j := 2) (by decide), g0 (j := 3) (by decide), f2, bd_v, if_pos rfl]
    refine ⟨s2, hI2, ?_⟩
    unfold fL_law_1370
    rw [lt_v, e6]
  rw [if_neg h30]
  by_cases h31 : c = 31
  · rw [if_pos h31]
    obtain ⟨r, s1, s2, f1, f2, hI2⟩ := s_put hI (xs (nI (i + 1)).toNatClampNeg) (xs (nI (i + 2)).toNatClampNeg) (xs (nI (i + 3)).toNatClampNeg)
    rw [g0 (j := 1) (by decide), g0 (j := 2) (by decide), g0 (j := 3) (by decide), f1, bd_v, g0 (j := 1) (by decide), g0 (j := 2) (by decide), g0 (j := 3) (by decide), f2, bd_v, if_pos rfl]
    refine ⟨s2, hI2, ?_⟩
    unfold fL_law_1370
    rw [lt_v, e6]
  rw [if_neg h31]
  by_cases h32 : c = 32
  · rw [if_pos h32]
    obtain ⟨r, s1, s2, f1, f2, hI2⟩ := s_copy hI (xs (nI (i + 1)).toNatClampNeg) (xs (nI (i + 2)).toNatClampNeg) (xs (nI (i + 3)).toNatClampNeg) (xs (nI (i + 4)).toNatClampNeg) (xs (nI (i + 5)).toNatClampNeg)
    rw [g0 (j := 1) (by decide), g0 (j := 2) (by decide), g0 (j := 3) (by decide), g0 (j := 4) (by decide), g0 (j := 5) (by decide), f1, bd_v, g0 (j := 1) (by decide), g0 (j := 2) (by decide), g0 (j := 3) (by decide), g0 (j := 4) (by decide), g0 (j := 5) (by decide), f2, bd_v, if_pos rfl]
    refine ⟨s2, hI2, ?_⟩
    unfold fL_law_1370
    rw [lt_v, e6]
  rw [if_neg h32]
  by_cases h33 : c = 33
  · rw [if_pos h33]
    obtain ⟨r, s1, s2, f1, f2, hI2⟩ := s_grades hI (xs (nI (i + 1)).toNatClampNeg)
    rw [g0 (j := 1) (by decide), f1, bd_v, g0 (j := 1) (by decide), f2, bd_v, if_pos rfl]
    refine ⟨s2, hI2, ?_⟩
    unfold fL_law_1370
    rw [lt_v, e6]
  rw [if_neg h33]
  by_cases h34 : c = 34
  · rw [if_pos h34]
    obtain ⟨r, s1, s2, f1, f2, hI2⟩ := s_undo hI
    rw [f1, bd_v, f2, bd_v, if_pos rfl]
    refine ⟨s2, hI2, ?_⟩
    unfold fL_law_1370
    rw [lt_v, e6]
  rw [if_neg h34]
  by_cases h35 : c = 35
  · rw [if_pos h35]
    obtain ⟨r, s1, s2, f1, f2, hI2⟩ := s_all hI (xs (nI (i + 1)).toNatClampNeg)
    rw [g0 (j := 1) (by decide), f1, bd_v, g0 (j := 1) (by decide), f2, bd_v, if_pos rfl]
    refine ⟨s2, hI2, ?_⟩
    unfold fL_law_1370
    rw [lt_v, e6]
  rw [if_neg h35]
  refine ⟨σ, hI, ?_⟩
  unfold fL_law_1370
  rw [lt_v, e6]
theorem law_all (xs : Nat → Int32) (L : Nat) (hL : L ≤ 3072) : ∀ d fu j σ, j + d = L / 6 → d < fu → Inv σ → ∃ σ', lq1 (fL_law_18 xs L 0 373) fu (nI (6 * j)) σ = some (1, σ') := by
  intro d
  induction d with
  | zero =>
    intro fu j σ hj hf hI
    obtain ⟨fu, rfl⟩ : ∃ k, fu = k + 1 := ⟨fu - 1, by omega⟩
    show ∃ σ', fL_law_18 xs L 0 373 _ _ _ = some (1, σ')
    unfold fL_law_18
    have h1 : nI L - 6 < nI (6 * j) := by
      rcases Nat.lt_or_ge L 6 with q | q
      · have e : L < 6 := q
        have hj0 : j = 0 := by omega
        subst hj0
        have : ∀ q, q < 6 → nI q - 6 < nI (6 * 0) := by decide
        exact this L e
      · rw [show nI L - 6 = nI (L - 6) from pk_sub (a := L) (b := 6) (by omega)]
        exact nI_lt (by omega) (by omega)
    rw [if_pos h1]
    exact ⟨σ, rfl⟩
  | succ d ih =>
    intro fu j σ hj hf hI
    obtain ⟨fu, rfl⟩ : ∃ k, fu = k + 1 := ⟨fu - 1, by omega⟩
    show ∃ σ', fL_law_18 xs L 0 373 _ _ _ = some (1, σ')
    obtain ⟨s1, hI1, e⟩ := law_step xs L hL (lq1 (fL_law_18 xs L 0 373) fu) (6 * j) (by omega) σ hI
    rw [e, show 6 * j + 6 = 6 * (j + 1) by omega]
    exact ih fu (j + 1) s1 (by omega) (by omega) hI1
theorem pure_whole (xs : Nat → Int32) (L : Nat) (hL : L ≤ 3072) : ∃ σ', fL_law xs L 0 373 sg0 = some (1, σ') := by
  unfold fL_law
  rw [lt_v, show (0 : Int32) = nI (6 * 0) from rfl]
  exact law_all xs L hL (L / 6) FU 0 sg0 (by omega) (by rw [FU_s]; omega) inv_first
