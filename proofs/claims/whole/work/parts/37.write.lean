/-! PURE: a new order -/
theorem nle_of {a b : Nat} (h : b < a) (ha : a < 2 ^ 31) : ¬ nI a ≤ nI b := Int32.not_le.mpr (nI_lt h ha)
theorem add_lp {σ : Sg} {no : Nat} (ho : no < 12) (h13 : σ 13 0 = nI no) : ∀ d fu j, j + d = 5 → d < fu → lq1 (fX5_add_51 13 (nI no)) fu (nI j) (upR σ 19 (5 * no) (5 * no + j) (fun _ => -1)) = some (nI no, wr (upR σ 19 (5 * no) (5 * no + 5) (fun _ => -1)) 13 0 (nI (no + 1))) := by
  intro d
  induction d with
  | zero =>
    intro fu j hj hf
    obtain ⟨fu, rfl⟩ : ∃ k, fu = k + 1 := ⟨fu - 1, by omega⟩
    obtain rfl : j = 5 := by omega
    change fX5_add_51 13 (nI no) (lq1 _ fu) _ _ = _
    unfold fX5_add_51
    rw [if_pos (by decide), upR_c (by decide), h13, nI_1, lt_v]
  | succ d ih =>
    intro fu j hj hf
    obtain ⟨fu, rfl⟩ : ∃ k, fu = k + 1 := ⟨fu - 1, by omega⟩
    have ih' := ih fu (j + 1) (by omega) (by omega)
    change fX5_add_51 13 (nI no) (lq1 _ fu) _ _ = _
    generalize lq1 (fX5_add_51 13 (nI no)) fu = K at ih' ⊢
    unfold fX5_add_51
    have x : nI no * 5 + nI j = nI (5 * no + j) := by rw [show (5 : Int32) = nI 5 from rfl, pk_mul, nI_add, Nat.mul_comm]
    rw [if_neg (show ¬ (5 : Int32) ≤ nI j from nle_of (a := 5) (by omega) (by decide)), rf_13_6, ln_19, x, gd_in (n := 60) (by omega) (by decide), nI_cl (by omega), lt_v, upR_s _ _ _ _ _ (by omega) rfl, nI_1, lt_v]
    exact ih'
theorem e5_add {σ : Sg} {no : Nat} (ho : no < 12) (h13 : σ 13 0 = nI no) (f a b c d : Int32) : fX5_add 13 f a b c d σ = some (nI no, wr (upR (wr (wr (wr (wr (wr σ 14 no f) 15 no a) 16 no b) 17 no c) 18 no d) 19 (5 * no) (5 * no + 5) (fun _ => -1)) 13 0 (nI (no + 1))) := by
  have h := add_lp (σ := wr (wr (wr (wr (wr σ 14 no f) 15 no a) 16 no b) 17 no c) 18 no d) ho (by simp only [wr_c (show 13 ≠ 14 by decide), wr_c (show 13 ≠ 15 by decide), wr_c (show 13 ≠ 16 by decide), wr_c (show 13 ≠ 17 by decide), wr_c (show 13 ≠ 18 by decide), h13]) 5 FU 0 rfl (by rw [FU_s]; omega)
  rw [show 5 * no + 0 = 5 * no from rfl, upR_0] at h
  unfold fX5_add
  rw [h13, lt_v, rf_13_1, rf_13_2, rf_13_3, rf_13_4, rf_13_5, ln_14, ln_15, ln_16, ln_17, ln_18, gd_in (n := 12) ho (by decide), lt_v, gd_in (n := 12) ho (by decide), lt_v, gd_in (n := 12) ho (by decide), lt_v, gd_in (n := 12) ho (by decide), lt_v, gd_in (n := 12) ho (by decide), lt_v, lt_v, nI_cl (by omega)]
  exact h
theorem ord_lp {σ : Sg} {no : Nat} (ho : no < 12) (h40 : σ 374 40 = nI no) : ∀ d fu j, j + d = 5 → d < fu → lq1 (fX11_ordered_105 373 (nI no)) fu (nI j) (upR σ 374 (101 + 5 * no) (101 + 5 * no + j) (fun _ => -1)) = some (nI no, wr (upR σ 374 (101 + 5 * no) (101 + 5 * no + 5) (fun _ => -1)) 374 40 (nI (no + 1))) := by
  intro d
  have c40 : (40 : Int32).toNatClampNeg = 40 := by decide
  induction d with
  | zero =>
    intro fu j hj hf
    obtain ⟨fu, rfl⟩ : ∃ k, fu = k + 1 := ⟨fu - 1, by omega⟩
    obtain rfl : j = 5 := by omega
    change fX11_ordered_105 373 (nI no) (lq1 _ fu) _ _ = _
    unfold fX11_ordered_105
    rw [if_pos (by decide), rf_373_0, ln_374, gd_t (by decide), gd_t (by decide), lt_v, c40, upR_out (by omega), h40, nI_1]
  | succ d ih =>
    intro fu j hj hf
    obtain ⟨fu, rfl⟩ : ∃ k, fu = k + 1 := ⟨fu - 1, by omega⟩
    have ih' := ih fu (j + 1) (by omega) (by omega)
    change fX11_ordered_105 373 (nI no) (lq1 _ fu) _ _ = _
    generalize lq1 (fX11_ordered_105 373 (nI no)) fu = K at ih' ⊢
    unfold fX11_ordered_105
    have x : (101 : Int32) + 5 * nI no + nI j = nI (101 + 5 * no + j) := by rw [ix2 (A := 101) (B := 5) 101 5 no rfl rfl, nI_add]
    rw [if_neg (show ¬ (5 : Int32) ≤ nI j from nle_of (a := 5) (by omega) (by decide)), rf_373_0, ln_374, x, gd_in (n := 174) (by omega) (by decide), nI_cl (by omega), lt_v, upR_s _ _ _ _ _ (by omega) rfl, nI_1, lt_v]
    exact ih'
theorem e11_ordered {σ ρ : Sg} {no : Nat} (ho : no < 12) (h40 : σ 374 40 = nI no) (e : fX11_keep 373 σ = some ((), ρ)) (hρ : ρ 374 40 = nI no) (f a b c d : Int32) : fX11_ordered 373 f a b c d σ = some (nI no, wr (upR (wr (wr (wr (wr (wr ρ 374 (41 + 5 * no) f) 374 (42 + 5 * no) a) 374 (43 + 5 * no) b) 374 (44 + 5 * no) c) 374 (45 + 5 * no) d) 374 (101 + 5 * no) (101 + 5 * no + 5) (fun _ => -1)) 374 40 (nI (no + 1))) := by
  have h := ord_lp (σ := wr (wr (wr (wr (wr ρ 374 (41 + 5 * no) f) 374 (42 + 5 * no) a) 374 (43 + 5 * no) b) 374 (44 + 5 * no) c) 374 (45 + 5 * no) d) ho (by rw [wr_i (by omega), wr_i (by omega), wr_i (by omega), wr_i (by omega), wr_i (by omega), hρ]) 5 FU 0 rfl (by rw [FU_s]; omega)
  rw [show 101 + 5 * no + 0 = 101 + 5 * no from rfl, upR_0] at h
  have c40 : (40 : Int32).toNatClampNeg = 40 := by decide
  have n12 : ¬ nI no = 12 := fun q => by
    have := congrArg Int32.toNatClampNeg q
    rw [nI_cl (by omega), show (12 : Int32).toNatClampNeg = 12 from by decide] at this
    omega
  have x0 : (41 : Int32) + 5 * nI no = nI (41 + 5 * no) := ix2 (A := 41) (B := 5) 41 5 no rfl rfl
  have x1 : nI (41 + 5 * no) + 1 = nI (42 + 5 * no) := by rw [nI_1]; congr 1; omega
  have x2 : nI (41 + 5 * no) + 2 = nI (43 + 5 * no) := by rw [show (2 : Int32) = nI 2 from rfl, nI_add]; congr 1; omega
  have x3 : nI (41 + 5 * no) + 3 = nI (44 + 5 * no) := by rw [show (3 : Int32) = nI 3 from rfl, nI_add]; congr 1; omega
  have x4 : nI (41 + 5 * no) + 4 = nI (45 + 5 * no) := by rw [show (4 : Int32) = nI 4 from rfl, nI_add]; congr 1; omega
  unfold fX11_ordered
  rw [rf_373_0, ln_374, gd_t (by decide), c40, h40, lt_v, if_neg n12, e, bd_v, x0, x1, x2, x3, x4, gd_in (n := 174) (by omega) (by decide), lt_v, gd_in (n := 174) (by omega) (by decide), lt_v, gd_in (n := 174) (by omega) (by decide), lt_v, gd_in (n := 174) (by omega) (by decide), lt_v, gd_in (n := 174) (by omega) (by decide), lt_v, lt_v, nI_cl (by omega), nI_cl (by omega), nI_cl (by omega), nI_cl (by omega), nI_cl (by omega)]
  exact h
