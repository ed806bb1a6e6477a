/-! PURE: put -/
theorem nw_nw8 (v : Int32) : v.toInt8.toInt32.toInt8.toInt32 = v.toInt8.toInt32 := by simp
theorem nw_nw16 (v : Int32) : v.toInt16.toInt32.toInt16.toInt32 = v.toInt16.toInt32 := by simp
theorem mk_nw8 (v : Int32) : v.toInt8.toInt32 &&& 255 = v &&& 255 := by
  apply Int32.toBitVec_inj.mp
  apply BitVec.eq_of_getLsbD_eq
  intro i hi
  have h255 : ((255 : Int32).toBitVec).getLsbD i = decide (i < 8) := by
    have : ∀ j, j < 32 → ((255 : Int32).toBitVec).getLsbD j = decide (j < 8) := by decide
    exact this i hi
  rw [Int32.toBitVec_and, Int32.toBitVec_and, BitVec.getLsbD_and, BitVec.getLsbD_and, h255]
  by_cases h : i < 8
  · have e : (v.toInt8.toInt32).toBitVec.getLsbD i = v.toBitVec.getLsbD i := by
      rw [Int8.toBitVec_toInt32, Int32.toBitVec_toInt8, BitVec.getLsbD_signExtend]
      simp [h, hi, BitVec.getElem_signExtend]
    rw [e]
  · simp [h]
theorem mk_nw16 (v : Int32) : v.toInt16.toInt32 &&& 65535 = v &&& 65535 := by
  apply Int32.toBitVec_inj.mp
  apply BitVec.eq_of_getLsbD_eq
  intro i hi
  have h255 : ((65535 : Int32).toBitVec).getLsbD i = decide (i < 16) := by
    have : ∀ j, j < 32 → ((65535 : Int32).toBitVec).getLsbD j = decide (j < 16) := by decide
    exact this i hi
  rw [Int32.toBitVec_and, Int32.toBitVec_and, BitVec.getLsbD_and, BitVec.getLsbD_and, h255]
  by_cases h : i < 16
  · have e : (v.toInt16.toInt32).toBitVec.getLsbD i = v.toBitVec.getLsbD i := by
      rw [Int16.toBitVec_toInt32, Int32.toBitVec_toInt16, BitVec.getLsbD_signExtend]
      simp [h, hi, BitVec.getElem_signExtend]
    rw [e]
  · simp [h]
/-- numbers of so many bits: told by their sign, told without -/
theorem mk_nw (b v : Int32) : mk8 b (nw8 b v) = mk8 b v := by
  unfold mk8 nw8
  by_cases h : b = 8
  · simp only [if_pos h]; exact mk_nw8 v
  · simp only [if_neg h]
    by_cases h2 : b = 16
    · simp only [if_pos h2]; exact mk_nw16 v
    · simp only [if_neg h2]
theorem nw_nw (b v : Int32) : nw8 b (nw8 b v) = nw8 b v := by
  unfold nw8
  by_cases h : b = 8
  · simp only [if_pos h]; exact nw_nw8 v
  · simp only [if_neg h]
    by_cases h2 : b = 16
    · simp only [if_pos h2]; exact nw_nw16 v
    · simp only [if_neg h2]
theorem e11_narrowed (b v : Int32) (σ : Sg) : fX11_narrowed b v σ = some (nw8 b v, σ) := by
  unfold fX11_narrowed nw8
  split
  · rfl
  · split <;> rfl
def mkm (b : Int32) : Int32 := if b = 32 then -1 else (1 <<< (b &&& 31)) - 1
theorem e7_mask (c : Nat) (σ : Sg) : fX7_mask c σ = some (mkm (σ c 0), σ) := by
  unfold fX7_mask mkm
  split <;> rfl
theorem mkm_mk {b : Int32} (h : b = 8 ∨ b = 16 ∨ b = 32) (v : Int32) : v &&& mkm b = mk8 b v := by
  rcases h with h | h | h <;> subst h
  · rfl
  · rfl
  · show v &&& -1 = v
    exact Int32.and_neg_one
theorem e7_isMissing (c : Nat) (σ : Sg) : fX7_isMissing c σ = some (if σ c 0 = 0 then 1 else 0, σ) := by
  unfold fX7_isMissing
  split <;> rfl
theorem s_put {σ : Sg} (hI : Inv σ) (a1 a2 a3 : Int32) : Two (fX10_put 0 a1 a2 a3) (fX11_put 373 a1 a2 a3) σ := by
  have hS : Shs σ := by obtain ⟨_, _, _, _, -, -, -, hS, -⟩ := hI; exact hS
  unfold fX10_put fX11_put
  simp only [e10_isSheet, e11_isSheet, bd_v, e10_finding, e11_finds, e7_isMissing, e10_isWithin, e11_in, e7_mask, e11_narrowed]
  by_cases A : iw a1 0 3 = 0
  · exact two_find (-100001) hI (by rw [if_pos A]) (fun τ _ => by rw [if_pos A])
  obtain ⟨s, -, hs, rfl⟩ := iw_nat (a := 0) (b := 3) (iw_of A).1 (iw_of A).2 (by decide) (by decide)
  obtain ⟨r1, r2, r3⟩ := rf_sh s (by omega)
  have hsx : shX s = 365 + 2 * s := rfl
  obtain ⟨p1, p2, ⟨m, hm, p3, p4⟩, p5⟩ := hS s (by omega)
  have rr : ∀ {τ : Sg} {v : Int32}, τ = wr σ 0 5 v → τ 376 = σ 376 ∧ τ 377 = σ 377 := fun h => ⟨by rw [h, wr_r (by decide)], by rw [h, wr_r (by decide)]⟩
  simp (disch := omega) only [ln_sh, gd_in, nI_cl, r1, r2, r3, rf_373_5, rf_373_6, rf_373_7, ln_376, ln_377, ln_378]
  by_cases B : σ 376 s = 0
  · refine two_find (-100002) hI ?_ (fun τ hτ => ?_)
    · simp only [if_neg A, p2, if_pos B]
      rw [if_neg (by decide)]
    · rw [if_neg A, (rr hτ).1, if_pos B]
  by_cases D : ib a2 m = 0
  · refine two_find (-100001) hI ?_ (fun τ hτ => ?_)
    · simp only [if_neg A, p2, if_neg B, if_true, p4, iw_ib' (show m < 2 ^ 31 by omega), if_pos D]
    · rw [if_neg A, (rr hτ).1, if_neg B, (rr hτ).2, p3, iw_ib' (by omega), if_pos D]
  obtain ⟨i, hi, rfl⟩ := ib_of (by omega) D
  have e : (60 : Int32) * nI s + nI i = nI (60 * s + i) := by rw [show (60 : Int32) = nI 60 from rfl, pk_mul, nI_add]
  refine two_mk (r := 0) (σ1 := wr σ (shX s + 1) i (a3 &&& mkm (σ 376 s))) (σ2 := wr (wr σ (shX s + 1) i (a3 &&& mkm (σ 376 s))) 378 (60 * s + i) (nw8 (σ 376 s) a3)) ?_ ?_ ?_
  · simp (disch := omega) only [if_neg A, p2, if_neg B, if_true, p4, iw_ib' (show m < 2 ^ 31 by omega), if_neg D, gd_in, nI_cl, lt_v]
  · rw [if_neg A, wr_c (by omega), if_neg B, wr_c (by omega), p3, iw_ib' (by omega), if_neg D, e, gd_in (by omega) (by decide), lt_v, nI_cl (by omega)]
  · refine Inv_sh ⟨fun c q => ?_, ?_, ?_, ?_, fun c q => ?_⟩ (fun s' hs' => ?_) hI
    · rw [wr_r (by omega), wr_r (by omega)]
    · rw [wr_r (by omega), wr_r (by omega)]
    · rw [wr_r (by omega), wr_r (by omega)]
    · rw [wr_r (by omega), wr_r (by omega)]
    · rw [wr_r (by omega), wr_r (by omega)]
    · obtain ⟨t1, t2, t3, t4⟩ := hS s' hs'
      have hsx' : shX s' = 365 + 2 * s' := rfl
      rw [wr_r (c' := 376) (by omega), wr_r (c' := 376) (by omega), wr_r (c' := 377) (by omega), wr_r (c' := 377) (by omega), wr_r (c' := shX s') (by omega), wr_r (c' := shX s') (by omega), wr_r (c' := shX s' + 1) (c := 378) (by omega)]
      refine ⟨t1, t2, t3, fun j hj => ?_⟩
      by_cases x : s' = s
      · subst x
        by_cases y : j = i
        · subst y
          rw [wr_eq, wr_eq]
          refine ⟨nw_nw _ _, ?_⟩
          rw [mk_nw, mkm_mk (by rcases p1 with h | h; exact absurd h B; exact h)]
        · rw [wr_i (by omega), wr_r (by omega), wr_i y]
          exact t4 j hj
      · rw [wr_i (by omega), wr_r (by omega), wr_r (by omega)]
        exact t4 j hj
