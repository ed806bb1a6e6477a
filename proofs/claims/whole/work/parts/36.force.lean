/-! PURE: force -/
theorem Wf_force {g : Nat → Int32} {n nt no nf t m : Nat} (hf : nf < 6) (ht : t < nt) (hm : m ≤ 500) (hW : Wf g n nt no nf) : Wf (upd (upd (upd g (162 + 2 * nf) (nI t)) (163 + 2 * nf) (nI m)) 161 (nI (nf + 1))) n nt no (nf + 1) := by
  obtain ⟨⟨h0, b1, b2, b3⟩, ⟨h1, h2, h3, h4⟩, h5, h6, h7, h8, h9, h10⟩ := hW
  have E : ∀ k, k < 161 → upd (upd (upd g (162 + 2 * nf) (nI t)) (163 + 2 * nf) (nI m)) 161 (nI (nf + 1)) k = g k := fun k hk => by rw [upd_ne (by omega), upd_ne (by omega), upd_ne (by omega)]
  refine ⟨⟨h0, b1, b2, by omega⟩, ⟨by rw [E _ (by omega), h1], by rw [E _ (by omega), h2], by rw [E _ (by omega), h3], upd_eq⟩, fun k hk => by rw [E _ (by omega)]; exact h5 k hk, fun k hk => by rw [E _ (by omega)]; exact h6 k hk, fun t ht => WfT_upd (fun k q1 q2 => E k (by omega)) (h7 t ht), fun o ho => WfO_upd (fun k q1 q2 => E k (by omega)) (h8 o ho), fun o t ho ht => by rw [E _ (by omega)]; exact h9 o t ho ht, fun k hk => ?_⟩
  by_cases x : k = nf
  · subst x
    exact ⟨t, m, ht, hm, by rw [upd_ne (by omega), upd_ne (by omega), upd_eq], by rw [upd_ne (by omega), upd_eq]⟩
  · rw [upd_ne (by omega), upd_ne (by omega), upd_ne (by omega), upd_ne (by omega), upd_ne (by omega), upd_ne (by omega)]
    exact h10 k (by omega)
theorem s_force {σ : Sg} (hI : Inv σ) (a1 a2 : Int32) : Two (fX10_force 0 a1 a2) (fX11_force 373 a1 a2) σ := by
  obtain ⟨n, nt, no, nf, hL, hW, h4, h7, h13, h3⟩ := hI.k
  obtain ⟨g0, g14, g40, g161⟩ := hW.2.1
  have hnt : nt ≤ 5 := hW.1.2.1
  have hnf : nf ≤ 6 := hW.1.2.2.2
  have c161 : (161 : Int32).toNatClampNeg = 161 := by decide
  have d161 : ∀ {β : Type} (F : Option β), gd (inR (161 : Int32) 174) F = F := fun F => gd_t (by decide) F
  unfold fX10_force fX11_force
  simp only [rf_0_2, rf_3_1, rf_373_0, ln_374, e9_has (v0 := 7) h7, bd_v, e10_finding, e11_finds, e10_isWithin, e11_isMinute, c161, d161]
  by_cases A : ib a1 nt = 0
  · exact two_find (-100001) hI (by simp only [e9_has (v0 := 7) h7, bd_v, A, if_true]) (fun τ hτ => by
      rw [e11_isTrain (n := nt) (by rw [row374 hτ, g14]) (by omega), bd_v, if_pos A])
  obtain ⟨s, hs, rfl⟩ := ib_of (by omega) A
  by_cases B : iw a2 0 500 = 0
  · exact two_find (-100001) hI (by simp only [e9_has (v0 := 7) h7, bd_v, if_neg A, B, if_true]) (fun τ hτ => by
      rw [e11_isTrain (n := nt) (by rw [row374 hτ, g14]) (by omega), bd_v, if_neg A, if_pos B])
  obtain ⟨v, -, hv, rfl⟩ := iw_nat (a := 0) (b := 500) (iw_of B).1 (iw_of B).2 (by decide) (by decide)
  by_cases C : nf = 6
  · subst C
    exact two_find (-100005) hI (by simp only [e9_has (v0 := 7) h7, bd_v, if_neg A, if_neg B, h3]; rfl) (fun τ hτ => by
      rw [e11_isTrain (n := nt) (by rw [row374 hτ, g14]) (by omega), bd_v, if_neg A, if_neg B, row374 hτ, g161]; rfl)
  have hC : nf < 6 := by omega
  have l6 : nI nf < 6 := nI_lt (b := 6) hC (by decide)
  have n6 : ¬ nI nf = 6 := fun h => C (by have := congrArg Int32.toNatClampNeg h; rwa [nI_cl (by omega), show (6 : Int32).toNatClampNeg = 6 from by decide] at this)
  have x1 : (162 : Int32) + 2 * nI nf = nI (162 + 2 * nf) := ix2 (A := 162) (B := 2) 162 2 nf rfl rfl
  have x2 : nI (162 + 2 * nf) + 1 = nI (163 + 2 * nf) := by rw [nI_1]; congr 1; omega
  refine two_act (r := nI (nf + 1)) (lc := wr (wr (wr σ 20 nf (nI s)) 21 nf (nI v)) 3 3 (nI (nf + 1))) (lr := upd (upd (upd (σ 374) (162 + 2 * nf) (nI s)) (163 + 2 * nf) (nI v)) 161 (nI (nf + 1))) hI (fun τ e hl => ?_) (fun τ ρ hτ e hρ => ?_) (LR_wr (LR_wr (LR_wr hL (by unfold Rel; omega) (by omega)) (by unfold Rel; omega) (by omega)) (by unfold Rel; omega) (by omega)) (Wf_force hC hs hv hW)
  · have t3 : τ 3 3 = nI nf := by rw [hl 3 3 (by decide) (by decide), h3]
    refine ⟨wr (wr (wr τ 20 nf (nI s)) 21 nf (nI v)) 3 3 (nI (nf + 1)), ?_, fun c i q => ?_, fun c i q1 q2 => ?_⟩
    · simp only [e9_has (v0 := 7) h7, bd_v, if_neg A, if_neg B, h3, if_pos l6, e]
      unfold fX3_addForced
      rw [rf_3_4, rf_3_5, ln_20, ln_21, t3, gd_in (n := 6) hC (by decide), nI_cl (by omega), lt_v, wr_c (by decide), t3, gd_in (n := 6) hC (by decide), nI_cl (by omega), lt_v, wr_c (by decide), wr_c (by decide), t3, nI_1, lt_v, wr_eq]
      rfl
    · rw [wr_c (by omega), wr_c (by omega), wr_c (by omega)]
    · unfold wr
      rw [hl c i q1 q2]
  · have r1 : ρ 374 161 = nI nf := by rw [hρ, g161]
    refine ⟨wr (wr (wr ρ 374 (162 + 2 * nf) (nI s)) 374 (163 + 2 * nf) (nI v)) 374 161 (nI (nf + 1)), ?_, fun c i q => ?_, fun k hk => ?_⟩
    · rw [e11_isTrain (n := nt) (by rw [hτ, g14]) (by omega), bd_v, if_neg A, if_neg B, hτ, g161, if_neg n6, e, bd_v, r1, x1, gd_in (n := 174) (by omega) (by decide), lt_v, nI_cl (by omega), wr_i (by omega), r1, x1, x2, gd_in (n := 174) (by omega) (by decide), lt_v, nI_cl (by omega), wr_i (by omega), wr_i (by omega), r1, nI_1, lt_v, wr_eq]
    · rw [wr_c q, wr_c q, wr_c q]
    · have u : ∀ (τ : Sg) j v, (wr τ 374 j v) 374 = upd (τ 374) j v := fun τ j v => funext fun k => by unfold wr upd; simp only [true_and]
      rw [u, u, u, hρ]
