/-! PURE: train, undo, grades -/
theorem WfO_nt {g : Nat → Int32} {n nt nt' o : Nat} (h : nt ≤ nt') (hO : WfO g n nt o) : WfO g n nt' o := by
  rcases hO with ⟨a, b, s, ha, hb, hab, hs, e⟩ | ⟨a, v, ha, hv0, hv, e⟩ | ⟨a, s, v, ha, hs, hv, e⟩ | ⟨a, v, ha, hv, e⟩ | h
  · exact Or.inl ⟨a, b, s, by omega, by omega, hab, hs, e⟩
  · exact Or.inr (Or.inl ⟨a, v, by omega, hv0, hv, e⟩)
  · exact Or.inr (Or.inr (Or.inl ⟨a, s, v, by omega, hs, hv, e⟩))
  · exact Or.inr (Or.inr (Or.inr (Or.inl ⟨a, v, by omega, hv, e⟩)))
  · exact Or.inr (Or.inr (Or.inr (Or.inr h)))
/-- the numbers of a line with one more train -/
def nwT (g : Nat → Int32) (nt : Nat) (a b c d e : Int32) : Nat → Int32 := upd (upd (upd (upd (upd (upd g (15 + 5 * nt) a) (16 + 5 * nt) b) (17 + 5 * nt) c) (18 + 5 * nt) d) (19 + 5 * nt) e) 14 (nI (nt + 1))
theorem Wf_train {g : Nat → Int32} {n nt no nf k f d len tm : Nat} (h5t : nt < 5) (a1 : k < 4) (a2 : f < n) (a3 : d < n) (a4 : f ≠ d) (a5 : 1 ≤ len) (a6 : len ≤ 30) (a7 : tm ≤ 300) (hW : Wf g n nt no nf) : Wf (nwT g nt (nI k) (nI f) (nI d) (nI len) (nI tm)) n (nt + 1) no nf := by
  obtain ⟨⟨h0, b1, b2, b3⟩, ⟨h1, h2, h3, h4⟩, h5, h6, h7, h8, h9, h10⟩ := hW
  have E : ∀ q, q ≠ 14 → (q < 15 + 5 * nt ∨ 19 + 5 * nt < q) → nwT g nt (nI k) (nI f) (nI d) (nI len) (nI tm) q = g q := fun q q1 q2 => by
    unfold nwT
    rw [upd_ne (by omega), upd_ne (by omega), upd_ne (by omega), upd_ne (by omega), upd_ne (by omega), upd_ne (by omega)]
  refine ⟨⟨h0, by omega, b2, b3⟩, ⟨by rw [E _ (by omega) (by omega), h1], upd_eq, by rw [E _ (by omega) (by omega), h3], by rw [E _ (by omega) (by omega), h4]⟩, fun q hq => by rw [E _ (by omega) (by omega)]; exact h5 q hq, fun q hq => by rw [E _ (by omega) (by omega)]; exact h6 q hq, fun t ht => ?_, fun o ho => WfO_nt (by omega) (WfO_upd (fun q q1 q2 => E q (by omega) (by omega)) (h8 o ho)), fun o t ho ht => by rw [E _ (by omega) (by omega)]; exact h9 o t ho ht, fun q hq => ?_⟩
  · by_cases x : t = nt
    · subst x
      refine ⟨k, f, d, len, tm, a1, a2, a3, a4, a5, a6, a7, ?_, ?_, ?_, ?_, ?_⟩ <;> unfold nwT
      · rw [upd_ne (by omega), upd_ne (by omega), upd_ne (by omega), upd_ne (by omega), upd_ne (by omega), upd_eq]
      · rw [upd_ne (by omega), upd_ne (by omega), upd_ne (by omega), upd_ne (by omega), upd_eq]
      · rw [upd_ne (by omega), upd_ne (by omega), upd_ne (by omega), upd_eq]
      · rw [upd_ne (by omega), upd_ne (by omega), upd_eq]
      · rw [upd_ne (by omega), upd_eq]
    · exact WfT_upd (fun q q1 q2 => E q (by omega) (by omega)) (h7 t (by omega))
  · rw [E _ (by omega) (by omega), E _ (by omega) (by omega)]
    obtain ⟨t, m, q1, q2⟩ := h10 q hq
    exact ⟨t, m, by omega, q2⟩
theorem s_train {σ : Sg} (hI : Inv σ) (a1 a2 a3 a4 a5 : Int32) : Two (fX10_train 0 a1 a2 a3 a4 a5) (fX11_train 373 a1 a2 a3 a4 a5) σ := by
  obtain ⟨n, nt, no, nf, hL, hW, h4, h7, h13, h3⟩ := hI.k
  obtain ⟨g0, g14, g40, g161⟩ := hW.2.1
  have hnt : nt ≤ 5 := hW.1.2.1
  have hn := hW.st
  have ecl : fX10_train 0 a1 a2 a3 a4 a5 σ = if iw a1 0 3 = 0 ∨ ib a2 n = 0 ∨ ib a3 n = 0 ∨ iw a4 1 30 = 0 ∨ iw a5 0 300 = 0 then some (-100001, wr σ 0 5 (σ 0 5 + 1)) else if a2 = a3 then some (-100003, wr σ 0 5 (σ 0 5 + 1)) else if nI nt < 5 then bd (fX10_keepForUndo 0 σ) fun _ s => fX9_add 7 a1 a2 a3 a4 a5 s else some (-100005, wr σ 0 5 (σ 0 5 + 1)) := by
    unfold fX10_train
    simp only [rf_0_2, rf_3_0, rf_3_1, e10_isWithin, e8_hasStation (v0 := 4) h4, bd_v, e10_finding, h7]
    by_cases A : iw a1 0 3 = 0
    · rw [if_pos A, if_pos (Or.inl A)]
    rw [if_neg A]
    by_cases B : ib a2 n = 0
    · rw [if_pos B, if_pos (Or.inr (Or.inl B))]
    rw [if_neg B]
    by_cases C : ib a3 n = 0
    · rw [if_pos C, if_pos (Or.inr (Or.inr (Or.inl C)))]
    rw [if_neg C]
    by_cases D : iw a4 1 30 = 0
    · rw [if_pos D, if_pos (Or.inr (Or.inr (Or.inr (Or.inl D))))]
    rw [if_neg D]
    by_cases F : iw a5 0 300 = 0
    · rw [if_pos F, if_pos (Or.inr (Or.inr (Or.inr (Or.inr F))))]
    rw [if_neg F, if_neg (show ¬ (iw a1 0 3 = 0 ∨ ib a2 n = 0 ∨ ib a3 n = 0 ∨ iw a4 1 30 = 0 ∨ iw a5 0 300 = 0) from fun h => h.elim A (fun h => h.elim B (fun h => h.elim C (fun h => h.elim D F))))]
    by_cases G : a2 = a3
    · rw [if_pos G, if_pos G]
    rw [if_neg G, if_neg G]
    by_cases H : nI nt < 5
    · rw [if_pos H, if_pos H]
      cases hk : fX10_keepForUndo 0 σ with
      | none => rfl
      | some p =>
        obtain ⟨u, s⟩ := p
        rw [bd_v, bd_v]
        cases fX9_add 7 a1 a2 a3 a4 a5 s <;> rfl
    · rw [if_neg H, if_neg H]
  have erf : ∀ τ : Sg, τ 374 = σ 374 → fX11_train 373 a1 a2 a3 a4 a5 τ = if iw a1 0 3 = 0 ∨ ib a2 n = 0 ∨ ib a3 n = 0 ∨ iw a4 1 30 = 0 ∨ iw a5 0 300 = 0 then some (-100001, wr τ 373 4 (τ 373 4 + 1)) else if a2 = a3 then some (-100003, wr τ 373 4 (τ 373 4 + 1)) else if nI nt = 5 then some (-100005, wr τ 373 4 (τ 373 4 + 1)) else bd (fX11_keep 373 τ) fun _ s => gd (inR ((15 : Int32) + ((5 : Int32) * nI nt)) 174) (lt (wr s 374 ((15 : Int32) + ((5 : Int32) * nI nt)).toNatClampNeg a1) fun s_105 => gd (inR ((15 : Int32) + ((5 : Int32) * nI nt) + 1) 174) (lt (wr s_105 374 ((15 : Int32) + ((5 : Int32) * nI nt) + 1).toNatClampNeg a2) fun s_120 => gd (inR ((15 : Int32) + ((5 : Int32) * nI nt) + 2) 174) (lt (wr s_120 374 ((15 : Int32) + ((5 : Int32) * nI nt) + 2).toNatClampNeg a3) fun s_135 => gd (inR ((15 : Int32) + ((5 : Int32) * nI nt) + 3) 174) (lt (wr s_135 374 ((15 : Int32) + ((5 : Int32) * nI nt) + 3).toNatClampNeg a4) fun s_151 => gd (inR ((15 : Int32) + ((5 : Int32) * nI nt) + 4) 174) (lt (wr s_151 374 ((15 : Int32) + ((5 : Int32) * nI nt) + 4).toNatClampNeg a5) fun s_167 => some (nI nt, wr s_167 374 14 (s_167 374 14 + 1))))))) := by
    intro τ hτ
    unfold fX11_train
    rw [e11_in, bd_v, e11_isStation (n := n) (by rw [hτ, g0]) (by omega), bd_v, e11_isStation (n := n) (by rw [hτ, g0]) (by omega), bd_v, e11_in, bd_v, e11_in, bd_v]
    simp only [e11_finds, bd_v, rf_373_0, ln_374, gd14, cl14, lt_v, hτ, g14]
    by_cases A : iw a1 0 3 = 0
    · rw [if_pos A, if_pos (Or.inl A)]
    rw [if_neg A]
    by_cases B : ib a2 n = 0
    · rw [if_pos B, if_pos (Or.inr (Or.inl B))]
    rw [if_neg B]
    by_cases C : ib a3 n = 0
    · rw [if_pos C, if_pos (Or.inr (Or.inr (Or.inl C)))]
    rw [if_neg C]
    by_cases D : iw a4 1 30 = 0
    · rw [if_pos D, if_pos (Or.inr (Or.inr (Or.inr (Or.inl D))))]
    rw [if_neg D]
    by_cases F : iw a5 0 300 = 0
    · rw [if_pos F, if_pos (Or.inr (Or.inr (Or.inr (Or.inr F))))]
    rw [if_neg F, if_neg (show ¬ (iw a1 0 3 = 0 ∨ ib a2 n = 0 ∨ ib a3 n = 0 ∨ iw a4 1 30 = 0 ∨ iw a5 0 300 = 0) from fun h => h.elim A (fun h => h.elim B (fun h => h.elim C (fun h => h.elim D F))))]
  by_cases Z : iw a1 0 3 = 0 ∨ ib a2 n = 0 ∨ ib a3 n = 0 ∨ iw a4 1 30 = 0 ∨ iw a5 0 300 = 0
  · exact two_find (-100001) hI (by rw [ecl, if_pos Z]) (fun τ hτ => by rw [erf τ (row374 hτ), if_pos Z])
  by_cases G : a2 = a3
  · exact two_find (-100003) hI (by rw [ecl, if_neg Z, if_pos G]) (fun τ hτ => by rw [erf τ (row374 hτ), if_neg Z, if_pos G])
  by_cases H : nt = 5
  · subst H
    exact two_find (-100005) hI (by rw [ecl, if_neg Z, if_neg G, if_neg (by decide)]) (fun τ hτ => by rw [erf τ (row374 hτ), if_neg Z, if_neg G, if_pos (by decide)])
  have h5t : nt < 5 := by omega
  have A : ¬ iw a1 0 3 = 0 := fun h => Z (Or.inl h)
  have B : ¬ ib a2 n = 0 := fun h => Z (Or.inr (Or.inl h))
  have C : ¬ ib a3 n = 0 := fun h => Z (Or.inr (Or.inr (Or.inl h)))
  have D : ¬ iw a4 1 30 = 0 := fun h => Z (Or.inr (Or.inr (Or.inr (Or.inl h))))
  have F : ¬ iw a5 0 300 = 0 := fun h => Z (Or.inr (Or.inr (Or.inr (Or.inr h))))
  obtain ⟨k, -, hk, rfl⟩ := iw_nat (a := 0) (b := 3) (iw_of A).1 (iw_of A).2 (by decide) (by decide)
  obtain ⟨f, hf, rfl⟩ := ib_of (by omega) B
  obtain ⟨d, hd, rfl⟩ := ib_of (by omega) C
  obtain ⟨len, hl1, hl2, rfl⟩ := iw_nat (a := 1) (b := 30) (iw_of D).1 (iw_of D).2 (by decide) (by decide)
  obtain ⟨tm, -, htm, rfl⟩ := iw_nat (a := 0) (b := 300) (iw_of F).1 (iw_of F).2 (by decide) (by decide)
  have hfd : f ≠ d := fun q => G (by rw [q])
  have n5 : ¬ nI nt = 5 := fun q => H ((nI_eq (b := 5) (show nt < 2 ^ 31 by omega) (by decide)).mp q)
  have x0 : (15 : Int32) + 5 * nI nt = nI (15 + 5 * nt) := ix2 (A := 15) (B := 5) 15 5 nt rfl rfl
  have x1 : nI (15 + 5 * nt) + 1 = nI (16 + 5 * nt) := by rw [nI_1]; congr 1; omega
  have x2 : nI (15 + 5 * nt) + 2 = nI (17 + 5 * nt) := by rw [show (2 : Int32) = nI 2 from rfl, nI_add]; congr 1; omega
  have x3 : nI (15 + 5 * nt) + 3 = nI (18 + 5 * nt) := by rw [show (3 : Int32) = nI 3 from rfl, nI_add]; congr 1; omega
  have x4 : nI (15 + 5 * nt) + 4 = nI (19 + 5 * nt) := by rw [show (4 : Int32) = nI 4 from rfl, nI_add]; congr 1; omega
  refine two_act (r := nI nt) (lc := wr (wr (wr (wr (wr (wr σ 8 nt (nI k)) 9 nt (nI f)) 10 nt (nI d)) 11 nt (nI len)) 12 nt (nI tm)) 7 0 (nI (nt + 1))) (lr := nwT (σ 374) nt (nI k) (nI f) (nI d) (nI len) (nI tm)) hI (fun τ e hl => ?_) (fun τ ρ hτ e hρ => ?_) (LR_wr (LR_wr (LR_wr (LR_wr (LR_wr (LR_wr hL (by unfold Rel; omega) (by omega)) (by unfold Rel; omega) (by omega)) (by unfold Rel; omega) (by omega)) (by unfold Rel; omega) (by omega)) (by unfold Rel; omega) (by omega)) (by unfold Rel; omega) (by omega)) (Wf_train h5t (by omega) hf hd hfd hl1 hl2 htm hW)
  · have t7 : τ 7 0 = nI nt := by rw [hl 7 0 (by decide) (by decide), h7]
    refine ⟨wr (wr (wr (wr (wr (wr τ 8 nt (nI k)) 9 nt (nI f)) 10 nt (nI d)) 11 nt (nI len)) 12 nt (nI tm)) 7 0 (nI (nt + 1)), ?_, fun c i hc => ?_, fun c i q1 q2 => ?_⟩
    · rw [ecl, if_neg Z, if_neg G, if_pos (show nI nt < 5 from nI_lt (b := 5) h5t (by decide)), e, bd_v]
      unfold fX9_add
      rw [t7, lt_v, rf_7_1, rf_7_2, rf_7_3, rf_7_4, rf_7_5, ln_8, ln_9, ln_10, ln_11, ln_12, gd5 h5t, lt_v, gd5 h5t, lt_v, gd5 h5t, lt_v, gd5 h5t, lt_v, gd5 h5t, lt_v, lt_v, nI_cl (by omega), wr_c (by decide), wr_c (by decide), wr_c (by decide), wr_c (by decide), wr_c (by decide), t7, nI_1]
    · rw [wr_c (by omega), wr_c (by omega), wr_c (by omega), wr_c (by omega), wr_c (by omega), wr_c (by omega)]
    · unfold wr
      rw [hl c i q1 q2]
  · refine ⟨wr (wr (wr (wr (wr (wr ρ 374 (15 + 5 * nt) (nI k)) 374 (16 + 5 * nt) (nI f)) 374 (17 + 5 * nt) (nI d)) 374 (18 + 5 * nt) (nI len)) 374 (19 + 5 * nt) (nI tm)) 374 14 (nI (nt + 1)), ?_, fun c i hc => ?_, fun q hq => ?_⟩
    · rw [erf τ hτ, if_neg Z, if_neg G, if_neg n5, e, bd_v, x0, x1, x2, x3, x4, gd_in (n := 174) (by omega) (by decide), lt_v, gd_in (n := 174) (by omega) (by decide), lt_v, gd_in (n := 174) (by omega) (by decide), lt_v, gd_in (n := 174) (by omega) (by decide), lt_v, gd_in (n := 174) (by omega) (by decide), lt_v, nI_cl (by omega), nI_cl (by omega), nI_cl (by omega), nI_cl (by omega), nI_cl (by omega), wr_i (by omega), wr_i (by omega), wr_i (by omega), wr_i (by omega), wr_i (by omega), hρ, g14, nI_1]
    · rw [wr_c hc, wr_c hc, wr_c hc, wr_c hc, wr_c hc, wr_c hc]
    · rw [u374, u374, u374, u374, u374, u374, hρ]; rfl
theorem bk_v {nx : Nat} (h : nx < 16) : (nI nx + 16 - 1) - (nI nx + 16 - 1) / 16 * 16 = nI ((nx + 15) % 16) := by
  have : nI nx + 16 - 1 = nI (nx + 15) := by
    rw [show (16 : Int32) = nI 16 from rfl, nI_add, show nx + 16 = nx + 15 + 1 from rfl, nI_pred]
  rw [this, show (16 : Int32) = nI 16 from rfl, pk_rem (by omega) (by decide) (by decide)]
theorem s_undo {σ : Sg} (hI : Inv σ) : Two (fX10_undo 0) (fX11_undo 373) σ := by
  obtain ⟨n0, nt0, no0, nf0, a1, a2, ⟨nx, ct, hnx, hct, ⟨c1, c2, c3, c4⟩, hist⟩, a4, a5, a6, a7, a8, a9⟩ := id hI
  by_cases A : ct = 0
  · subst A
    refine two_find (-100006) hI ?_ (fun τ hτ => ?_)
    · unfold fX10_undo
      rw [rf_0_3, c2, if_pos nI_0, e10_finding]; rfl
    · unfold fX11_undo
      have : τ 373 3 = nI 0 := by rw [hτ, wr_c (by decide), c4]
      rw [this, if_pos nI_0, e11_finds]; rfl
  have hnx' : (nx + 15) % 16 < 16 := Nat.mod_lt _ (by decide)
  generalize hN : (nx + 15) % 16 = N at hnx'
  have nct : ¬ nI ct = 0 := nI_ne0 (by omega) (by omega)
  have hpred : nI ct - 1 = nI (ct - 1) := by obtain ⟨j, rfl⟩ : ∃ j, ct = j + 1 := ⟨ct - 1, by omega⟩; rw [nI_pred]; rfl
  -- the class
  generalize hs0 : wr (wr σ 58 1 (nI N)) 58 2 (nI (ct - 1)) = s0
  have f0 : ∀ c i, c ≠ 58 → s0 c i = σ c i := fun c i hc => by rw [← hs0, wr_c hc, wr_c hc]
  have s58 : s0 58 1 = nI N ∧ s0 58 2 = nI (ct - 1) := by rw [← hs0]; exact ⟨by rw [wr_i (by decide), wr_eq], by rw [wr_eq]⟩
  obtain ⟨s1, e1, f1, g1⟩ := take3 lin_3 (lin_in N hnx') (Or.inl (by omega)) s0
  obtain ⟨h1, n, nt, no, nf, h2⟩ := hist 1 (Nat.le_refl _) (by omega)
  have eN : (nx + 16 - 1) % 16 = N := by omega
  rw [eN] at h1 h2
  have hL1 : LR s1 3 (fun k => σ 375 (174 * N + k)) := g1 _ (LR_congr (fun c q1 q2 => funext fun i => (f0 c i (by omega)).symm) h1)
  generalize hs2 : wr (wr s1 2 2 0) 1 3 0 = s2
  have f2 : ∀ c i, c ≠ 1 → c ≠ 2 → s2 c i = s1 c i := fun c i q1 q2 => by rw [← hs2, wr_c q1, wr_c q2]
  have fc : ∀ c i, (c = 0 ∨ (22 ≤ c ∧ c ≠ 58)) → s2 c i = σ c i := fun c i hc => by rw [f2 c i (by omega) (by omega), f1 c i (by omega), f0 c i (by omega)]
  have b58 : s2 58 1 = nI N ∧ s2 58 2 = nI (ct - 1) := ⟨by rw [f2 _ _ (by decide) (by decide), f1 _ _ (by omega), s58.1], by rw [f2 _ _ (by decide) (by decide), f1 _ _ (by omega), s58.2]⟩
  have ecl : fX10_undo 0 σ = some (nI (ct - 1), s2) := by
    unfold fX10_undo fX2_giveBack fX10_forgetTheDay fX0_forget fX4_forget
    rw [rf_0_0, rf_0_1, rf_0_2, rf_0_3, c2, if_neg nct, if_neg nct, c1, bk_v hnx, hN, lt_v, wr_i (by decide), c2, hpred, lt_v, hs0, s58.1, rf_58_0, ln_59, gd_in (n := 16) hnx' (by decide), nI_cl (by omega), rf59 N hnx', e1, bd_v, bd_v, lt_v, bd_v, lt_v, hs2, bd_v, bd_v, b58.2]
  -- the reference
  generalize ht0 : wr (wr (wr s2 373 9 0) 373 2 (nI N)) 373 3 (nI (ct - 1)) = t0
  have k0 : ∀ c i, c ≠ 373 → t0 c i = s2 c i := fun c i hc => by rw [← ht0, wr_c hc, wr_c hc, wr_c hc]
  have k2 : t0 373 2 = nI N := by rw [← ht0, wr_i (by decide), wr_eq]
  have k3 : t0 373 3 = nI (ct - 1) := by rw [← ht0, wr_eq]
  have k9 : t0 373 9 = 0 := by rw [← ht0, wr_i (by decide), wr_i (by decide), wr_eq]
  have ki : ∀ i, i ≠ 2 → i ≠ 3 → i ≠ 9 → t0 373 i = σ 373 i := fun i q1 q2 q3 => by rw [← ht0, wr_i q2, wr_i q1, wr_i q3, fc _ _ (by omega)]
  have hst : ∀ i (ρ : Sg), i < 174 → ((∀ c j, c ≠ 374 → ρ c j = t0 c j) ∧ ∀ k, k < i → ρ 374 k = σ 375 (174 * N + k)) → ∃ ρ', (∀ K, fX11_undo_47 373 K (nI i) ρ = K (nI (i + 1)) ρ') ∧ ((∀ c j, c ≠ 374 → ρ' c j = t0 c j) ∧ ∀ k, k < i + 1 → ρ' 374 k = σ 375 (174 * N + k)) := by
    rintro i ρ hi ⟨m1, m2⟩
    have x174 : (174 : Int32) * nI N + nI i = nI (174 * N + i) := by rw [show (174 : Int32) = nI 174 from rfl, pk_mul, nI_add]
    refine ⟨wr ρ 374 i (σ 375 (174 * N + i)), fun K => ?_, fun c j hc => by rw [wr_c hc, m1 c j hc], fun k hk => ?_⟩
    · unfold fX11_undo_47
      rw [if_neg (show ¬ (174 : Int32) ≤ nI i from nle_of (a := 174) hi (by decide)), m1 373 2 (by decide), k2, x174, rf_373_0, rf_373_1, ln_374, ln_375, gd_in (n := 2784) (by omega) (by decide), gd_in (n := 174) hi (by decide), lt_v, lt_v, nI_1, nI_cl (by omega), nI_cl (by omega), m1 375 _ (by decide), k0 375 _ (by decide), fc 375 _ (by omega)]
    · by_cases z : k = i
      · subst z; rw [wr_eq]
      · rw [wr_i z, m2 k (by omega)]
  obtain ⟨σ2, fu, e, m1, m2⟩ := sl1 (b := fX11_undo_47 373) 174 _ hst 174 0 FU t0 (by omega) (by rw [FU_s]; omega) ⟨fun c j _ => rfl, fun k hk => by omega⟩
  have erf : fX11_undo 373 s2 = some (nI (ct - 1), σ2) := by
    have q3 : s2 373 3 = nI ct := by rw [fc _ _ (by omega), c4]
    have q2 : s2 373 2 = nI nx := by rw [fc _ _ (by omega), c3]
    unfold fX11_undo
    rw [q3, if_neg nct, lt_v, wr_i (by decide), q2, bk_v hnx, hN, lt_v, wr_i (by decide), wr_i (by decide), q3, hpred, lt_v, ht0, lt_v]
    refine Eq.trans e ?_
    generalize lq1 (fX11_undo_47 373) fu = KK
    unfold fX11_undo_47
    rw [if_pos (by decide), m1 373 3 (by decide), k3]
  have fr : ∀ c i, c ≠ 373 → c ≠ 374 → σ2 c i = s2 c i := fun c i q1 q2 => by rw [m1 c i q2, k0 c i q1]
  refine two_mk (r := nI (ct - 1)) (σ1 := s2) (σ2 := σ2) ecl erf ⟨n, nt, no, nf, ?_, ?_, ?_, ?_, ?_, ?_, Or.inl ?_, Or.inl ?_, Or.inl ?_⟩
  · exact LR_of hL1 (fun c i q1 q2 => by rw [fr c i (by omega) (by omega), f2 c i (by omega) (by omega)]) m2
  · exact Wf_g (fun k hk => (m2 k hk).symm) h2
  · refine ⟨N, ct - 1, hnx', by omega, ⟨by rw [fr _ _ (by decide) (by decide), b58.1], by rw [fr _ _ (by decide) (by decide), b58.2], by rw [m1 _ _ (by decide), k2], by rw [m1 _ _ (by decide), k3]⟩, fun d q1 q2 => ?_⟩
    obtain ⟨g2, n', nt', no', nf', g3⟩ := hist (d + 1) (by omega) (by omega)
    have ed : (N + 16 - d) % 16 = (nx + 16 - (d + 1)) % 16 := by rw [← hN]; omega
    rw [ed]
    have hm : (nx + 16 - (d + 1)) % 16 < 16 := Nat.mod_lt _ (by decide)
    generalize (nx + 16 - (d + 1)) % 16 = j at g2 g3 hm
    have h375 : ∀ k, σ 375 k = σ2 375 k := fun k => by rw [fr _ _ (by decide) (by decide), fc _ _ (by omega)]
    exact ⟨LR_g (fun k _ => h375 _) (LR_congr (fun c q1 q2 => funext fun i => by rw [fr c i (by omega) (by omega), fc c i (by omega)]) g2), n', nt', no', nf', Wf_g (fun k _ => h375 _) g3⟩
  · exact Shs_congr (σ := σ) (fun c q1 q2 => funext fun i => by rw [fr c i (by omega) (by omega), fc c i (by omega)]) (funext fun i => by rw [fr _ _ (by decide) (by decide), fc _ _ (by omega)]) (funext fun i => by rw [fr _ _ (by decide) (by decide), fc _ _ (by omega)]) (funext fun i => by rw [fr _ _ (by decide) (by decide), fc _ _ (by omega)]) a4
  · rw [fr _ _ (by decide) (by decide), fc _ _ (by omega), m1 _ _ (by decide), ki _ (by decide) (by decide) (by decide)]; exact a5
  · exact Own_congr (σ := σ) (fun t ht => by rw [fr _ _ (by omega) (by omega), fc _ _ (by omega)]) a6
  · rw [fr _ _ (by decide) (by decide), ← hs2, wr_c (by decide), wr_eq]
  · rw [m1 _ _ (by decide), k9]
  · rw [fr _ _ (by decide) (by decide), ← hs2, wr_eq]
