/-! PURE: acts that set one number of the line -/
theorem KC_wr {nx ct : Nat} {σ τ : Sg} {c i : Nat} {v : Int32} (h : KC nx ct σ τ) (h1 : 3 ≤ c) (h2 : c < 22) : KC nx ct σ (wr τ c i v) := by
  obtain ⟨k1, ⟨k2, k3, k4, k5⟩, k6, k7, k8⟩ := h
  refine ⟨fun g hg => LR_congr (fun q q1 q2 => (wr_r (by omega)).symm) (k1 g hg), ⟨by rw [wr_c (by omega), k2], by rw [wr_c (by omega), k3], by rw [wr_c (by omega), k4], by rw [wr_c (by omega), k5]⟩, fun q j q1 q2 q3 q4 => by rw [wr_c (by omega), k6 q j q1 q2 q3 q4], fun j => by rw [wr_c (by omega), k7 j], fun q j q1 => by rw [wr_c (by omega), k8 q j q1]⟩
theorem KR_wr {nx ct : Nat} {σ τ : Sg} {i : Nat} {v : Int32} (h : KR nx ct σ τ) : KR nx ct σ (wr τ 374 i v) := by
  obtain ⟨⟨r1, r2, r3⟩, r4, r5, r6, r7⟩ := h
  exact ⟨⟨by rw [wr_c (by decide), r1], by rw [wr_c (by decide), r2], by rw [wr_c (by decide), r3]⟩, fun j q1 q2 q3 => by rw [wr_c (by decide), r4 j q1 q2 q3], fun k hk => by rw [wr_c (by decide), r5 k hk], fun j hj => by rw [wr_c (by decide), r6 j hj], fun c j q1 q2 q3 => by rw [wr_c q2, r7 c j q1 q2 q3]⟩
theorem Inv.h {σ : Sg} (hI : Inv σ) : ∃ nx ct, σ 58 1 = nI nx ∧ σ 58 2 = nI ct ∧ σ 373 2 = nI nx ∧ σ 373 3 = nI ct ∧ nx < 16 ∧ ct ≤ 16 := by
  obtain ⟨_, _, _, _, -, -, ⟨nx, ct, a, b, ⟨c1, c2, c3, c4⟩, -⟩, -⟩ := hI
  exact ⟨nx, ct, c1, c2, c3, c4, a, b⟩
/-- the line of τ, cells 3 to 21, is that of ρ, and the reference's that of g -/
theorem LR_of {ρ τ : Sg} {g : Nat → Int32} (h : LR ρ 3 g) (h1 : ∀ c i, 3 ≤ c → c < 22 → τ c i = ρ c i) (h2 : ∀ k, k < 174 → τ 374 k = g k) : LR τ 3 (τ 374) := LR_g (fun k hk => (h2 k hk).symm) (LR_congr (fun c q1 q2 => funext fun i => (h1 c i (by omega) (by omega)).symm) h)
theorem e11_becomes {σ : Sg} {nx ct j : Nat} {v : Int32} (h1 : σ 373 2 = nI nx) (h2 : σ 373 3 = nI ct) (hn : nx < 16) (hc : ct ≤ 16) (hj : j < 174) : ∃ τ, fX11_becomes 373 (nI j) v σ = some (σ 374 j, wr τ 374 j v) ∧ KR nx ct σ τ ∧ ∀ i, τ 374 i = σ 374 i := by
  obtain ⟨τ, e, hR, hl⟩ := e11_keep h1 h2 hn hc
  refine ⟨τ, ?_, hR, hl⟩
  unfold fX11_becomes
  rw [e, bd_v, rf_373_0, ln_374, gd_in hj (by decide), lt_v, gd_in hj (by decide), lt_v, nI_cl (by omega), hl]
theorem LR_siding {σ : Sg} {g : Nat → Int32} {s : Nat} {v : Int32} (hs : s < 7) (h : LR σ 3 g) : LR (wr σ 5 (s) v) 3 (upd g (1 + s) v) := by
  obtain ⟨⟨h1, h2, h3, h4⟩, h5, h6, h7, h8, h9, h10⟩ := h
  have w : ∀ c i, (c = 5 ∧ i = s) ∨ ¬ (c = 5 ∧ i = s) := fun c i => Decidable.em _
  have key : ∀ c i j, σ c i = g j → ((c = 5 ∧ i = s) ↔ j = 1 + s) → wr σ 5 (s) v c i = upd g (1 + s) v j := by
    intro c i j e q
    unfold wr upd
    by_cases z : c = 5 ∧ i = s
    · rw [if_pos z, if_pos (q.mp z)]
    · rw [if_neg z, if_neg (fun y => z (q.mpr y)), e]
  refine ⟨⟨key _ _ _ h1 (by omega), key _ _ _ h2 (by omega), key _ _ _ h3 (by omega), key _ _ _ h4 (by omega)⟩, fun k hk => key _ _ _ (h5 k hk) (by omega), fun k hk => key _ _ _ (h6 k hk) (by omega), fun t ht => ⟨⟨key _ _ _ (h7 t ht).1.1 (by omega), key _ _ _ (h7 t ht).1.2.1 (by omega), key _ _ _ (h7 t ht).1.2.2 (by omega)⟩, key _ _ _ (h7 t ht).2.1 (by omega), key _ _ _ (h7 t ht).2.2 (by omega)⟩, fun o ho => ⟨⟨key _ _ _ (h8 o ho).1.1 (by omega), key _ _ _ (h8 o ho).1.2.1 (by omega), key _ _ _ (h8 o ho).1.2.2 (by omega)⟩, key _ _ _ (h8 o ho).2.1 (by omega), key _ _ _ (h8 o ho).2.2 (by omega)⟩, fun o t ho ht hot => key _ _ _ (h9 o t ho ht (by unfold upd at hot; rwa [if_neg (by omega)] at hot)) (by omega), fun k hk => ⟨key _ _ _ (h10 k hk).1 (by omega), key _ _ _ (h10 k hk).2 (by omega)⟩⟩
theorem LR_section {σ : Sg} {g : Nat → Int32} {s : Nat} {v : Int32} (hs : s < 6) (h : LR σ 3 g) : LR (wr σ 6 (s) v) 3 (upd g (8 + s) v) := by
  obtain ⟨⟨h1, h2, h3, h4⟩, h5, h6, h7, h8, h9, h10⟩ := h
  have w : ∀ c i, (c = 6 ∧ i = s) ∨ ¬ (c = 6 ∧ i = s) := fun c i => Decidable.em _
  have key : ∀ c i j, σ c i = g j → ((c = 6 ∧ i = s) ↔ j = 8 + s) → wr σ 6 (s) v c i = upd g (8 + s) v j := by
    intro c i j e q
    unfold wr upd
    by_cases z : c = 6 ∧ i = s
    · rw [if_pos z, if_pos (q.mp z)]
    · rw [if_neg z, if_neg (fun y => z (q.mpr y)), e]
  refine ⟨⟨key _ _ _ h1 (by omega), key _ _ _ h2 (by omega), key _ _ _ h3 (by omega), key _ _ _ h4 (by omega)⟩, fun k hk => key _ _ _ (h5 k hk) (by omega), fun k hk => key _ _ _ (h6 k hk) (by omega), fun t ht => ⟨⟨key _ _ _ (h7 t ht).1.1 (by omega), key _ _ _ (h7 t ht).1.2.1 (by omega), key _ _ _ (h7 t ht).1.2.2 (by omega)⟩, key _ _ _ (h7 t ht).2.1 (by omega), key _ _ _ (h7 t ht).2.2 (by omega)⟩, fun o ho => ⟨⟨key _ _ _ (h8 o ho).1.1 (by omega), key _ _ _ (h8 o ho).1.2.1 (by omega), key _ _ _ (h8 o ho).1.2.2 (by omega)⟩, key _ _ _ (h8 o ho).2.1 (by omega), key _ _ _ (h8 o ho).2.2 (by omega)⟩, fun o t ho ht hot => key _ _ _ (h9 o t ho ht (by unfold upd at hot; rwa [if_neg (by omega)] at hot)) (by omega), fun k hk => ⟨key _ _ _ (h10 k hk).1 (by omega), key _ _ _ (h10 k hk).2 (by omega)⟩⟩
theorem LR_time {σ : Sg} {g : Nat → Int32} {s : Nat} {v : Int32} (hs : s < 5) (h : LR σ 3 g) : LR (wr σ 12 (s) v) 3 (upd g (19 + 5 * s) v) := by
  obtain ⟨⟨h1, h2, h3, h4⟩, h5, h6, h7, h8, h9, h10⟩ := h
  have w : ∀ c i, (c = 12 ∧ i = s) ∨ ¬ (c = 12 ∧ i = s) := fun c i => Decidable.em _
  have key : ∀ c i j, σ c i = g j → ((c = 12 ∧ i = s) ↔ j = 19 + 5 * s) → wr σ 12 (s) v c i = upd g (19 + 5 * s) v j := by
    intro c i j e q
    unfold wr upd
    by_cases z : c = 12 ∧ i = s
    · rw [if_pos z, if_pos (q.mp z)]
    · rw [if_neg z, if_neg (fun y => z (q.mpr y)), e]
  refine ⟨⟨key _ _ _ h1 (by omega), key _ _ _ h2 (by omega), key _ _ _ h3 (by omega), key _ _ _ h4 (by omega)⟩, fun k hk => key _ _ _ (h5 k hk) (by omega), fun k hk => key _ _ _ (h6 k hk) (by omega), fun t ht => ⟨⟨key _ _ _ (h7 t ht).1.1 (by omega), key _ _ _ (h7 t ht).1.2.1 (by omega), key _ _ _ (h7 t ht).1.2.2 (by omega)⟩, key _ _ _ (h7 t ht).2.1 (by omega), key _ _ _ (h7 t ht).2.2 (by omega)⟩, fun o ho => ⟨⟨key _ _ _ (h8 o ho).1.1 (by omega), key _ _ _ (h8 o ho).1.2.1 (by omega), key _ _ _ (h8 o ho).1.2.2 (by omega)⟩, key _ _ _ (h8 o ho).2.1 (by omega), key _ _ _ (h8 o ho).2.2 (by omega)⟩, fun o t ho ht hot => key _ _ _ (h9 o t ho ht (by unfold upd at hot; rwa [if_neg (by omega)] at hot)) (by omega), fun k hk => ⟨key _ _ _ (h10 k hk).1 (by omega), key _ _ _ (h10 k hk).2 (by omega)⟩⟩
theorem upd_ne {g : Nat → Int32} {j k : Nat} {v : Int32} (h : k ≠ j) : upd g j v k = g k := if_neg h
theorem upd_eq {g : Nat → Int32} {j : Nat} {v : Int32} : upd g j v j = v := if_pos rfl
theorem WfT_upd {g h : Nat → Int32} {n t : Nat} (e : ∀ k, 15 + 5 * t ≤ k → k ≤ 19 + 5 * t → h k = g k) (hT : WfT g n t) : WfT h n t := by
  unfold WfT at *
  rw [e (15 + 5 * t) (by omega) (by omega), e (16 + 5 * t) (by omega) (by omega), e (17 + 5 * t) (by omega) (by omega), e (18 + 5 * t) (by omega) (by omega), e (19 + 5 * t) (by omega) (by omega)]
  exact hT
theorem WfO_upd {g h : Nat → Int32} {n nt o : Nat} (e : ∀ k, 41 + 5 * o ≤ k → k ≤ 45 + 5 * o → h k = g k) (hT : WfO g n nt o) : WfO h n nt o := by
  unfold WfO at *
  rw [e (41 + 5 * o) (by omega) (by omega), e (42 + 5 * o) (by omega) (by omega), e (43 + 5 * o) (by omega) (by omega), e (44 + 5 * o) (by omega) (by omega), e (45 + 5 * o) (by omega) (by omega)]
  exact hT
theorem Wf_siding {g : Nat → Int32} {n nt no nf s v : Nat} (hs : s < 7) (hv : v ≤ 30) (hW : Wf g n nt no nf) : Wf (upd g (1 + s) (nI v)) n nt no nf := by
  obtain ⟨⟨h0, b1, b2, b3⟩, ⟨h1, h2, h3, h4⟩, h5, h6, h7, h8, h9, h10⟩ := hW
  refine ⟨⟨h0, b1, b2, b3⟩, ⟨by rw [upd_ne (by omega), h1], by rw [upd_ne (by omega), h2], by rw [upd_ne (by omega), h3], by rw [upd_ne (by omega), h4]⟩, fun k hk => ?_, fun k hk => by rw [upd_ne (by omega)]; exact h6 k hk, fun t ht => WfT_upd (fun k q1 q2 => upd_ne (by omega)) (h7 t ht), fun o ho => WfO_upd (fun k q1 q2 => upd_ne (by omega)) (h8 o ho), fun o t ho ht => by rw [upd_ne (by omega)]; exact h9 o t ho ht, fun k hk => by rw [upd_ne (by omega), upd_ne (by omega)]; exact h10 k hk⟩
  by_cases x : k = s
  · subst x; exact ⟨v, hv, upd_eq⟩
  · rw [upd_ne (by omega)]; exact h5 k hk
theorem Wf_section {g : Nat → Int32} {n nt no nf s v : Nat} (hs : s < 6) (hv0 : 1 ≤ v) (hv : v ≤ 30) (hW : Wf g n nt no nf) : Wf (upd g (8 + s) (nI v)) n nt no nf := by
  obtain ⟨⟨h0, b1, b2, b3⟩, ⟨h1, h2, h3, h4⟩, h5, h6, h7, h8, h9, h10⟩ := hW
  refine ⟨⟨h0, b1, b2, b3⟩, ⟨by rw [upd_ne (by omega), h1], by rw [upd_ne (by omega), h2], by rw [upd_ne (by omega), h3], by rw [upd_ne (by omega), h4]⟩, fun k hk => by rw [upd_ne (by omega)]; exact h5 k hk, fun k hk => ?_, fun t ht => WfT_upd (fun k q1 q2 => upd_ne (by omega)) (h7 t ht), fun o ho => WfO_upd (fun k q1 q2 => upd_ne (by omega)) (h8 o ho), fun o t ho ht => by rw [upd_ne (by omega)]; exact h9 o t ho ht, fun k hk => by rw [upd_ne (by omega), upd_ne (by omega)]; exact h10 k hk⟩
  by_cases x : k = s
  · subst x; exact ⟨v, hv0, hv, upd_eq⟩
  · rw [upd_ne (by omega)]; exact h6 k hk
theorem Wf_time {g : Nat → Int32} {n nt no nf s v : Nat} (hs : s < 5) (hv : v ≤ 300) (hW : Wf g n nt no nf) : Wf (upd g (19 + 5 * s) (nI v)) n nt no nf := by
  obtain ⟨⟨h0, b1, b2, b3⟩, ⟨h1, h2, h3, h4⟩, h5, h6, h7, h8, h9, h10⟩ := hW
  refine ⟨⟨h0, b1, b2, b3⟩, ⟨by rw [upd_ne (by omega), h1], by rw [upd_ne (by omega), h2], by rw [upd_ne (by omega), h3], by rw [upd_ne (by omega), h4]⟩, fun k hk => by rw [upd_ne (by omega)]; exact h5 k hk, fun k hk => by rw [upd_ne (by omega)]; exact h6 k hk, fun t ht => ?_, fun o ho => WfO_upd (fun k q1 q2 => upd_ne (by omega)) (h8 o ho), fun o t ho ht => by rw [upd_ne (by omega)]; exact h9 o t ho ht, fun k hk => by rw [upd_ne (by omega), upd_ne (by omega)]; exact h10 k hk⟩
  by_cases x : t = s
  · subst x
    obtain ⟨k, f, d, len, tm, a1, a2, a3, a4, a5, a6, a7, e1, e2, e3, e4, e5⟩ := h7 t ht
    exact ⟨k, f, d, len, v, a1, a2, a3, a4, a5, a6, hv, by rw [upd_ne (by omega), e1], by rw [upd_ne (by omega), e2], by rw [upd_ne (by omega), e3], by rw [upd_ne (by omega), e4], upd_eq⟩
  · exact WfT_upd (fun k q1 q2 => upd_ne (by omega)) (h7 t ht)
/-- an act that sets one number of the line, on both sides -/
theorem two_set {F G : Sg → Option (Int32 × Sg)} {σ : Sg} {c i j n nt no nf : Nat} {v : Int32} (hI : Inv σ) (h1 : 3 ≤ c) (h2 : c < 22) (hj : j < 174) (hF : ∀ τ, fX10_keepForUndo 0 σ = some ((), τ) → (∀ c i, 3 ≤ c → c < 22 → τ c i = σ c i) → F σ = some (σ c i, wr τ c i v)) (hG : ∀ τ, τ 374 = σ 374 → G τ = fX11_becomes 373 (nI j) v τ) (hL : LR σ 3 (σ 374) → LR (wr σ c i v) 3 (upd (σ 374) j v)) (he : LR σ 3 (σ 374) → σ c i = σ 374 j) (hW : Wf (upd (σ 374) j v) n nt no nf) : Two F G σ := by
  obtain ⟨nx, ct, a1, a2, a3, a4, a5, a6⟩ := hI.h
  have hL0 : LR σ 3 (σ 374) := by obtain ⟨_, _, _, _, h, -⟩ := hI; exact h
  obtain ⟨τ, e, hK, hl⟩ := e10_keep a1 a2 a5 a6
  have hK2 := KC_wr (c := c) (i := i) (v := v) hK h1 h2
  have hr : (wr τ c i v) 374 = σ 374 := funext fun k => by rw [wr_c (by omega), hK.2.2.2.2 374 k (by decide)]
  obtain ⟨ρ, e2, hR, hl2⟩ := e11_becomes (σ := wr τ c i v) (nx := nx) (ct := ct) (j := j) (v := v) (by rw [wr_c (by omega), hK.2.2.2.2 373 2 (by decide), a3]) (by rw [wr_c (by omega), hK.2.2.2.2 373 3 (by decide), a4]) a5 a6 hj
  have h374 : ∀ k, k < 174 → (wr ρ 374 j v) 374 k = upd (σ 374) j v k := fun k hk => by
    by_cases x : k = j
    · subst x; rw [wr_eq, upd_eq]
    · rw [wr_i x, upd_ne x, hl2, hr]
  refine two_mk (r := σ c i) (σ1 := wr τ c i v) (σ2 := wr ρ 374 j v) (hF τ e hl) (by rw [hG _ hr, e2, hr, he hL0]) ?_
  refine Inv_act hI a1 a2 a5 a6 hK2 (KR_wr hR) (LR_of (hL hL0) (fun q k q1 q2 => ?_) h374) (Wf_g (fun k hk => (h374 k hk).symm) hW)
  rw [wr_c (by omega), hR.2.2.2.2 q k (by omega) (by omega) (by omega)]
  unfold wr
  split
  · rfl
  · exact hl q k q1 q2
theorem s_siding {σ : Sg} (hI : Inv σ) (a1 a2 : Int32) : Two (fX10_siding 0 a1 a2) (fX11_siding 373 a1 a2) σ := by
  obtain ⟨n, nt, no, nf, hL, hW, h4, h7, h13, h3⟩ := hI.k
  obtain ⟨g0, g14, g40, g161⟩ := hW.2.1
  have hn := hW.st
  unfold fX10_siding fX11_siding
  simp only [rf_0_2, rf_3_0, rf_4_1, ln_5, e8_hasStation (v0 := 4) h4, bd_v, e10_finding, e11_finds, e10_isWithin, e11_in]
  by_cases A : ib a1 n = 0
  · exact two_find (-100001) hI (by simp only [e8_hasStation (v0 := 4) h4, bd_v, A, if_true]) (fun τ hτ => by
      rw [e11_isStation (n := n) (by rw [row374 hτ, g0]) (by omega), bd_v, if_pos A])
  obtain ⟨s, hs, rfl⟩ := ib_of (by omega) A
  by_cases B : iw a2 0 30 = 0
  · exact two_find (-100001) hI (by simp only [e8_hasStation (v0 := 4) h4, bd_v, if_neg A, B, if_true]) (fun τ hτ => by
      rw [e11_isStation (n := n) (by rw [row374 hτ, g0]) (by omega), bd_v, if_neg A, if_pos B])
  obtain ⟨v, -, hv, rfl⟩ := iw_nat (a := 0) (b := 30) (iw_of B).1 (iw_of B).2 (by decide) (by decide)
  refine two_set (c := 5) (i := s) (j := 1 + s) (v := nI v) hI (by decide) (by decide) (by omega) (fun τ e hl => ?_) (fun τ hτ => ?_) (LR_siding (by omega)) (fun h => h.2.1 s (by omega)) (Wf_siding (by omega) hv hW)
  · simp only [e8_hasStation (v0 := 4) h4, bd_v, if_neg A, if_neg B, e]
    rw [gd_in (n := 7) (by omega) (by decide), lt_v, gd_in (n := 7) (by omega) (by decide), lt_v, nI_cl (by omega), hl 5 s (by decide) (by decide)]
  · rw [e11_isStation (n := n) (by rw [hτ, g0]) (by omega), bd_v, if_neg A, if_neg B, show (1 : Int32) + nI s = nI (1 + s) from nI_add 1 s]
    cases fX11_becomes 373 (nI (1 + s)) (nI v) τ <;> rfl
theorem s_section {σ : Sg} (hI : Inv σ) (a1 a2 : Int32) : Two (fX10_section 0 a1 a2) (fX11_section 373 a1 a2) σ := by
  obtain ⟨n, nt, no, nf, hL, hW, h4, h7, h13, h3⟩ := hI.k
  obtain ⟨g0, g14, g40, g161⟩ := hW.2.1
  have hn := hW.st
  have hn2 := hW.1.1.1
  obtain ⟨m, rfl⟩ : ∃ m, n = m + 1 := ⟨n - 1, by omega⟩
  have hsec : ∀ s, iw s 0 (nI (m + 1) - 2) = ib s m := fun s => by
    obtain ⟨q, rfl⟩ : ∃ q, m = q + 1 := ⟨m - 1, by omega⟩
    rw [show nI (q + 1 + 1) - 2 = nI (q + 1) - 1 from by rw [show (2 : Int32) = nI 2 from rfl, pk_sub (by omega), nI_pred]; rfl]
    exact iw_ib' (by omega)
  unfold fX10_section fX11_section
  simp only [rf_0_2, rf_3_0, rf_4_2, ln_6, rf_373_0, ln_374, e8_hasSection h4, e8_areMinutes, bd_v, e10_finding, e11_finds, e11_in]
  by_cases A : ib a1 m = 0
  · exact two_find (-100001) hI (by simp only [e8_hasSection h4, bd_v, A, if_true]) (fun τ hτ => by
      rw [gd_t (by decide), cl0, row374 hτ, g0, hsec, if_pos A])
  obtain ⟨s, hs, rfl⟩ := ib_of (by omega) A
  by_cases B : iw a2 1 30 = 0
  · exact two_find (-100001) hI (by simp only [e8_hasSection h4, bd_v, if_neg A, B, if_true]) (fun τ hτ => by
      rw [gd_t (by decide), cl0, row374 hτ, g0, hsec, if_neg A, if_pos B])
  obtain ⟨v, hv0, hv, rfl⟩ := iw_nat (a := 1) (b := 30) (iw_of B).1 (iw_of B).2 (by decide) (by decide)
  refine two_set (c := 6) (i := s) (j := 8 + s) (v := nI v) hI (by decide) (by decide) (by omega) (fun τ e hl => ?_) (fun τ hτ => ?_) (LR_section (by omega)) (fun h => h.2.2.1 s (by omega)) (Wf_section (by omega) hv0 hv hW)
  · simp only [e8_hasSection h4, bd_v, if_neg A, if_neg B, e]
    rw [gd_in (n := 6) (by omega) (by decide), lt_v, gd_in (n := 6) (by omega) (by decide), lt_v, nI_cl (by omega), hl 6 s (by decide) (by decide)]
  · rw [gd_t (by decide), cl0, hτ, g0, hsec, if_neg A, if_neg B, show (8 : Int32) + nI s = nI (8 + s) from nI_add 8 s]
    cases fX11_becomes 373 (nI (8 + s)) (nI v) τ <;> rfl
theorem s_time {σ : Sg} (hI : Inv σ) (a1 a2 : Int32) : Two (fX10_time 0 a1 a2) (fX11_time 373 a1 a2) σ := by
  obtain ⟨n, nt, no, nf, hL, hW, h4, h7, h13, h3⟩ := hI.k
  obtain ⟨g0, g14, g40, g161⟩ := hW.2.1
  have hnt : nt ≤ 5 := hW.1.2.1
  unfold fX10_time fX11_time
  simp only [rf_0_2, rf_3_1, rf_7_5, ln_12, e9_has (v0 := 7) h7, bd_v, e10_finding, e11_finds, e10_isWithin, e11_in]
  by_cases A : ib a1 nt = 0
  · exact two_find (-100001) hI (by simp only [e9_has (v0 := 7) h7, bd_v, A, if_true]) (fun τ hτ => by
      rw [e11_isTrain (n := nt) (by rw [row374 hτ, g14]) (by omega), bd_v, if_pos A])
  obtain ⟨s, hs, rfl⟩ := ib_of (by omega) A
  by_cases B : iw a2 0 300 = 0
  · exact two_find (-100001) hI (by simp only [e9_has (v0 := 7) h7, bd_v, if_neg A, B, if_true]) (fun τ hτ => by
      rw [e11_isTrain (n := nt) (by rw [row374 hτ, g14]) (by omega), bd_v, if_neg A, if_pos B])
  obtain ⟨v, -, hv, rfl⟩ := iw_nat (a := 0) (b := 300) (iw_of B).1 (iw_of B).2 (by decide) (by decide)
  refine two_set (c := 12) (i := s) (j := 19 + 5 * s) (v := nI v) hI (by decide) (by decide) (by omega) (fun τ e hl => ?_) (fun τ hτ => ?_) (LR_time (by omega)) (fun h => (h.2.2.2.1 s (by omega)).2.2) (Wf_time (by omega) hv hW)
  · simp only [e9_has (v0 := 7) h7, bd_v, if_neg A, if_neg B, e]
    rw [gd_in (n := 5) (by omega) (by decide), lt_v, gd_in (n := 5) (by omega) (by decide), lt_v, nI_cl (by omega), hl 12 s (by decide) (by decide)]
  · rw [e11_isTrain (n := nt) (by rw [hτ, g14]) (by omega), bd_v, if_neg A, if_neg B, show (15 : Int32) + 5 * nI s + 4 = nI (19 + 5 * s) from by rw [ix2 (A := 15) (B := 5) 15 5 s rfl rfl, show (4 : Int32) = nI 4 from rfl, nI_add]; congr 1; omega]
    cases fX11_becomes 373 (nI (19 + 5 * s)) (nI v) τ <;> rfl
