/-! PURE: what every act does that changes the line -/
theorem LR_g {σ : Sg} {L : Nat} {g h : Nat → Int32} (e : ∀ k, k < 174 → g k = h k) (hL : LR σ L g) : LR σ L h := by
  obtain ⟨⟨h1, h2, h3, h4⟩, h5, h6, h7, h8, h9, h10⟩ := hL
  refine ⟨⟨by rw [h1, e _ (by omega)], by rw [h2, e _ (by omega)], by rw [h3, e _ (by omega)], by rw [h4, e _ (by omega)]⟩, fun k hk => by rw [h5 k hk, e _ (by omega)], fun k hk => by rw [h6 k hk, e _ (by omega)], fun t ht => ?_, fun o ho => ?_, fun o t ho ht hot => ?_, fun k hk => ?_⟩
  · obtain ⟨⟨a, b, c⟩, d, f⟩ := h7 t ht
    exact ⟨⟨by rw [a, e _ (by omega)], by rw [b, e _ (by omega)], by rw [c, e _ (by omega)]⟩, by rw [d, e _ (by omega)], by rw [f, e _ (by omega)]⟩
  · obtain ⟨⟨a, b, c⟩, d, f⟩ := h8 o ho
    exact ⟨⟨by rw [a, e _ (by omega)], by rw [b, e _ (by omega)], by rw [c, e _ (by omega)]⟩, by rw [d, e _ (by omega)], by rw [f, e _ (by omega)]⟩
  · rw [h9 o t ho ht (by rw [e _ (by omega)]; exact hot), e _ (by omega)]
  · obtain ⟨a, b⟩ := h10 k hk
    exact ⟨by rw [a, e _ (by omega)], by rw [b, e _ (by omega)]⟩
theorem Wf_g {g h : Nat → Int32} {n nt no nf : Nat} (e : ∀ k, k < 174 → g k = h k) (hW : Wf g n nt no nf) : Wf h n nt no nf := by
  obtain ⟨⟨h0, b1, b2, b3⟩, ⟨h1, h2, h3, h4⟩, h5, h6, h7, h8, h9, h10⟩ := hW
  refine ⟨⟨h0, b1, b2, b3⟩, ⟨by rw [← e _ (by omega), h1], by rw [← e _ (by omega), h2], by rw [← e _ (by omega), h3], by rw [← e _ (by omega), h4]⟩, fun k hk => by rw [← e _ (by omega)]; exact h5 k hk, fun k hk => by rw [← e _ (by omega)]; exact h6 k hk, fun t ht => ?_, fun o ho => ?_, fun o t ho ht => by rw [← e _ (by omega)]; exact h9 o t ho ht, fun k hk => by rw [← e _ (by omega), ← e (163 + 2 * k) (by omega)]; exact h10 k hk⟩
  · unfold WfT
    rw [← e (15 + 5 * t) (by omega), ← e (16 + 5 * t) (by omega), ← e (17 + 5 * t) (by omega), ← e (18 + 5 * t) (by omega), ← e (19 + 5 * t) (by omega)]
    exact h7 t ht
  · unfold WfO
    rw [← e (41 + 5 * o) (by omega), ← e (42 + 5 * o) (by omega), ← e (43 + 5 * o) (by omega), ← e (44 + 5 * o) (by omega), ← e (45 + 5 * o) (by omega)]
    exact h8 o ho
def nx1 (nx : Nat) : Nat := (nx + 1) % 16
def ct1 (ct : Nat) : Nat := if 16 ≤ ct then 16 else ct + 1
/-- the class has kept its line; what its line is now is not said -/
def KC (nx ct : Nat) (σ τ : Sg) : Prop := (∀ g, LR σ 3 g → LR τ (60 + 19 * nx) g) ∧ (τ 58 1 = nI (nx1 nx) ∧ τ 58 2 = nI (ct1 ct) ∧ τ 2 2 = 0 ∧ τ 1 3 = 0) ∧ (∀ c i, 22 ≤ c → c < 373 → c ≠ 58 → (c < 60 + 19 * nx ∨ 60 + 19 * nx + 18 < c) → τ c i = σ c i) ∧ (∀ i, τ 0 i = σ 0 i) ∧ ∀ c i, 373 ≤ c → τ c i = σ c i
def KR (nx ct : Nat) (σ τ : Sg) : Prop := (τ 373 2 = nI (nx1 nx) ∧ τ 373 3 = nI (ct1 ct) ∧ τ 373 9 = 0) ∧ (∀ i, i ≠ 2 → i ≠ 3 → i ≠ 9 → τ 373 i = σ 373 i) ∧ (∀ k, k < 174 → τ 375 (174 * nx + k) = σ 374 k) ∧ (∀ j, (j < 174 * nx ∨ 174 * nx + 174 ≤ j) → τ 375 j = σ 375 j) ∧ ∀ c i, c ≠ 373 → c ≠ 374 → c ≠ 375 → τ c i = σ c i
theorem lin_in (i : Nat) (h : i < 16) : 60 + 19 * i ∈ LIDS := List.mem_cons_of_mem _ (List.mem_map.mpr ⟨i, List.mem_range.mpr h, rfl⟩)
theorem lin_3 : 3 ∈ LIDS := List.mem_cons_self
theorem rf59 (i : Nat) (h : i < 16) : rf 59 i = 60 + 19 * i := (of_decide_eq_true (List.all_eq_true.mp rf_line0 i (List.mem_range.mpr h))).1
theorem nx_v {nx : Nat} (h : nx < 16) : (nI nx + 1) - (nI nx + 1) / 16 * 16 = nI (nx1 nx) := by
  rw [nI_1, show (16 : Int32) = nI 16 from rfl, pk_rem (by omega) (by decide) (by decide)]
  rfl
theorem e10_keep {σ : Sg} {nx ct : Nat} (h1 : σ 58 1 = nI nx) (h2 : σ 58 2 = nI ct) (hn : nx < 16) (hc : ct ≤ 16) : ∃ τ, fX10_keepForUndo 0 σ = some ((), τ) ∧ KC nx ct σ τ ∧ ∀ c i, 3 ≤ c → c < 22 → τ c i = σ c i := by
  obtain ⟨s1, e1, f1, g1⟩ := take3 (lin_in nx hn) lin_3 (Or.inr (by omega)) σ
  have a1 : s1 58 1 = nI nx := by rw [f1 58 1 (by omega), h1]
  have a2 : s1 58 2 = nI ct := by rw [f1 58 2 (by omega), h2]
  have hk : fX2_keep 58 3 σ = some ((), wr (wr s1 58 1 (nI (nx1 nx))) 58 2 (nI (ct1 ct))) := by
    unfold fX2_keep
    rw [rf_58_0, ln_59, h1, gd_in hn (by decide), nI_cl (by omega), rf59 nx hn, e1, bd_v, lt_v, a1, nx_v hn, wr_i (by decide), a2]
    unfold ct1
    by_cases q : 16 ≤ ct
    · rw [if_pos (show (16 : Int32) ≤ nI ct from nI_le (a := 16) q (by omega)), lt_v, if_pos q]
      rfl
    · rw [if_neg (show ¬ (16 : Int32) ≤ nI ct from nI_ge (b := 16) (by omega) (by decide)), lt_v, nI_1, if_neg q]
  refine ⟨wr (wr (wr (wr s1 58 1 (nI (nx1 nx))) 58 2 (nI (ct1 ct))) 2 2 0) 1 3 0, ?_, ⟨fun g hg => ?_, ⟨?_, ?_, ?_, ?_⟩, fun c i q1 q2 q3 q4 => ?_, fun i => ?_, fun c i q => ?_⟩, fun c i q1 q2 => ?_⟩
  · unfold fX10_keepForUndo fX10_forgetTheDay fX0_forget fX4_forget
    rw [rf_0_3, rf_0_2, rf_0_1, rf_0_0, hk, bd_v, lt_v, bd_v, lt_v, bd_v, bd_v]
  · refine LR_congr (fun c q1 q2 => ?_) (g1 g hg)
    rw [wr_r (by omega), wr_r (by omega), wr_r (by omega), wr_r (by omega)]
  · rw [wr_c (by decide), wr_c (by decide), wr_i (by decide), wr_eq]
  · rw [wr_c (by decide), wr_c (by decide), wr_eq]
  · rw [wr_c (by decide), wr_eq]
  · rw [wr_eq]
  · rw [wr_c (by omega), wr_c (by omega), wr_c (by omega), wr_c (by omega), f1 c i (by omega)]
  · rw [wr_c (by omega), wr_c (by omega), wr_c (by omega), wr_c (by omega), f1 0 i (by omega)]
  · rw [wr_c (by omega), wr_c (by omega), wr_c (by omega), wr_c (by omega), f1 c i (by omega)]
  · rw [wr_c (by omega), wr_c (by omega), wr_c (by omega), wr_c (by omega), f1 c i (by omega)]
theorem kp_1 {σ : Sg} {nx ct : Nat} (h1 : σ 373 2 = nI nx) (h2 : σ 373 3 = nI ct) (hn : nx < 16) (hc : ct ≤ 16) : ∀ d i fu, i + d = 174 → d < fu → lq1 (fX11_keep_7 373) fu (nI i) (upR σ 375 (174 * nx) (174 * nx + i) (fun j => σ 374 (j - 174 * nx))) = some ((), wr (wr (upR σ 375 (174 * nx) (174 * nx + 174) (fun j => σ 374 (j - 174 * nx))) 373 2 (nI (nx1 nx))) 373 3 (nI (ct1 ct))) := by
  intro d
  induction d with
  | zero =>
    intro i fu h hf
    obtain ⟨fu, rfl⟩ : ∃ q, fu = q + 1 := ⟨fu - 1, by omega⟩
    obtain rfl : i = 174 := by omega
    show fX11_keep_7 373 _ _ _ = _
    unfold fX11_keep_7
    rw [if_pos (show (174 : Int32) ≤ nI 174 from by decide), upR_c (c' := 373) (by decide), h1, nx_v hn, lt_v, wr_i (by decide), upR_c (c' := 373) (by decide), h2]
    unfold ct1
    by_cases q : 16 ≤ ct
    · rw [if_pos (show (16 : Int32) ≤ nI ct from nI_le (a := 16) q (by omega)), lt_v, if_pos q]
      rfl
    · rw [if_neg (show ¬ (16 : Int32) ≤ nI ct from nI_ge (b := 16) (by omega) (by decide)), lt_v, nI_1, if_neg q]
  | succ d ih =>
    intro i fu h hf
    obtain ⟨fu, rfl⟩ : ∃ q, fu = q + 1 := ⟨fu - 1, by omega⟩
    have ih' := ih (i + 1) fu (by omega) (by omega)
    change fX11_keep_7 373 (lq1 (fX11_keep_7 373) fu) (nI i) _ = _
    generalize lq1 (fX11_keep_7 373) fu = K at ih' ⊢
    unfold fX11_keep_7
    have e : (174 : Int32) * nI nx + nI i = nI (174 * nx + i) := by rw [show (174 : Int32) = nI 174 from rfl, pk_mul, nI_add]
    rw [if_neg (show ¬ (174 : Int32) ≤ nI i from nI_ge (a := i) (b := 174) (by omega) (by decide)), upR_c (c' := 373) (by decide), h1, e, rf_373_0, rf_373_1, ln_374, ln_375, gd_in (by omega) (by decide), gd_in (by omega) (by decide), lt_v, lt_v, nI_1, nI_cl (by omega), nI_cl (by omega), upR_c (c' := 374) (by decide), upR_s _ _ _ _ _ (by omega) (by rw [show 174 * nx + i - 174 * nx = i by omega])]
    exact ih'
theorem e11_keep {σ : Sg} {nx ct : Nat} (h1 : σ 373 2 = nI nx) (h2 : σ 373 3 = nI ct) (hn : nx < 16) (hc : ct ≤ 16) : ∃ τ, fX11_keep 373 σ = some ((), τ) ∧ KR nx ct σ τ ∧ ∀ i, τ 374 i = σ 374 i := by
  have h := kp_1 (σ := wr σ 373 9 0) (nx := nx) (ct := ct) (by rw [wr_i (by decide), h1]) (by rw [wr_i (by decide), h2]) hn hc 174 0 FU (by omega) (by rw [FU_s]; omega)
  rw [show 174 * nx + 0 = 174 * nx from rfl, upR_0] at h
  refine ⟨wr (wr (upR (wr σ 373 9 0) 375 (174 * nx) (174 * nx + 174) (fun j => (wr σ 373 9 0) 374 (j - 174 * nx))) 373 2 (nI (nx1 nx))) 373 3 (nI (ct1 ct)), ?_, ⟨⟨?_, ?_, ?_⟩, fun i q1 q2 q3 => ?_, fun k hk => ?_, fun j hj => ?_, fun c i q1 q2 q3 => ?_⟩, fun i => ?_⟩
  · unfold fX11_keep
    rw [lt_v, lt_v]
    exact h
  · rw [wr_i (by decide), wr_eq]
  · rw [wr_eq]
  · rw [wr_i (by decide), wr_i (by decide), upR_c (by decide), wr_eq]
  · rw [wr_i q2, wr_i q1, upR_c (by decide), wr_i q3]
  · rw [wr_c (by decide), wr_c (by decide), upR_in (by omega) (by omega), wr_c (by decide), show 174 * nx + k - 174 * nx = k by omega]
  · rw [wr_c (by decide), wr_c (by decide), upR_out hj, wr_c (by decide)]
  · rw [wr_c q1, wr_c q1, upR_c q3, wr_c q1]
  · rw [wr_c (by decide), wr_c (by decide), upR_c (by decide), wr_c (by decide)]
/-- both have kept the line, and the new lines agree: all holds again -/
theorem Inv_act {σ σ1 σ2 : Sg} {nx ct n nt no nf : Nat} (hI : Inv σ) (h1 : σ 58 1 = nI nx) (h2 : σ 58 2 = nI ct) (hn : nx < 16) (hc : ct ≤ 16) (hK : KC nx ct σ σ1) (hR : KR nx ct σ1 σ2) (hL : LR σ2 3 (σ2 374)) (hW : Wf (σ2 374) n nt no nf) : Inv σ2 := by
  obtain ⟨n0, nt0, no0, nf0, a1, a2, a3, a4, a5, a6, a7, a8, a9⟩ := hI
  obtain ⟨k1, ⟨k2, k3, k4, k5⟩, k6, k7, k8⟩ := hK
  obtain ⟨⟨r1, r2, r3⟩, r4, r5, r6, r7⟩ := hR
  refine ⟨n, nt, no, nf, hL, hW, ?_, ?_, ?_, ?_, Or.inl ?_, Or.inl r3, Or.inl ?_⟩
  · -- what is kept
    obtain ⟨nx', ct', b1, b2, ⟨b3, b4, b5, b6⟩, b7⟩ := a3
    have enx : nx' = nx := by
      have := congrArg Int32.toNatClampNeg (b3.symm.trans h1)
      rwa [nI_cl (by omega), nI_cl (by omega)] at this
    have ect : ct' = ct := by
      have := congrArg Int32.toNatClampNeg (b4.symm.trans h2)
      rwa [nI_cl (by omega), nI_cl (by omega)] at this
    subst enx
    subst ect
    refine ⟨nx1 nx', ct1 ct', Nat.mod_lt _ (by decide), by unfold ct1; split <;> omega, ⟨by rw [r7 58 1 (by decide) (by decide) (by decide), k2], by rw [r7 58 2 (by decide) (by decide) (by decide), k3], r1, r2⟩, fun d hd1 hd2 => ?_⟩
    have hrow : ∀ c, c ≠ 373 → c ≠ 374 → c ≠ 375 → σ2 c = σ1 c := fun c q1 q2 q3 => funext fun i => r7 c i q1 q2 q3
    by_cases hd : d = 1
    · subst hd
      have e : (nx1 nx' + 16 - 1) % 16 = nx' := by unfold nx1; omega
      rw [e]
      have hg : (fun k => σ2 375 (174 * nx' + k)) = (fun k => σ2 375 (174 * nx' + k)) := rfl
      have hWk : ∀ k, k < 174 → σ2 375 (174 * nx' + k) = σ 374 k := fun k hk => by rw [r5 k hk, k8 374 k (by decide)]
      refine ⟨LR_g (fun k hk => (hWk k hk).symm) (LR_congr (σ := σ1) (fun c q1 q2 => (hrow c (by omega) (by omega) (by omega)).symm) (k1 _ a1)), n0, nt0, no0, nf0, Wf_g (fun k hk => (hWk k hk).symm) a2⟩
    · have hct : d - 1 ≤ ct' := by unfold ct1 at hd2; split at hd2 <;> omega
      obtain ⟨c1, n9, nt9, no9, nf9, c2⟩ := b7 (d - 1) (by omega) hct
      have e : (nx1 nx' + 16 - d) % 16 = (nx' + 16 - (d - 1)) % 16 := by unfold nx1; unfold ct1 at hd2; split at hd2 <;> omega
      rw [e]
      have hne : (nx' + 16 - (d - 1)) % 16 ≠ nx' := by unfold ct1 at hd2; split at hd2 <;> omega
      have hlt : (nx' + 16 - (d - 1)) % 16 < 16 := Nat.mod_lt _ (by decide)
      generalize (nx' + 16 - (d - 1)) % 16 = j at hne hlt c1 c2 ⊢
      have hg : ∀ k, k < 174 → σ 375 (174 * j + k) = σ2 375 (174 * j + k) := fun k hk => by rw [r6 _ (by omega), k8 375 _ (by decide)]
      exact ⟨LR_g hg (LR_congr (σ := σ) (fun c q1 q2 => by
        rw [hrow c (by omega) (by omega) (by omega)]
        exact (funext fun i => k6 c i (by omega) (by omega) (by omega) (by omega)).symm) c1), n9, nt9, no9, nf9, Wf_g hg c2⟩
  · refine Shs_congr (σ := σ) (fun c q1 q2 => funext fun i => ?_) (funext fun i => ?_) (funext fun i => ?_) (funext fun i => ?_) a4
    · rw [r7 c i (by omega) (by omega) (by omega), k6 c i (by omega) (by omega) (by omega) (by omega)]
    · rw [r7 _ i (by omega) (by omega) (by omega), k8 _ i (by omega)]
    · rw [r7 _ i (by omega) (by omega) (by omega), k8 _ i (by omega)]
    · rw [r7 _ i (by omega) (by omega) (by omega), k8 _ i (by omega)]
  · rw [r7 0 5 (by decide) (by decide) (by decide), k7 5, r4 4 (by decide) (by decide) (by decide), k8 373 4 (by decide)]
    exact a5
  · refine Own_congr (σ := σ) (fun t ht => ?_) a6
    rw [r7 _ 0 (by omega) (by omega) (by omega), k6 _ 0 (by omega) (by omega) (by omega) (by omega)]
  · rw [r7 2 2 (by decide) (by decide) (by decide), k4]
  · rw [r7 1 3 (by decide) (by decide) (by decide), k5]
