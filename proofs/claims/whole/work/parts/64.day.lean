/-! PURE: the whole day shows the same -/
theorem dl_On {g h : Nat → Int32} {n nt no nf : Nat} (hW : Wf g n nt no nf) (e : ∀ k, k < 174 → h k = g k) (f : Nat → Int32) : dl h f nt = dl g f nt := by
  have hnt := hW.nt
  have hn : n ≤ 7 := hW.1.1.2
  have key : ∀ N, N ≤ nt → dl h f N = dl g f N := by
    intro N
    induction N with
    | zero => intro _; rfl
    | succ N ih =>
      intro hN
      show dl h f N + dlt h f N = dl g f N + dlt g f N
      rw [ih (by omega)]
      obtain ⟨k, a, d, len, tm, a1, a2, a3, a4, a5, a6, a7, e1, e2, e3, e4, e5⟩ := hW.2.2.2.2.1 N (by omega)
      have hcb : cb (fun k => h (8 + k)) a d = cb (fun k => g (8 + k)) a d := cb_congr (by omega) (by omega) (fun k hk => e _ (by omega))
      unfold dlt
      rw [e _ (by omega), e _ (by omega), e _ (by omega), e _ (by omega), e2, e3, nI_cl (by omega), nI_cl (by omega), hcb]
  exact key nt (Nat.le_refl _)
/-- the end of a day: the class's last minute is M -/
def PE (g : Nat → Int32) (E : Option (Nat × Nat × Nat)) (n nt no : Nat) (σ0 τ0 : Sg) (σ τ : Sg) : Prop := ∃ M, M ≤ 501 ∧ σ 22 0 = nI M ∧ (FrC σ0 σ ∧ FrR τ0 τ) ∧ BK g nt σ τ ∧ DA nt M σ τ ∧ ∀ t m, t < nt → M ≤ m → m ≤ 500 → τ 389 (501 * t + m) = 300 ∧ τ 390 (501 * t + m) = -100006
theorem main_loop {g : Nat → Int32} {E : Option (Nat × Nat × Nat)} {n nt no nf : Nat} {σ0 τ0 : Sg} (hW : Wf g n nt no nf) (hX : Xok E n nt) (hO0 : On τ0 g) (hM0 : MoE τ0 E) : ∀ d m fc fr σ τ, m + d = 501 → d < fc → d < fr → PM g E n nt no σ0 τ0 m σ τ → ∃ σ' τ', lq1 (fX0_play_31 2 (((1 : Int32) <<< (nI nt &&& 31)) - 1)) fc (nI m) σ = some ((), σ') ∧ lq1 (fX11_runs_6 373) fr (nI m) τ = some ((), τ') ∧ PE g E n nt no σ0 τ0 σ' τ' := by
  have hnt := hW.nt
  intro d
  induction d with
  | zero =>
    intro m fc fr σ τ h h1 h2 hP
    obtain ⟨fc, rfl⟩ : ∃ k, fc = k + 1 := ⟨fc - 1, by omega⟩
    obtain ⟨fr, rfl⟩ : ∃ k, fr = k + 1 := ⟨fr - 1, by omega⟩
    obtain rfl : m = 501 := by omega
    obtain ⟨hD, hH, hA, h22⟩ := hP
    refine ⟨σ, τ, ?_, ?_, 501, Nat.le_refl _, h22, hD.1, hD.2.2.1, hA, fun t m _ q1 q2 => by omega⟩
    · change fX0_play_31 2 _ (lq1 (fX0_play_31 2 (((1 : Int32) <<< (nI nt &&& 31)) - 1)) fc) (nI 501) σ = _
      generalize lq1 (fX0_play_31 2 (((1 : Int32) <<< (nI nt &&& 31)) - 1)) fc = KK
      unfold fX0_play_31
      rw [if_pos (by decide)]
    · change fX11_runs_6 373 (lq1 (fX11_runs_6 373) fr) (nI 501) τ = _
      generalize lq1 (fX11_runs_6 373) fr = KK
      unfold fX11_runs_6
      rw [if_pos (by decide)]
  | succ d ih =>
    intro m fc fr σ τ h h1 h2 hP
    obtain ⟨fc, rfl⟩ : ∃ k, fc = k + 1 := ⟨fc - 1, by omega⟩
    by_cases A : σ 2 14 = ((1 : Int32) <<< (nI nt &&& 31)) - 1
    · obtain ⟨hD, hH, hA, h22⟩ := hP
      have hoff : ∀ t, t < nt → τ 381 t = 3 := by
        intro t ht
        obtain ⟨hh, p, w, b, l, hR, hC, hG, -⟩ := hD.2.2.2.2 t ht
        have hb := hC.2.2
        rw [A, bt_full nt (by omega) t (by omega), decide_eq_true ht] at hb
        have h3 : hh = 3 := of_decide_eq_true hb.symm
        rw [hR.1.1, h3]; rfl
      obtain ⟨τ', e2, k1, k2, k3⟩ := r_tail hW (d + 1) m fr τ h h2 (hD.1.2.on hO0) hoff
      refine ⟨σ, τ', ?_, e2, m, by omega, h22, ⟨hD.1.1, ⟨fun c i hc => ?_, fun i hi => ?_⟩⟩, ?_, fun t m' ht hm' => ?_, k3⟩
      · change fX0_play_31 2 _ (lq1 (fX0_play_31 2 (((1 : Int32) <<< (nI nt &&& 31)) - 1)) fc) (nI m) σ = _
        generalize lq1 (fX0_play_31 2 (((1 : Int32) <<< (nI nt &&& 31)) - 1)) fc = KK
        unfold fX0_play_31
        rw [if_neg (show ¬ (500 : Int32) < nI m from nI_nlt (b := m) (a := 500) (by omega) (by decide)), if_pos A]
      · rw [k1 c i (by omega) (by omega), hD.1.2.1 c i hc]
      · rw [k1 _ _ (by omega) (by omega), hD.1.2.2 i hi]
      · obtain ⟨⟨b1, b2, b3⟩, ⟨b4, b5⟩, b6, b7, b8⟩ := hD.2.2.1
        refine ⟨⟨MN_o (fun i => rfl) (fun i => k1 _ _ (by decide) (by decide)) b1, MN_o (fun i => rfl) (fun i => k1 _ _ (by decide) (by decide)) b2, fun j hj => ?_⟩, ⟨fun a b q1 q2 => ?_, ?_⟩, ?_, ?_, b8⟩
        · rw [k1 _ _ (by decide) (by decide)]; exact b3 j hj
        · rw [k1 _ _ (by decide) (by decide)]; exact b4 a b q1 q2
        · unfold HD at *
          rw [k1 _ _ (by decide) (by decide), k1 _ _ (by decide) (by decide), k1 _ _ (by decide) (by decide), k1 _ _ (by decide) (by decide), k1 _ _ (by decide) (by decide), k1 _ _ (by decide) (by decide)]
          exact b5
        · rw [k1 _ _ (by decide) (by decide)]; exact b6
        · rw [b7]
          congr 1
          funext o
          rw [k1 _ _ (by decide) (by decide)]
      · obtain ⟨q1, q2⟩ := k2 t m' ht hm'
        unfold RS
        rw [q1, q2]
        exact hA t m' ht hm'
    · obtain ⟨fr, rfl⟩ : ∃ k, fr = k + 1 := ⟨fr - 1, by omega⟩
      have hnt0 : 0 < nt := by
        rcases Nat.eq_zero_or_pos nt with q | q
        · exfalso
          apply A
          subst q
          refine b_ext fun i hi => ?_
          rw [hP.1.2.2.1.2.2.2.2 i (by omega) hi, bt_full 0 (by decide) i hi]
          rfl
        · exact q
      obtain ⟨σ1, τ1, e1, e2, hP1⟩ := minute hW hX hO0 hM0 hnt0 (show m ≤ 500 by omega) hP A (lq1 (fX0_play_31 2 (((1 : Int32) <<< (nI nt &&& 31)) - 1)) fc) (lq1 (fX11_runs_6 373) fr)
      obtain ⟨σ2, τ2, e3, e4, hP2⟩ := ih (m + 1) fc fr σ1 τ1 (by omega) (by omega) (by omega) hP1
      exact ⟨σ2, τ2, Eq.trans e1 e3, Eq.trans e2 e4, hP2⟩
theorem Obs_PE {g : Nat → Int32} {E : Option (Nat × Nat × Nat)} {n nt no nf : Nat} {σ0 τ0 σ τ : Sg} (hW : Wf g n nt no nf) (hO0 : On τ0 g) (h : PE g E n nt no σ0 τ0 σ τ) : Obs nt σ τ := by
  obtain ⟨M, hM, h22, ⟨hFC, hFR⟩, ⟨⟨b1, b2, b3⟩, ⟨b4, b5⟩, b6, b7, b8⟩, hA, ht⟩ := h
  have hnt := hW.nt
  have ps : ∀ {x : Int32}, (x = -1 ∨ ∃ v, v ≤ 500 ∧ x = nI v) → (x = -1 ∨ ¬ x < 0) := fun h => h.imp id (fun ⟨v, q1, q2⟩ => by rw [q2]; exact not_lt0 (by omega))
  refine ⟨fun t m h1 h2 => ?_, fun t m h1 h2 => ?_, fun t q h1 h2 => ?_, fun t q h1 h2 => ?_, b5.1, b5.2, b6, ?_, ?_⟩
  · rw [h22]
    by_cases z : M ≤ m
    · rw [if_pos (nI_le z (by omega)), (ht t m h1 z h2).1]
    · rw [if_neg (nle_of (by omega) (by omega))]
      exact (hA t m h1 (by omega)).1
  · rw [h22]
    by_cases z : M ≤ m
    · rw [if_pos (nI_le z (by omega)), (ht t m h1 z h2).2, if_pos rfl]
      exact ⟨rfl, by decide⟩
    · rw [if_neg (nle_of (by omega) (by omega))]
      exact (hA t m h1 (by omega)).2
  · obtain ⟨q1, q2⟩ := b1 (7 * t + q) (by omega)
    exact ⟨q1, ps q2⟩
  · obtain ⟨q1, q2⟩ := b2 (7 * t + q) (by omega)
    exact ⟨q1, ps q2⟩
  · rw [b7]
    exact (dl_On hW (fun k hk => hFR.on hO0 k hk) _).symm
  · rw [h22]
    exact nI_le hM (by decide)
/-- a day as the class plays it and as the reference runs it -/
theorem play_runs {g : Nat → Int32} {E : Option (Nat × Nat × Nat)} {n nt no nf : Nat} {σ τ : Sg} (hW : Wf g n nt no nf) (hX : Xok E n nt) (hL : LR σ 3 g) (hOw : Own σ) (hO : On τ g) (hM : MoE τ E) : ∃ σ' τ', fX0_play 2 (Ea E) (Eb E) (Xs E) σ = some ((), σ') ∧ fX11_runs 373 τ = some ((), τ') ∧ Obs nt σ' τ' ∧ FrC σ σ' ∧ FrR τ τ' := by
  have hnt := hW.nt
  have f0 : ∀ c i, c ≠ 2 → wr σ 2 2 0 c i = σ c i := fun c i hc => wr_c hc
  obtain ⟨σ1, e1, hB⟩ := c_begin (E := E) (σ := wr σ 2 2 0) hW hX (LR_congr (fun c q1 q2 => funext fun i => (f0 c i (by omega)).symm) hL) (Own_congr (fun t ht => (f0 _ _ (by omega)).symm) hOw) (wr_eq _ _ _ _)
  obtain ⟨τ1, e2, hF, hR⟩ := r_begin hW hO
  have hP := PM_first (E := E) (no := no) hW (LR_congr (fun c q1 q2 => funext fun i => (f0 c i (by omega)).symm) hL) hB hF hR
  obtain ⟨σ2, τ2, e3, e4, hPE⟩ := main_loop hW hX hO hM 501 0 FU FU σ1 τ1 (by omega) (by rw [FU_s]; omega) (by rw [FU_s]; omega) hP
  have h7 : σ1 7 0 = nI nt := by rw [hB.1.1.1 7 0 (by omega), f0 _ _ (by decide)]; exact hL.1.2.1.trans hW.2.1.2.1
  refine ⟨σ2, τ2, ?_, ?_, Obs_PE hW hO hPE, ?_, ?_⟩
  · unfold fX0_play
    rw [lt_v, e1, bd_v, rf_2_0, rf_3_1, h7, lt_v, lt_v]
    exact e3
  · unfold fX11_runs
    rw [e2, bd_v, lt_v]
    exact e4
  · obtain ⟨M, -, -, ⟨⟨c1, c2, c3⟩, -⟩, -⟩ := hPE
    exact ⟨fun c i hc => by rw [c1 c i hc, f0 c i (by omega)], fun t ht => by rw [c2 t ht, f0 _ _ (by omega)], c3⟩
  · obtain ⟨M, -, -, ⟨-, hFR⟩, -⟩ := hPE
    exact hFR
theorem Obs_z {nt : Nat} {a b c d : Sg} (h1 : Obs nt a b) (h2 : Obs nt c b) (h3 : Obs nt c d) : Obs nt a d := by
  obtain ⟨x1, x2, x3, x4, x5, x6, x7, x8, x9⟩ := h1
  obtain ⟨y1, y2, y3, y4, y5, y6, y7, y8, -⟩ := h2
  obtain ⟨z1, z2, z3, z4, z5, z6, z7, z8, -⟩ := h3
  refine ⟨fun t m q1 q2 => ?_, fun t m q1 q2 => ⟨?_, (z2 t m q1 q2).2⟩, fun t q q1 q2 => ⟨?_, (z3 t q q1 q2).2⟩, fun t q q1 q2 => ⟨?_, (z4 t q q1 q2).2⟩, ?_, fun q => ?_, ?_, ?_, x9⟩
  · rw [x1 t m q1 q2, ← y1 t m q1 q2, z1 t m q1 q2]
  · rw [(x2 t m q1 q2).1, ← (y2 t m q1 q2).1, (z2 t m q1 q2).1]
  · rw [(x3 t q q1 q2).1, ← (y3 t q q1 q2).1, (z3 t q q1 q2).1]
  · rw [(x4 t q q1 q2).1, ← (y4 t q q1 q2).1, (z4 t q q1 q2).1]
  · rw [x5, ← y5, z5]
  · have hb : b 373 25 ≠ 0 := by rw [← y5, z5]; exact q
    obtain ⟨⟨s1, s2, s3, s4⟩, -⟩ := x6 hb
    obtain ⟨⟨t1, t2, t3, t4⟩, -⟩ := y6 hb
    obtain ⟨⟨u1, u2, u3, u4⟩, u5⟩ := z6 q
    exact ⟨⟨by rw [s1, ← t1, u1], by rw [s2, ← t2, u2], by rw [s3, ← t3, u3], by rw [s4, ← t4, u4]⟩, u5⟩
  · rw [x7, ← y7, z7]
  · rw [x8, ← y8, z8]
theorem wr_self (σ : Sg) (c i : Nat) : wr σ c i (σ c i) = σ := by
  funext c' i'
  unfold wr
  split
  · rename_i h; rw [h.1, h.2]
  · rfl
/-- a day is played, or kept, on both sides -/
theorem day_all {σ : Sg} {n nt no nf : Nat} (hI : Inv σ) (hW : Wf (σ 374) n nt no nf) : ∃ σ1, fX0_played 2 σ = some (22, σ1) ∧ (∀ c i, ((c < 22 ∧ c ≠ 2) ∨ 57 ≤ c) → σ1 c i = σ c i) ∧ ∀ v : Int32, ∃ σ2, fX11_runsAsItIs 373 (wr σ1 0 5 v) = some ((), σ2) ∧ Obs nt σ1 σ2 ∧ (∀ c i, c < 373 → σ2 c i = wr σ1 0 5 v c i) ∧ σ2 373 4 = σ 373 4 ∧ σ2 374 = σ 374 ∧ Inv (wr σ2 373 4 v) := by
  obtain ⟨n', nt', no', nf', a1, a2, a3, a4, a5, a6, a7, a8, a9⟩ := hI
  have hnt' : nt' = nt := by
    have h1 := hW.2.1.2.1
    have h2 := a2.2.1.2.1
    have := hW.nt
    have := a2.nt
    exact (nI_eq (by omega) (by omega)).mp (h2.symm.trans h1)
  have hn' : n' = n := by
    have h1 := hW.2.1.1
    have h2 := a2.2.1.1
    have := hW.1.1.2
    have := a2.1.1.2
    exact (nI_eq (by omega) (by omega)).mp (h2.symm.trans h1)
  subst hnt'; subst hn'
  have hE : ∀ (τ : Sg), On τ (σ 374) → Mo τ (-1) (-1) (-1) → ∀ s : Sg, LR s 3 (σ 374) → Own s → ∃ s' τ', fX0_play 2 (-1) (-1) (-1) s = some ((), s') ∧ fX11_runs 373 τ = some ((), τ') ∧ Obs nt' s' τ' ∧ FrC s s' ∧ FrR τ τ' := fun τ h1 h2 s h3 h4 => play_runs (E := none) a2 trivial h3 h4 h1 h2
  -- the class
  have hc : ∃ σ1, fX0_played 2 σ = some (22, σ1) ∧ (∀ c i, ((c < 22 ∧ c ≠ 2) ∨ 57 ≤ c) → σ1 c i = σ c i) ∧ Own σ1 ∧ σ1 2 2 = 1 ∧ ∀ τ τ1, On τ (σ 374) → Mo τ (-1) (-1) (-1) → fX11_runs 373 τ = some ((), τ1) → Obs nt' σ1 τ1 := by
    unfold fX0_played
    rw [rf_2_1]
    rcases a7 with h0 | ⟨h1, h2⟩
    · rw [if_pos h0]
      obtain ⟨s', τ', e1, -, -, ⟨f1, f2, f3⟩, -⟩ := hE (wr (wr (wr σ 373 32 (-1)) 373 33 (-1)) 373 34 (-1)) (fun k hk => by rw [wr_c (by decide), wr_c (by decide), wr_c (by decide)]) ⟨by rw [wr_i (by decide), wr_i (by decide), wr_eq], by rw [wr_i (by decide), wr_eq], by rw [wr_eq]⟩ σ a1 a6
      rw [e1, bd_v, lt_v]
      refine ⟨_, rfl, fun c i hc => by rw [wr_c (by omega), f1 c i hc], fun t ht => by rw [wr_c (by omega), f2 t ht]; exact a6 t ht, wr_eq _ _ _ _, fun τ τ1 q1 q2 q3 => ?_⟩
      obtain ⟨s2, τ2, g1, g2, g3, -⟩ := hE τ q1 q2 σ a1 a6
      rw [e1] at g1
      rw [q3] at g2
      obtain rfl : s' = s2 := congrArg Prod.snd (Option.some.inj g1)
      obtain rfl : τ1 = τ2 := congrArg Prod.snd (Option.some.inj g2)
      exact Obs_L (fun c q1 q2 => funext fun i => (wr_c (by omega)).symm) g3
    · rw [if_neg (by rw [h1]; decide)]
      exact ⟨σ, rfl, fun c i _ => rfl, a6, h1, h2⟩
  obtain ⟨σ1, e1, f1, o1, w1, hC⟩ := hc
  refine ⟨σ1, e1, f1, fun v => ?_⟩
  have hL1 : LR σ1 3 (σ 374) := LR_congr (fun c q1 q2 => funext fun i => (f1 c i (by omega)).symm) a1
  generalize hs : wr σ1 0 5 v = ρ
  have fρ : ∀ c i, 373 ≤ c → ρ c i = σ c i := fun c i hc => by rw [← hs, wr_c (by omega), f1 c i (by omega)]
  have hOρ : On ρ (σ 374) := fun k hk => fρ _ _ (by decide)
  -- the reference
  have hr : ∃ σ2, fX11_runsAsItIs 373 ρ = some ((), σ2) ∧ (∀ c i, (c < 373 ∨ (374 ≤ c ∧ c < 380) ∨ 395 ≤ c) → σ2 c i = ρ c i) ∧ (∀ i, i < 25 → i ≠ 9 → σ2 373 i = ρ 373 i) ∧ σ2 373 9 = 1 ∧ ∀ s s1, LR s 3 (σ 374) → Own s → fX0_play 2 (-1) (-1) (-1) s = some ((), s1) → Obs nt' s1 σ2 := by
    unfold fX11_runsAsItIs
    rw [fρ 373 9 (by decide)]
    rcases a8 with h0 | ⟨h1, h2⟩
    · rw [if_pos h0, lt_v, lt_v, lt_v]
      have hO2 : On (wr (wr (wr ρ 373 32 (-1)) 373 33 (-1)) 373 34 (-1)) (σ 374) := fun k hk => by rw [wr_c (by decide), wr_c (by decide), wr_c (by decide)]; exact hOρ k hk
      have hM2 : Mo (wr (wr (wr ρ 373 32 (-1)) 373 33 (-1)) 373 34 (-1)) (-1) (-1) (-1) := ⟨by rw [wr_i (by decide), wr_i (by decide), wr_eq], by rw [wr_i (by decide), wr_eq], by rw [wr_eq]⟩
      obtain ⟨s', τ', -, e2, -, -, ⟨g1, g2⟩⟩ := hE _ hO2 hM2 σ a1 a6
      rw [e2, bd_v, lt_v]
      refine ⟨_, rfl, fun c i hc => by rw [wr_c (by omega), g1 c i hc, wr_c (by omega), wr_c (by omega), wr_c (by omega)], fun i hi h9 => by rw [wr_i h9, g2 i (by omega), wr_i (by omega), wr_i (by omega), wr_i (by omega)], wr_eq _ _ _ _, fun s s1 q1 q2 q3 => ?_⟩
      obtain ⟨s2, τ2, k1, k2, k3, -⟩ := hE _ hO2 hM2 s q1 q2
      rw [q3] at k1
      rw [e2] at k2
      obtain rfl : s1 = s2 := congrArg Prod.snd (Option.some.inj k1)
      obtain rfl : τ' = τ2 := congrArg Prod.snd (Option.some.inj k2)
      exact Obs_R (fun c hc => funext fun i => (wr_c (by omega)).symm) (fun i q1 q2 => (wr_i (by omega)).symm) k3
    · rw [if_neg (by rw [h1]; decide)]
      refine ⟨ρ, rfl, fun c i _ => rfl, fun i _ _ => rfl, by rw [fρ _ _ (by decide), h1], fun s s1 q1 q2 q3 => ?_⟩
      exact Obs_R (fun c hc => funext fun i => (fρ c i (by omega)).symm) (fun i _ _ => (fρ _ _ (by decide)).symm) (h2 s s1 q1 q2 q3)
  obtain ⟨σ2, e2, f2, f3, w9, hR⟩ := hr
  have h374 : σ2 374 = σ 374 := funext fun k => by rw [f2 _ _ (by omega), fρ _ _ (by decide)]
  have hObs : Obs nt' σ1 σ2 := by
    have hO2 : On (wr (wr (wr σ 373 32 (-1)) 373 33 (-1)) 373 34 (-1)) (σ 374) := fun k hk => by rw [wr_c (by decide), wr_c (by decide), wr_c (by decide)]
    have hM2 : Mo (wr (wr (wr σ 373 32 (-1)) 373 33 (-1)) 373 34 (-1)) (-1) (-1) (-1) := ⟨by rw [wr_i (by decide), wr_i (by decide), wr_eq], by rw [wr_i (by decide), wr_eq], by rw [wr_eq]⟩
    obtain ⟨s', τ', k1, k2, k3, -⟩ := hE _ hO2 hM2 σ a1 a6
    exact Obs_z (hC _ _ hO2 hM2 k2) k3 (hR σ s' a1 a6 k1)
  refine ⟨σ2, e2, hObs, fun c i hc => f2 c i (by omega), by rw [f3 4 (by decide) (by decide), fρ _ _ (by decide)], h374, ?_⟩
  have fl : ∀ c i, c < 373 → c ≠ 0 → wr σ2 373 4 v c i = σ1 c i := fun c i h1 h2 => by rw [wr_c (by omega), f2 c i (by omega), ← hs, wr_c h2]
  have g374 : (wr σ2 373 4 v) 374 = σ 374 := by rw [wr_r (by decide), h374]
  refine ⟨n', nt', no', nf', ?_, ?_, ?_, ?_, ?_, ?_, ?_, ?_, ?_⟩
  · rw [g374]
    exact LR_congr (fun c q1 q2 => funext fun i => (fl c i (by omega) (by omega)).symm) hL1
  · rw [g374]; exact a2
  · refine Hist_congr (σ := σ) (fun c q1 q2 => funext fun i => ?_) ⟨?_, ?_⟩ ⟨?_, ?_⟩ (funext fun i => ?_) a3
    · rw [fl c i (by omega) (by omega), f1 c i (by omega)]
    · rw [fl _ _ (by omega) (by omega), f1 _ _ (by omega)]
    · rw [fl _ _ (by omega) (by omega), f1 _ _ (by omega)]
    · rw [wr_i (by decide), f3 _ (by decide) (by decide), fρ _ _ (by decide)]
    · rw [wr_i (by decide), f3 _ (by decide) (by decide), fρ _ _ (by decide)]
    · rw [wr_c (by decide), f2 _ _ (by omega), fρ _ _ (by decide)]
  · refine Shs_congr (σ := σ) (fun c q1 q2 => funext fun i => ?_) (funext fun i => ?_) (funext fun i => ?_) (funext fun i => ?_) a4
    · rw [fl c i (by omega) (by omega), f1 c i (by omega)]
    · rw [wr_c (by decide), f2 _ _ (by omega), fρ _ _ (by decide)]
    · rw [wr_c (by decide), f2 _ _ (by omega), fρ _ _ (by decide)]
    · rw [wr_c (by decide), f2 _ _ (by omega), fρ _ _ (by decide)]
  · rw [wr_c (by decide), f2 _ _ (by omega), ← hs, wr_eq, wr_eq]
  · exact Own_congr (σ := σ1) (fun t ht => (fl _ _ (by omega) (by omega)).symm) o1
  · rw [g374]
    refine GoodC_congr (σ := σ1) (fun c q1 q2 => funext fun i => (fl c i (by omega) (by omega)).symm) (fl _ _ (by omega) (by omega)).symm (Or.inr ⟨w1, hC⟩)
  · rw [g374]
    refine GoodR_congr (τ := σ2) (fun c hc => funext fun i => (wr_c (by omega)).symm) (fun i q1 q2 => (wr_i (by omega)).symm) (wr_i (by decide)).symm (Or.inr ⟨w9, hR⟩)
  · rw [g374]
    exact GoodP_congr (σ := σ) (funext fun i => by rw [fl _ _ (by omega) (by omega), f1 _ _ (by omega)]) (by rw [fl _ _ (by omega) (by omega), f1 _ _ (by omega)]) a9
