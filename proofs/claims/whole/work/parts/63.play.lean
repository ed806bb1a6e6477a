/-! PURE: a day, on both sides -/
def Ea (E : Option (Nat × Nat × Nat)) : Int32 := match E with
  | none => -1
  | some (a, _, _) => nI a
def Eb (E : Option (Nat × Nat × Nat)) : Int32 := match E with
  | none => -1
  | some (_, b, _) => nI b
/-- what the class's begin leaves, for the i first trains -/
def BC (g : Nat → Int32) (E : Option (Nat × Nat × Nat)) (n : Nat) (σ0 : Sg) (i : Nat) (σ : Sg) : Prop := (FrC σ0 σ ∧ (∀ x, x < i → BT g n σ x ∧ PX σ E x ∧ σ (37 + 4 * x) 3 = 0) ∧ (∀ x, i ≤ x → x < 32 → bt (σ 2 13) x = false) ∧ σ 2 14 = 0) ∧ (∀ j, j < 35 → σ 25 j = -1 ∧ σ 26 j = -1) ∧ (∀ j, j < 14 → σ 35 j = 0 ∧ σ 36 j = -1000) ∧ (σ 22 0 = 0 ∧ σ 22 5 = 0 ∧ σ 22 6 = 0 ∧ σ 22 11 = 0 ∧ σ 22 12 = nI (1000 * i))
theorem BT_congr {g : Nat → Int32} {n x : Nat} {σ σ' : Sg} (h1 : ∀ c, 29 ≤ c → c ≤ 34 → σ' c x = σ c x) (h2 : ∀ q, q < n → σ' 28 (7 * x + q) = σ 28 (7 * x + q)) (h3 : bt (σ' 2 13) x = bt (σ 2 13) x) (h : BT g n σ x) : BT g n σ' x := by
  obtain ⟨⟨a1, a2, a3, a4⟩, a5, a6, a7⟩ := h
  refine ⟨⟨by rw [h1 _ (by omega) (by omega), a1], by rw [h1 _ (by omega) (by omega), a2], by rw [h1 _ (by omega) (by omega)]; exact a3, by rw [h1 _ (by omega) (by omega), a4]⟩, fun q hq => by rw [h2 q hq, a5 q hq], fun k hk => by rw [h1 _ (by omega) (by omega)]; exact a6 k hk, by rw [h3]; exact a7⟩
theorem Xo_if {E : Option (Nat × Nat × Nat)} {n nt t : Nat} (hX : Xok E n nt) (hnt : nt ≤ 5) (ht : t < nt) : (if nI t = Ea E then Eb E else if nI t = Eb E then Ea E else -1) = Xo E t := by
  rcases E with _ | ⟨a, b, s⟩
  · show (if nI t = -1 then _ else if nI t = -1 then _ else _) = (-1 : Int32)
    rw [if_neg (nI_m1 (by omega)), if_neg (nI_m1 (by omega))]
  · obtain ⟨y1, y2, y3⟩ : a < b ∧ b < nt ∧ s < n := hX
    show (if nI t = nI a then nI b else if nI t = nI b then nI a else -1) = (if t = a then nI b else if t = b then nI a else -1)
    simp only [nI_eq (show t < 2 ^ 31 by omega) (show a < 2 ^ 31 by omega), nI_eq (show t < 2 ^ 31 by omega) (show b < 2 ^ 31 by omega)]
theorem begin_step {g : Nat → Int32} {E : Option (Nat × Nat × Nat)} {n nt no nf t : Nat} {σ0 σ : Sg} (hW : Wf g n nt no nf) (hX : Xok E n nt) (hL0 : LR σ0 3 g) (hOw : Own σ0) (ht : t < nt) (hP : BC g E n σ0 t σ) : ∃ σ', (∀ K, fX0_begin_38 2 (Ea E) (Eb E) (Xs E) K (nI t) σ = K (nI (t + 1)) σ') ∧ BC g E n σ0 (t + 1) σ' := by
  obtain ⟨⟨⟨f1, f2, f3⟩, hT, h13, h14⟩, h25, h35, h220, h225, h226, h2211, h2212⟩ := hP
  have hnt := hW.nt
  have hL : LR σ 3 g := LR_congr (fun c q1 q2 => funext fun i => (f1 c i (by omega)).symm) hL0
  have h7 : σ 7 0 = nI nt := hL.1.2.1.trans hW.2.1.2.1
  obtain ⟨σ1, e1, hB, k1, k2, k3, k4⟩ := c_beginTrain hW hL ht (h13 t (Nat.le_refl _) (by omega))
  obtain ⟨⟨p0, -⟩, -⟩ := rf_pap t (show t < 5 by omega)
  have e87 : ∀ K (w : Int32), fX0_begin_87 2 (Ea E) (Eb E) (Xs E) (nI t) w (37 + 4 * t) K σ1 = K (nI (t + 1)) (wr (wr (wr (wr σ1 (37 + 4 * t) 1 w) (37 + 4 * t) 2 (Xs E)) (37 + 4 * t) 3 0) 22 12 (nI (1000 * (t + 1)))) := by
    intro K w
    unfold fX0_begin_87 fX6_begin
    rw [lt_v, lt_v, lt_v, bd_v, rf_2_1, lt_v, lt_v, nI_1, wr_c (by omega), wr_c (by omega), wr_c (by omega), k1 _ _ (by omega) (by omega), h2212, show (1000 : Int32) = nI 1000 from rfl, nI_add]
    rfl
  have e0 : ∀ K, fX0_begin_38 2 (Ea E) (Eb E) (Xs E) K (nI t) σ = K (nI (t + 1)) (wr (wr (wr (wr σ1 (37 + 4 * t) 1 (Xo E t)) (37 + 4 * t) 2 (Xs E)) (37 + 4 * t) 3 0) 22 12 (nI (1000 * (t + 1)))) := by
    intro K
    unfold fX0_begin_38
    rw [rf_2_0, rf_3_1, h7, if_neg (nle_of ht (by omega)), e1, bd_v, rf_2_3, ln_27, gd5 (by omega), nI_cl (by omega), p0, e87, e87, e87, ← Xo_if hX hnt ht]
    by_cases A : nI t = Ea E
    · rw [if_pos A, if_pos A]
    · rw [if_neg A, if_neg A]
      by_cases B : nI t = Eb E
      · rw [if_pos B, if_pos B]
      · rw [if_neg B, if_neg B]
  refine ⟨_, e0, ?_⟩
  generalize hσ' : wr (wr (wr (wr σ1 (37 + 4 * t) 1 (Xo E t)) (37 + 4 * t) 2 (Xs E)) (37 + 4 * t) 3 0) 22 12 (nI (1000 * (t + 1))) = σ'
  have u1 : ∀ c i, c ≠ 37 + 4 * t → ¬ (c = 22 ∧ i = 12) → σ' c i = σ1 c i := by
    intro c i q1 q2
    rw [← hσ']
    unfold wr
    rw [if_neg q2, if_neg (by omega), if_neg (by omega), if_neg (by omega)]
  have u2 : σ' (37 + 4 * t) 0 = σ1 (37 + 4 * t) 0 := by rw [← hσ', wr_c (by omega), wr_i (by decide), wr_i (by decide), wr_i (by decide)]
  have u3 : σ' (37 + 4 * t) 1 = Xo E t := by rw [← hσ', wr_c (by omega), wr_i (by decide), wr_i (by decide), wr_eq]
  have u4 : σ' (37 + 4 * t) 2 = Xs E := by rw [← hσ', wr_c (by omega), wr_i (by decide), wr_eq]
  have u5 : σ' (37 + 4 * t) 3 = 0 := by rw [← hσ', wr_c (by omega), wr_eq]
  have u6 : σ' 22 12 = nI (1000 * (t + 1)) := by rw [← hσ', wr_eq]
  have v1 : ∀ c i, (c < 28 ∨ 34 < c) → ¬ (c = 2 ∧ i = 13) → c ≠ 37 + 4 * t → ¬ (c = 22 ∧ i = 12) → σ' c i = σ c i := fun c i q1 q2 q3 q4 => by rw [u1 c i q3 q4, k1 c i q1 q2]
  refine ⟨⟨⟨fun c i hc => ?_, fun x hx => ?_, ?_⟩, fun x hx => ?_, fun x q1 q2 => ?_, ?_⟩, fun j hj => ?_, fun j hj => ?_, ?_, ?_, ?_, ?_, u6⟩
  · rw [v1 c i (by omega) (by omega) (by omega) (by omega), f1 c i hc]
  · by_cases z : x = t
    · subst z; rw [u2, k1 _ _ (by omega) (by omega), f2 x hx]
    · rw [v1 _ _ (by omega) (by omega) (by omega) (by omega), f2 x hx]
  · rw [v1 _ _ (by omega) (by omega) (by omega) (by omega), f3]
  · by_cases z : x = t
    · subst z
      refine ⟨BT_congr (fun c q1 q2 => u1 _ _ (by omega) (by omega)) (fun q hq => u1 _ _ (by omega) (by omega)) (by rw [u1 _ _ (by omega) (by omega)]) hB, ⟨?_, u3, u4⟩, u5⟩
      rw [u2, k1 _ _ (by omega) (by omega), f2 x (by omega), hOw x (by omega)]
    · obtain ⟨a1, ⟨a2, a3, a4⟩, a5⟩ := hT x (by omega)
      have hn : n ≤ 7 := hW.1.1.2
      refine ⟨BT_congr (fun c q1 q2 => by rw [u1 _ _ (by omega) (by omega), k3 c x q1 q2 z]) (fun q hq => by rw [u1 _ _ (by omega) (by omega), k4 _ (by omega)]) (by rw [u1 _ _ (by omega) (by omega), k2 x (by omega) z]) a1, ⟨?_, ?_, ?_⟩, ?_⟩
      · rw [v1 _ _ (by omega) (by omega) (by omega) (by omega), a2]
      · rw [v1 _ _ (by omega) (by omega) (by omega) (by omega), a3]
      · rw [v1 _ _ (by omega) (by omega) (by omega) (by omega), a4]
      · rw [v1 _ _ (by omega) (by omega) (by omega) (by omega), a5]
  · rw [u1 _ _ (by omega) (by omega), k2 x q2 (by omega), h13 x (by omega) q2]
  · rw [v1 _ _ (by omega) (by omega) (by omega) (by omega), h14]
  · rw [v1 _ _ (by omega) (by omega) (by omega) (by omega), v1 _ _ (by omega) (by omega) (by omega) (by omega)]
    exact h25 j hj
  · rw [v1 _ _ (by omega) (by omega) (by omega) (by omega), v1 _ _ (by omega) (by omega) (by omega) (by omega)]
    exact h35 j hj
  · rw [v1 _ _ (by omega) (by omega) (by omega) (by omega), h220]
  · rw [v1 _ _ (by omega) (by omega) (by omega) (by omega), h225]
  · rw [v1 _ _ (by omega) (by omega) (by omega) (by omega), h226]
  · rw [v1 _ _ (by omega) (by omega) (by omega) (by omega), h2211]
theorem c_begin {g : Nat → Int32} {E : Option (Nat × Nat × Nat)} {n nt no nf : Nat} {σ : Sg} (hW : Wf g n nt no nf) (hX : Xok E n nt) (hL0 : LR σ 3 g) (hOw : Own σ) (h22 : σ 2 2 = 0) : ∃ σ', fX0_begin 2 (Ea E) (Eb E) (Xs E) σ = some ((), σ') ∧ BC g E n σ nt σ' := by
  have hnt := hW.nt
  generalize h0 : wr (wr (upR (upR (wr (wr (wr (wr (upR (upR (wr σ 22 0 0) 25 0 35 fun _ => -1) 26 0 35 fun _ => -1) 22 5 0) 22 6 0) 22 11 0) 22 12 0) 35 0 14 fun _ => 0) 36 0 14 fun _ => -1000) 2 13 0) 2 14 0 = s0
  have e0 : fX0_begin 2 (Ea E) (Eb E) (Xs E) σ = lq1 (fX0_begin_38 2 (Ea E) (Eb E) (Xs E)) FU 0 s0 := by
    unfold fX0_begin fX1_begin
    rw [rf_2_1, rf_22_3, rf_22_4, rf_2_11, rf_2_12, lt_v, e_fill 25 35 _ ln_25 (by decide), bd_v, e_fill 26 35 _ ln_26 (by decide), bd_v, lt_v, lt_v, lt_v, lt_v, bd_v, e_fill 35 14 _ ln_35 (by decide), bd_v, e_fill 36 14 _ ln_36 (by decide), bd_v, lt_v, lt_v, lt_v, h0]
  have fr : ∀ c i, c ≠ 22 → c ≠ 25 → c ≠ 26 → c ≠ 35 → c ≠ 36 → ¬ (c = 2 ∧ (i = 13 ∨ i = 14)) → s0 c i = σ c i := by
    intro c i q1 q2 q3 q4 q5 q6
    rw [← h0]
    have y : ∀ (s : Sg) c' j v, (c' = 22 ∨ (c' = 2 ∧ (j = 13 ∨ j = 14))) → wr s c' j v c i = s c i := fun s c' j v h => by
      unfold wr
      rw [if_neg (by omega)]
    rw [y _ _ _ _ (by omega), y _ _ _ _ (by omega), upR_c q5, upR_c q4, y _ _ _ _ (by omega), y _ _ _ _ (by omega), y _ _ _ _ (by omega), y _ _ _ _ (by omega), upR_c q3, upR_c q2, y _ _ _ _ (by omega)]
  have hB0 : BC g E n σ 0 s0 := by
    refine ⟨⟨⟨fun c i hc => fr c i (by omega) (by omega) (by omega) (by omega) (by omega) (by omega), fun x hx => fr _ _ (by omega) (by omega) (by omega) (by omega) (by omega) (by omega), by rw [fr _ _ (by omega) (by omega) (by omega) (by omega) (by omega) (by omega), h22]⟩, fun x hx => by omega, fun x _ hx => ?_, ?_⟩, fun j hj => ⟨?_, ?_⟩, fun j hj => ⟨?_, ?_⟩, ?_, ?_, ?_, ?_, ?_⟩
    · rw [← h0, wr_i (by decide), wr_eq, b_0]
    · rw [← h0, wr_eq]
    · rw [← h0, wr_c (by decide), wr_c (by decide), upR_c (by decide), upR_c (by decide), wr_c (by decide), wr_c (by decide), wr_c (by decide), wr_c (by decide), upR_c (by decide), upR_in (by omega) hj]
    · rw [← h0, wr_c (by decide), wr_c (by decide), upR_c (by decide), upR_c (by decide), wr_c (by decide), wr_c (by decide), wr_c (by decide), wr_c (by decide), upR_in (by omega) hj]
    · rw [← h0, wr_c (by decide), wr_c (by decide), upR_c (by decide), upR_in (by omega) hj]
    · rw [← h0, wr_c (by decide), wr_c (by decide), upR_in (by omega) hj]
    · rw [← h0, wr_c (by decide), wr_c (by decide), upR_c (by decide), upR_c (by decide), wr_i (by decide), wr_i (by decide), wr_i (by decide), wr_i (by decide), upR_c (by decide), upR_c (by decide), wr_eq]
    · rw [← h0, wr_c (by decide), wr_c (by decide), upR_c (by decide), upR_c (by decide), wr_i (by decide), wr_i (by decide), wr_i (by decide), wr_eq]
    · rw [← h0, wr_c (by decide), wr_c (by decide), upR_c (by decide), upR_c (by decide), wr_i (by decide), wr_i (by decide), wr_eq]
    · rw [← h0, wr_c (by decide), wr_c (by decide), upR_c (by decide), upR_c (by decide), wr_i (by decide), wr_eq]
    · rw [← h0, wr_c (by decide), wr_c (by decide), upR_c (by decide), upR_c (by decide), wr_eq]; rfl
  obtain ⟨σ', fu, e, hB⟩ := sl1 (b := fX0_begin_38 2 (Ea E) (Eb E) (Xs E)) nt (fun i ρ => BC g E n σ i ρ) (fun i ρ hi hp => begin_step hW hX hL0 hOw hi hp) nt 0 FU s0 (by omega) (by rw [FU_s]; omega) hB0
  refine ⟨σ', ?_, hB⟩
  rw [e0]
  refine Eq.trans e ?_
  have h7 : σ' 7 0 = nI nt := (hB.1.1.1 7 0 (by omega)).trans (hL0.1.2.1.trans hW.2.1.2.1)
  generalize lq1 (fX0_begin_38 2 (Ea E) (Eb E) (Xs E)) fu = KK
  unfold fX0_begin_38
  rw [rf_2_0, rf_3_1, h7, if_pos (nI_le (Nat.le_refl _) (by omega))]
theorem dl_first {g f : Nat → Int32} : ∀ N, (∀ t, t < N → f t = -1) → dl g f N = nI (1000 * N) := by
  intro N
  induction N with
  | zero => intro _; rfl
  | succ N ih =>
    intro h
    show dl g f N + dlt g f N = _
    rw [ih (fun t ht => h t (by omega))]
    unfold dlt
    rw [h N (by omega), if_pos (by decide), show (1000 : Int32) = nI 1000 from rfl, nI_add]
    rfl
/-- both begin alike -/
theorem PM_first {g : Nat → Int32} {E : Option (Nat × Nat × Nat)} {n nt no nf : Nat} {σ0 τ0 σ τ : Sg} (hW : Wf g n nt no nf) (hL0 : LR σ0 3 g) (hB : BC g E n σ0 nt σ) (hF : FrR τ0 τ) (hR : BR g nt τ) : PM g E n nt no σ0 τ0 0 σ τ := by
  have hnt := hW.nt
  have hn : n ≤ 7 := hW.1.1.2
  obtain ⟨⟨hFC, hT, h13, h14⟩, h25, h35, h220, h225, h226, h2211, h2212⟩ := hB
  obtain ⟨r1, r2, r3, r4, r5, r6⟩ := hR
  have hL : LR σ 3 g := LR_congr (fun c q1 q2 => funext fun i => (hFC.1 c i (by omega)).symm) hL0
  refine ⟨⟨⟨hFC, hF⟩, ⟨hL, fun t ht => ?_⟩, ⟨⟨fun i hi => ?_, fun i hi => ?_, fun j hj => ?_⟩, ⟨fun a b h1 h2 => ?_, ?_, ?_⟩, ?_, ?_, fun x h1 h2 => ?_⟩, fun t ht => ?_, fun t ht => ?_⟩, fun a b h1 h2 q => ?_, fun t m' _ q => by omega, h220⟩
  · obtain ⟨⟨-, b1, b2, b3⟩, p, -⟩ := hT t ht
    exact ⟨⟨b1, b2⟩, b3, p⟩
  · rw [(h25 i hi).1, (r2 i hi).1]; exact ⟨rfl, Or.inl rfl⟩
  · rw [(h25 i hi).2, (r2 i hi).2.1]; exact ⟨rfl, Or.inl rfl⟩
  · exact Or.inl ⟨(h35 j hj).2, r3 j hj⟩
  · rw [h225, b_0, r4 _ (by omega)]
    exact ⟨fun q => absurd q (by decide), fun q => absurd rfl q⟩
  · rw [h226, r5]
  · rw [r5]; exact fun q => absurd rfl q
  · rw [h2211, r6]
  · rw [h2212, dl_first nt (fun t ht => (r1 t ht).2.2.2)]
  · rw [h14, b_0]
  · exact ⟨0, (hT t ht).2.2, by omega, fun m' _ q => by omega⟩
  · obtain ⟨⟨⟨b1, b2, ⟨k, hk, ek, b3⟩, b4⟩, -⟩, -⟩ := hT t ht
    obtain ⟨c1, c2, c3, c4⟩ := r1 t ht
    obtain ⟨k', f, d, len, tm, a1, a2, a3, a4, a5, a6, a7, e1, e2, e3, e4, e5⟩ := hW.2.2.2.2.1 t ht
    have hgw := gw_lt e2 e3 (show f < 7 by omega) (show d < 7 by omega)
    have hw : gw g t = nI (if d ≤ f then 1 else 0) := by
      rw [hgw]
      split <;> rfl
    refine ⟨0, 0, if d ≤ f then 1 else 0, 0, 0, ⟨⟨c1, fun q => by omega, by rw [c2, hw]⟩, ⟨c3, fun q => absurd q (by decide)⟩, fun _ => c4, fun q => absurd q (by decide)⟩, ⟨⟨b1, by rw [b2, hw], k, hk, ek, ?_⟩, ⟨b4, fun q => absurd q (by decide)⟩, ?_⟩, ⟨f, d, ⟨e2, e3, a2, a3, a4⟩, ⟨by decide, by decide, rfl⟩, ⟨fun q => absurd q (by decide), fun _ => rfl⟩, fun q => absurd q (by decide), fun q => absurd q (by decide)⟩, ⟨fun _ q hq => ⟨?_, ?_⟩, fun _ q hq => ?_⟩⟩
    · rw [b3, hgw]
      by_cases z : d ≤ f
      · rw [if_pos z, if_pos z]; rfl
      · rw [if_neg z, if_neg z]; rfl
    · rw [h14, b_0]; rfl
    · rw [(r2 _ (by omega)).2.2.1, (h35 _ (by omega)).1, (h35 _ (by omega)).1, b_0]
      exact ⟨fun q => absurd rfl q, fun q => q.elim (fun q => absurd q (by decide)) (fun q => absurd q (by decide))⟩
    · rw [(r2 _ (by omega)).2.2.2, (h35 _ (by split <;> omega)).1, b_0]
      exact ⟨fun q => absurd rfl q, fun q => absurd q (by decide)⟩
    · rw [(h35 _ (by split <;> omega)).1, b_0]
  · rw [(r1 a (by omega)).1] at q; exact absurd q (by decide)
