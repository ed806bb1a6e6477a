/-! PURE: all meets that can be, and the best of them: the class -/
def cm (g : Nat → Int32) (n nt k : Nat) : Bool := decide (k / 7 / 5 < k / 7 % 5) && decide (k / 7 % 5 < nt) && decide (gw g (k / 7 / 5) ≠ gw g (k / 7 % 5)) && decide (k % 7 < n)
theorem cm_iff {g : Nat → Int32} {n nt k : Nat} : cm g n nt k = true ↔ k / 7 / 5 < k / 7 % 5 ∧ k / 7 % 5 < nt ∧ gw g (k / 7 / 5) ≠ gw g (k / 7 % 5) ∧ k % 7 < n := by
  unfold cm
  simp only [Bool.and_eq_true, decide_eq_true_eq, and_assoc]
def cn (f : Nat → Bool) : Nat → Nat
  | 0 => 0
  | k + 1 => cn f k + (if f k = true then 1 else 0)
theorem cn_s1 {f : Nat → Bool} {k : Nat} (h : f k = true) : cn f (k + 1) = cn f k + 1 := by
  show cn f k + (if f k = true then 1 else 0) = _
  rw [if_pos h]
theorem cn_s0 {f : Nat → Bool} {k : Nat} (h : f k = false) : cn f (k + 1) = cn f k := by
  show cn f k + (if f k = true then 1 else 0) = _
  rw [if_neg (by rw [h]; decide)]; rfl
theorem cn_mono {f : Nat → Bool} {j : Nat} : ∀ d, cn f j ≤ cn f (j + d) := by
  intro d
  induction d with
  | zero => exact Nat.le_refl _
  | succ d ih =>
    show cn f j ≤ cn f (j + d) + (if f (j + d) = true then 1 else 0)
    omega
theorem cn_le {f : Nat → Bool} {j k : Nat} (h : j ≤ k) : cn f j ≤ cn f k := by
  obtain ⟨d, rfl⟩ : ∃ d, k = j + d := ⟨k - j, by omega⟩
  exact cn_mono d
theorem cn_lt {f : Nat → Bool} {j k : Nat} (h : j < k) (hj : f j = true) : cn f j < cn f k := by
  have := cn_le (f := f) (show j + 1 ≤ k from h)
  rw [cn_s1 hj] at this
  omega
theorem cn_skip {f : Nat → Bool} {k : Nat} : ∀ d, (∀ j, k ≤ j → j < k + d → f j = false) → cn f (k + d) = cn f k := by
  intro d
  induction d with
  | zero => intro _; rfl
  | succ d ih =>
    intro h
    have := cn_s0 (h (k + d) (by omega) (by omega))
    rw [show k + (d + 1) = k + d + 1 from rfl, this, ih (fun j h1 h2 => h j h1 (by omega))]
theorem cn_surj {f : Nat → Bool} {i : Nat} : ∀ k, i < cn f k → ∃ j, j < k ∧ f j = true ∧ cn f j = i := by
  intro k
  induction k with
  | zero => intro h; exact absurd h (Nat.not_lt_zero _)
  | succ k ih =>
    intro h
    by_cases q : i < cn f k
    · obtain ⟨j, h1, h2, h3⟩ := ih q
      exact ⟨j, by omega, h2, h3⟩
    · by_cases z : f k = true
      · rw [cn_s1 z] at h
        exact ⟨k, by omega, z, by omega⟩
      · rw [cn_s0 (by simpa using z)] at h
        omega
theorem cn_cmp {f h : Nat → Bool} (q : ∀ k, f k = true → h k = true) : ∀ k, cn f k ≤ cn h k := by
  intro k
  induction k with
  | zero => exact Nat.le_refl _
  | succ k ih =>
    by_cases z : f k = true
    · rw [cn_s1 z, cn_s1 (q k z)]; omega
    · rw [cn_s0 (by simpa using z)]
      have := cn_mono (f := h) (j := k) 1
      omega
def wy (b0 b1 b2 b3 b4 : Bool) (i : Nat) : Bool := if i = 0 then b0 else if i = 1 then b1 else if i = 2 then b2 else if i = 3 then b3 else b4
def cm5 (b0 b1 b2 b3 b4 : Bool) (k : Nat) : Bool := decide (k / 7 / 5 < k / 7 % 5) && (wy b0 b1 b2 b3 b4 (k / 7 / 5) != wy b0 b1 b2 b3 b4 (k / 7 % 5))
theorem cm5_42 : ∀ b0 b1 b2 b3 b4 : Bool, cn (cm5 b0 b1 b2 b3 b4) 175 ≤ 42 := by decide +kernel
theorem cm_42 (g : Nat → Int32) (n nt : Nat) : cn (cm g n nt) 175 ≤ 42 := by
  refine Nat.le_trans ?_ (cm5_42 (decide (gw g 0 = 0)) (decide (gw g 1 = 0)) (decide (gw g 2 = 0)) (decide (gw g 3 = 0)) (decide (gw g 4 = 0)))
  refine cn_cmp (fun k hk => ?_) 175
  obtain ⟨h1, h2, h3, h4⟩ := cm_iff.mp hk
  have hw : ∀ i, i < 5 → wy (decide (gw g 0 = 0)) (decide (gw g 1 = 0)) (decide (gw g 2 = 0)) (decide (gw g 3 = 0)) (decide (gw g 4 = 0)) i = decide (gw g i = 0) := by
    intro i hi
    rcases (by omega : i = 0 ∨ i = 1 ∨ i = 2 ∨ i = 3 ∨ i = 4) with rfl | rfl | rfl | rfl | rfl <;> rfl
  unfold cm5
  rw [Bool.and_eq_true, decide_eq_true_eq]
  refine ⟨h1, ?_⟩
  rw [hw _ (by omega), hw _ (by omega), bne_iff_ne]
  intro q
  apply h3
  rcases gw_zo g (k / 7 / 5) with z1 | z1 <;> rcases gw_zo g (k / 7 % 5) with z2 | z2 <;> rw [z1, z2] at q ⊢
  · exact absurd q (by decide)
  · exact absurd q (by decide)
/-- place j is the best of those below k -/
def bst (f : Nat → Bool) (pv : Nat → Int32) (j k : Nat) : Prop := j < k ∧ f j = true ∧ (∀ i, i < k → f i = true → pv j ≤ pv i) ∧ ∀ i, i < j → f i = true → pv j < pv i
theorem bst_u {f : Nat → Bool} {pv : Nat → Int32} {i j k : Nat} (h1 : bst f pv i k) (h2 : bst f pv j k) : i = j := by
  rcases Nat.lt_trichotomy i j with q | q | q
  · exact absurd (h1.2.2.1 j h2.1 h2.2.1) (Int32.not_le.mpr (h2.2.2.2 i q h1.2.1))
  · exact q
  · exact absurd (h2.2.2.1 i h1.1 h1.2.1) (Int32.not_le.mpr (h1.2.2.2 j q h2.2.1))
theorem bst_skip {f : Nat → Bool} {pv : Nat → Int32} {j k : Nat} (hk : f k = false) (h : bst f pv j k) : bst f pv j (k + 1) := by
  refine ⟨by have := h.1; omega, h.2.1, fun i hi hf => ?_, h.2.2.2⟩
  by_cases z : i = k
  · subst z; rw [hk] at hf; exact absurd hf (by decide)
  · exact h.2.2.1 i (by omega) hf
theorem bst_old {f : Nat → Bool} {pv : Nat → Int32} {j k : Nat} (hp : pv j ≤ pv k) (h : bst f pv j k) : bst f pv j (k + 1) := by
  refine ⟨by have := h.1; omega, h.2.1, fun i hi hf => ?_, h.2.2.2⟩
  by_cases z : i = k
  · subst z; exact hp
  · exact h.2.2.1 i (by omega) hf
theorem bst_new {f : Nat → Bool} {pv : Nat → Int32} {j k : Nat} (hk : f k = true) (hp : ¬ pv j ≤ pv k) (h : bst f pv j k) : bst f pv k (k + 1) := by
  have hlt := Int32.not_le.mp hp
  refine ⟨by omega, hk, fun i hi hf => ?_, fun i hi hf => Int32.lt_of_lt_of_le hlt (h.2.2.1 i hi hf)⟩
  by_cases z : i = k
  · subst z; exact Int32.le_refl _
  · exact Int32.le_of_lt (Int32.lt_of_lt_of_le hlt (h.2.2.1 i (by omega) hf))
theorem bst_one {f : Nat → Bool} {pv : Nat → Int32} {k : Nat} (hk : f k = true) (h0 : cn f k = 0) : bst f pv k (k + 1) := by
  have hn : ∀ i, i < k → ¬ f i = true := fun i hi hf => by
    have := cn_lt hi hf
    omega
  refine ⟨by omega, hk, fun i hi hf => ?_, fun i hi hf => absurd hf (hn i hi)⟩
  by_cases z : i = k
  · subst z; exact Int32.le_refl _
  · exact absurd hf (hn i (by omega))
theorem c_canMeet {σ : Sg} {g : Nat → Int32} {n nt no nf k : Nat} (hW : Wf g n nt no nf) (hL : LR σ 3 g) (hk : k < 175) : fX4_canMeet 1 (nI k) σ = some (if cm g n nt k = true then 1 else 0, σ) := by
  have hnt := hW.nt
  have h7 : σ 7 0 = nI nt := hL.1.2.1.trans hW.2.1.2.1
  have h4 : σ 4 0 = nI n := hL.1.1.trans hW.2.1.1
  have hn : n ≤ 7 := hW.1.1.2
  obtain ⟨i1, i2, i3⟩ := c_lesser k hk
  unfold fX4_canMeet fX4_lesserOf fX4_greaterOf fX4_stationOf
  rw [bd_v, lt_v, bd_v, lt_v, i2, i1]
  by_cases A : k / 7 / 5 < k / 7 % 5
  · rw [if_neg (nle_of A (by omega)), rf_1_1, rf_3_1, e9_has (v0 := 7) h7, bd_v]
    by_cases B : k / 7 % 5 < nt
    · rw [ib_t B (by omega), if_neg (by decide), e9_areContrary σ _ _ (by omega) (by omega), bd_v, cw_gw hL (by omega), cw_gw hL (by omega)]
      by_cases C : gw g (k / 7 / 5) = gw g (k / 7 % 5)
      · rw [if_pos C, if_pos rfl, if_neg (fun q => (cm_iff.mp q).2.2.1 C)]; rfl
      · rw [if_neg C, if_neg (by decide), bd_v, i3, rf_3_0, e8_hasStation (v0 := 4) h4, bd_v]
        by_cases D : k % 7 < n
        · rw [ib_t D (by omega), if_neg (by decide), if_pos (cm_iff.mpr ⟨A, B, C, D⟩)]; rfl
        · have : ib (nI (k % 7)) n = 0 := by
            unfold ib
            rw [if_neg (not_lt0 (by omega)), if_pos (nI_le (by omega) (by omega))]
          rw [this, if_pos rfl, if_neg (fun q => D (cm_iff.mp q).2.2.2)]; rfl
    · have : ib (nI (k / 7 % 5)) nt = 0 := by
        unfold ib
        rw [if_neg (not_lt0 (by omega)), if_pos (nI_le (by omega) (by omega))]
      rw [this, if_pos rfl, if_neg (fun q => B (cm_iff.mp q).2.1)]; rfl
  · rw [if_pos (nI_le (by omega) (by omega)), if_neg (fun q => A (cm_iff.mp q).1)]; rfl
theorem c_count {σ : Sg} {g : Nat → Int32} {n nt no nf : Nat} (hW : Wf g n nt no nf) (hL : LR σ 3 g) : fX4_countMeets 1 σ = some (nI (cn (cm g n nt) 175), σ) := by
  have hst : ∀ i (v : Int32) (ρ : Sg), i < 175 → (ρ = σ ∧ v = nI (cn (cm g n nt) i)) → ∃ v' ρ', (∀ K, fX4_countMeets_4 1 K v (nI i) ρ = K v' (nI (i + 1)) ρ') ∧ (ρ' = σ ∧ v' = nI (cn (cm g n nt) (i + 1))) := by
    rintro i v ρ hi ⟨hρ, hv⟩
    refine ⟨_, σ, fun K => ?_, rfl, rfl⟩
    rw [hρ, hv]
    unfold fX4_countMeets_4 fX4_countMeets_25
    rw [if_neg (show ¬ (175 : Int32) ≤ nI i from nle_of (a := 175) hi (by decide)), c_canMeet hW hL hi, bd_v]
    simp only [lt_v, nI_1]
    by_cases A : cm g n nt i = true
    · rw [if_pos A, if_neg (by decide), cn_s1 A]
    · rw [if_neg A, if_pos rfl, cn_s0 (by simpa using A), Int32.add_zero]
  obtain ⟨v, ρ, fu, e, hρ, hv⟩ := sl2 (b := fX4_countMeets_4 1) 175 _ hst 175 0 FU 0 σ (by omega) (by rw [FU_s]; omega) ⟨rfl, rfl⟩
  unfold fX4_countMeets
  rw [lt_v, lt_v]
  refine Eq.trans e ?_
  rw [hρ, hv]
  generalize lq2 (fX4_countMeets_4 1) fu = KK
  unfold fX4_countMeets_4
  rw [if_pos (by decide)]
theorem plK_k {k : Nat} : plK (k / 7 / 5) (k / 7 % 5) (k % 7) = k := by
  unfold plK
  omega
/-- pv gives the prices of all that can be -/
def PV (g : Nat → Int32) (n nt : Nat) (pv : Nat → Int32) : Prop := ∀ k, k < 175 → cm g n nt k = true → Pv g nt (k / 7 / 5) (k / 7 % 5) (k % 7) (pv k)
theorem PV_ex {σ : Sg} {g : Nat → Int32} {n nt no nf : Nat} (hW : Wf g n nt no nf) (hL : LR σ 3 g) (hOw : Own σ) (hO : On σ g) : ∃ pv, PV g n nt pv := by
  have h : ∀ k, ∃ v, cm g n nt k = true → Pv g nt (k / 7 / 5) (k / 7 % 5) (k % 7) v := by
    intro k
    by_cases A : cm g n nt k = true
    · obtain ⟨h1, h2, h3, h4⟩ := cm_iff.mp A
      obtain ⟨v, hv⟩ := Pv_ex hW hL hOw hO h1 h2 h4
      exact ⟨v, fun _ => hv⟩
    · exact ⟨0, fun q => absurd q A⟩
  obtain ⟨pv, hpv⟩ := Classical.axiomOfChoice h
  exact ⟨pv, fun k _ => hpv k⟩
theorem c_priceK {σ0 σ : Sg} {g : Nat → Int32} {n nt no nf k : Nat} {pv : Nat → Int32} (hW : Wf g n nt no nf) (hL0 : LR σ0 3 g) (hO0 : On σ0 g) (hV : PV g n nt pv) (hM : MC g n nt σ0 σ) (hk : k < 175) (hc : cm g n nt k = true) : ∃ σ', fX4_priceAt 1 (nI k) σ = some (pv k, σ') ∧ MC g n nt σ0 σ' := by
  obtain ⟨h1, h2, h3, h4⟩ := cm_iff.mp hc
  have := c_priceAt hW hL0 hO0 hM h1 h2 h4 (hV k hk hc)
  rwa [plK_k] at this
theorem MC.lr {σ0 σ : Sg} {g : Nat → Int32} {n nt : Nat} (hL0 : LR σ0 3 g) (h : MC g n nt σ0 σ) : LR σ 3 g := LR_congr (fun c q1 q2 => funext fun i => (h.1 c i (by omega)).symm) hL0
theorem c_findBest {σ0 σ : Sg} {g : Nat → Int32} {n nt no nf : Nat} {pv : Nat → Int32} (hW : Wf g n nt no nf) (hL0 : LR σ0 3 g) (hO0 : On σ0 g) (hV : PV g n nt pv) (hM : MC g n nt σ0 σ) : ∃ r σ', fX4_findBest 1 σ = some (r, σ') ∧ MC g n nt σ0 σ' ∧ ((cn (cm g n nt) 175 = 0 ∧ r = -1) ∨ ∃ j, bst (cm g n nt) pv j 175 ∧ r = nI j) := by
  have hst : ∀ i (v w : Int32) (ρ : Sg), i < 175 → (MC g n nt σ0 ρ ∧ ((cn (cm g n nt) i = 0 ∧ v = -1) ∨ ∃ j, bst (cm g n nt) pv j i ∧ v = nI j ∧ w = pv j)) → ∃ v' w' ρ', (∀ K, fX4_findBest_6 1 K v w (nI i) ρ = K v' w' (nI (i + 1)) ρ') ∧ (MC g n nt σ0 ρ' ∧ ((cn (cm g n nt) (i + 1) = 0 ∧ v' = -1) ∨ ∃ j, bst (cm g n nt) pv j (i + 1) ∧ v' = nI j ∧ w' = pv j)) := by
    rintro i v w ρ hi ⟨hρ, hv⟩
    have ec := c_canMeet hW (hρ.lr hL0) hi
    have n175 : ¬ (175 : Int32) ≤ nI i := nle_of (a := 175) hi (by decide)
    by_cases A : cm g n nt i = true
    · rw [if_pos A] at ec
      obtain ⟨ρ1, p1, m1⟩ := c_priceK hW hL0 hO0 hV hρ hi A
      rcases hv with ⟨h0, rfl⟩ | ⟨j, hj, rfl, rfl⟩
      · refine ⟨nI i, pv i, ρ1, fun K => ?_, m1, Or.inr ⟨i, bst_one A h0, rfl, rfl⟩⟩
        unfold fX4_findBest_6 fX4_findBest_35 fX4_findBest_43
        rw [if_neg n175, ec, bd_v, if_neg (by decide), if_pos rfl, lt_v, p1, bd_v, lt_v, lt_v, nI_1]
      · have hj175 := hj.1
        by_cases B : pv j ≤ pv i
        · refine ⟨nI j, pv j, ρ1, fun K => ?_, m1, Or.inr ⟨j, bst_old B hj, rfl, rfl⟩⟩
          unfold fX4_findBest_6 fX4_findBest_43
          rw [if_neg n175, ec, bd_v, if_neg (by decide), if_neg (nI_m1 (by omega)), p1, bd_v, if_pos B, lt_v, nI_1]
        · obtain ⟨ρ2, p2, m2⟩ := c_priceK hW hL0 hO0 hV m1 hi A
          refine ⟨nI i, pv i, ρ2, fun K => ?_, m2, Or.inr ⟨i, bst_new A B hj, rfl, rfl⟩⟩
          unfold fX4_findBest_6 fX4_findBest_35 fX4_findBest_43
          rw [if_neg n175, ec, bd_v, if_neg (by decide), if_neg (nI_m1 (by omega)), p1, bd_v, if_neg B, lt_v, p2, bd_v, lt_v, lt_v, nI_1]
    · have A' : cm g n nt i = false := by simpa using A
      rw [if_neg A] at ec
      refine ⟨v, w, ρ, fun K => ?_, hρ, ?_⟩
      · unfold fX4_findBest_6 fX4_findBest_43
        rw [if_neg n175, ec, bd_v, if_pos rfl, lt_v, nI_1]
      · rcases hv with ⟨h0, h1⟩ | ⟨j, hj, h1, h2⟩
        · exact Or.inl ⟨by rw [cn_s0 A', h0], h1⟩
        · exact Or.inr ⟨j, bst_skip A' hj, h1, h2⟩
  obtain ⟨v, w, ρ, fu, e, hρ, hv⟩ := sl3 (b := fX4_findBest_6 1) 175 _ hst 175 0 FU (-1) 0 σ (by omega) (by rw [FU_s]; omega) ⟨hM, Or.inl ⟨rfl, rfl⟩⟩
  refine ⟨v, ρ, ?_, hρ, hv.imp id (fun ⟨j, h1, h2, _⟩ => ⟨j, h1, h2⟩)⟩
  unfold fX4_findBest
  rw [lt_v, lt_v, lt_v]
  refine Eq.trans e ?_
  generalize lq3 (fX4_findBest_6 1) fu = KK
  unfold fX4_findBest_6
  rw [if_pos (by decide)]
