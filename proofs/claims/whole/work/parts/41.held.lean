/-! PURE: which orders a train holds -/
def hh (g : Nat → Int32) (t m k : Nat) : Bool := decide (¬ g (101 + 5 * k + t) < 0 ∧ ¬ nI m < g (101 + 5 * k + t))
def anb (g : Nat → Int32) (H : Nat → Bool) (no k : Nat) : Bool := (List.range no).any fun j => H j && decide (g (41 + 5 * j) = 4 ∧ g (42 + 5 * j) = nI k)
theorem anb_iff {g : Nat → Int32} {H : Nat → Bool} {no k : Nat} : anb g H no k = true ↔ ∃ j, j < no ∧ H j = true ∧ g (41 + 5 * j) = 4 ∧ g (42 + 5 * j) = nI k := by
  unfold anb
  rw [List.any_eq_true]
  constructor
  · rintro ⟨j, h1, h2⟩
    rw [Bool.and_eq_true, decide_eq_true_eq] at h2
    exact ⟨j, List.mem_range.mp h1, h2.1, h2.2⟩
  · rintro ⟨j, h1, h2, h3⟩
    exact ⟨j, List.mem_range.mpr h1, by rw [Bool.and_eq_true, decide_eq_true_eq]; exact ⟨h2, h3⟩⟩
/-- held among the d latest of no orders -/
def hs (g : Nat → Int32) (no t m : Nat) : Nat → Nat → Bool
  | 0 => fun _ => false
  | d + 1 => fun x => if x = no - 1 - d then hh g t m x && !(anb g (hs g no t m d) no x) else hs g no t m d x
/-- train t holds order x in minute m -/
def hE (g : Nat → Int32) (no t m x : Nat) : Bool := hs g no t m no x
theorem hs_rng {g : Nat → Int32} {no t m : Nat} : ∀ d x, d ≤ no → hs g no t m d x = true → no - d ≤ x ∧ x < no := by
  intro d
  induction d with
  | zero => intro x _ h; exact absurd h (by simp [hs])
  | succ d ih =>
    intro x hd h
    unfold hs at h
    by_cases q : x = no - 1 - d
    · omega
    · rw [if_neg q] at h
      have := ih x (by omega) h
      omega
theorem hs_out {g : Nat → Int32} {no t m : Nat} (d x : Nat) (hd : d ≤ no) (h : x < no - d ∨ no ≤ x) : hs g no t m d x = false := by
  rcases hq : hs g no t m d x with _ | _
  · rfl
  · have := hs_rng d x hd hq
    omega
theorem hs_new {g : Nat → Int32} {no t m d : Nat} : hs g no t m (d + 1) (no - 1 - d) = (hh g t m (no - 1 - d) && !(anb g (hs g no t m d) no (no - 1 - d))) := by
  show (if no - 1 - d = no - 1 - d then _ else _) = _
  rw [if_pos rfl]
theorem hs_old {g : Nat → Int32} {no t m d x : Nat} (h : x ≠ no - 1 - d) : hs g no t m (d + 1) x = hs g no t m d x := by
  show (if x = no - 1 - d then _ else _) = _
  rw [if_neg h]
theorem anb_step {g : Nat → Int32} {no t m d k : Nat} (hd : d < no) (hk : k = no - 1 - d) (x : Nat) : anb g (hs g no t m (d + 1)) no x = (anb g (hs g no t m d) no x || (hs g no t m (d + 1) k && decide (g (41 + 5 * k) = 4 ∧ g (42 + 5 * k) = nI x))) := by
  apply Bool.eq_iff_iff.mpr
  rw [Bool.or_eq_true, Bool.and_eq_true, decide_eq_true_eq, anb_iff, anb_iff]
  constructor
  · rintro ⟨j, h1, h2, h3⟩
    by_cases q : j = k
    · subst q; exact Or.inr ⟨h2, h3⟩
    · rw [hs_old (by omega)] at h2
      exact Or.inl ⟨j, h1, h2, h3⟩
  · rintro (⟨j, h1, h2, h3⟩ | ⟨h2, h3⟩)
    · refine ⟨j, h1, ?_, h3⟩
      rw [hs_old (fun q => ?_)]
      · exact h2
      · rw [q, hs_out d _ (by omega) (by omega)] at h2
        exact absurd h2 (by decide)
    · exact ⟨k, by omega, h2, h3⟩
/-- what was handed of order k to train t -/
theorem Wf.hd {g : Nat → Int32} {n nt no nf : Nat} (hW : Wf g n nt no nf) {k t : Nat} (hk : k < no) (ht : t < 5) : g (101 + 5 * k + t) = -1 ∨ ∃ q, q ≤ 400 ∧ g (101 + 5 * k + t) = nI q := hW.2.2.2.2.2.2.1 k t hk ht
theorem hh_m1 {g : Nat → Int32} {t m k : Nat} (h : g (101 + 5 * k + t) = -1) : hh g t m k = false := by
  unfold hh
  rw [h]
  exact decide_eq_false (fun q => q.1 (by decide))
theorem hh_v {g : Nat → Int32} {t m k q : Nat} (h : g (101 + 5 * k + t) = nI q) (hq : q ≤ 400) (hm : m ≤ 500) : hh g t m k = decide (q ≤ m) := by
  unfold hh
  rw [h]
  by_cases z : q ≤ m
  · rw [decide_eq_true z, decide_eq_true ⟨not_lt0 (by omega), nI_nlt z (by omega)⟩]
  · rw [decide_eq_false z, decide_eq_false (fun y => y.2 (nI_lt (by omega) (by omega)))]
theorem WfO.ann {g : Nat → Int32} {n nt o : Nat} (h : WfO g n nt o) (h4 : g (41 + 5 * o) = 4) : ∃ a, a < o ∧ g (42 + 5 * o) = nI a := by
  rcases h with ⟨a, b, s, -, -, -, -, q, -⟩ | ⟨a, v, -, -, -, q, -⟩ | ⟨a, s, v, -, -, -, q, -⟩ | ⟨a, v, -, -, q, -⟩ | ⟨a, q1, -, q2, -⟩
  · rw [h4] at q; exact absurd q (by decide)
  · rw [h4] at q; exact absurd q (by decide)
  · rw [h4] at q; exact absurd q (by decide)
  · rw [h4] at q; exact absurd q (by decide)
  · exact ⟨a, q1, q2⟩
theorem LR.hd {σ : Sg} {g : Nat → Int32} {n nt no nf : Nat} (h : LR σ 3 g) (hW : Wf g n nt no nf) {k t : Nat} (hk : k < no) (ht : t < 5) : σ 19 (5 * k + t) = g (101 + 5 * k + t) := h.2.2.2.2.2.1 k t (by have := hW.1.2.2.1; omega) ht (by rw [hW.2.1.2.2.1]; exact nI_lt hk (by have := hW.1.2.2.1; omega))
theorem LR.or {σ : Sg} {g : Nat → Int32} (h : LR σ 3 g) {k : Nat} (hk : k < 12) : σ 14 k = g (41 + 5 * k) ∧ σ 15 k = g (42 + 5 * k) ∧ σ 16 k = g (43 + 5 * k) ∧ σ 17 k = g (44 + 5 * k) ∧ σ 18 k = g (45 + 5 * k) := by
  obtain ⟨⟨a, b, c⟩, d, e⟩ := h.2.2.2.2.1 k hk
  exact ⟨a, b, c, d, e⟩
def Hbi (g : Nat → Int32) (no t m d : Nat) (v3 v4 : Int32) : Prop := (∀ x, x < 32 → bt v3 x = hs g no t m d x) ∧ ∀ x, x < 32 → bt v4 x = anb g (hs g no t m d) no x
theorem hb_st {σ : Sg} {g : Nat → Int32} {n nt no nf t m : Nat} (hL : LR σ 3 g) (hW : Wf g n nt no nf) (ht : t < 5) (hm : m ≤ 500) (K : Int32 → Int32 → Int32 → Sg → Option (Int32 × Sg)) (j : Nat) (v3 v4 : Int32) (hj : j < no) (hH : Hbi g no t m (no - 1 - j) v3 v4) : ∃ w3 w4, fX5_heldBy_13 13 (nI t) (nI m) K v3 v4 (nI j) σ = K w3 w4 (nI j - 1) σ ∧ Hbi g no t m (no - 1 - j + 1) w3 w4 := by
  have hno : no ≤ 12 := hW.1.2.2.1
  have ek : no - 1 - (no - 1 - j) = j := by omega
  have x5 : nI j * 5 + nI t = nI (5 * j + t) := by rw [show (5 : Int32) = nI 5 from rfl, pk_mul, nI_add, Nat.mul_comm]
  have hv := hL.hd hW hj ht
  have ho := hL.or (show j < 12 by omega)
  have xm : nI j + (-1) = nI j - 1 := by rw [Int32.sub_eq_add_neg]
  have hk0 : bt v4 j = anb g (hs g no t m (no - 1 - j)) no j := hH.2 j (by omega)
  have hnew : hs g no t m (no - 1 - j + 1) j = (hh g t m j && !(anb g (hs g no t m (no - 1 - j)) no j)) := by
    have := hs_new (g := g) (no := no) (t := t) (m := m) (d := no - 1 - j)
    rwa [ek] at this
  have skip : hs g no t m (no - 1 - j + 1) j = false → Hbi g no t m (no - 1 - j + 1) v3 v4 := by
    intro hz
    refine ⟨fun x hx => ?_, fun x hx => ?_⟩
    · by_cases q : x = j
      · subst q
        rw [hz, hH.1 x hx, hs_out _ _ (by omega) (by omega)]
      · rw [hs_old (by omega), hH.1 x hx]
    · rw [anb_step (by omega) ek.symm, hz, Bool.false_and, Bool.or_false, hH.2 x hx]
  unfold fX5_heldBy_13 fX5_heldBy_88
  rw [if_neg (not_lt0 (by omega)), x5, rf_13_6, ln_19, gd_in (n := 60) (by omega) (by decide), lt_v, nI_cl (by omega), hv]
  simp only [lt_v, xm, rf_13_1, rf_13_2, ln_14, ln_15, nI_cl (show j < 2147483648 by omega), ho.1, ho.2.1]
  rcases hW.hd hj ht with e | ⟨q, hq, e⟩
  · rw [e, if_pos rfl]
    exact ⟨v3, v4, rfl, skip (by rw [hnew, hh_m1 e]; rfl)⟩
  · have hq1 : hh g t m j = decide (q ≤ m) := hh_v e hq hm
    rw [e, if_neg (show ¬ nI q = -1 from fun z => by have := congrArg Int32.toInt z; rw [nI_toInt (by omega), show (-1 : Int32).toInt = -1 from by decide] at this; omega)]
    by_cases z : q ≤ m
    · rw [if_neg (nI_nlt z (by omega))]
      by_cases y : bt v4 j = false
      · rw [if_pos ((bt_test v4 j (by omega)).mpr y), gd_in (n := 12) (by omega) (by decide)]
        have hz : hs g no t m (no - 1 - j + 1) j = true := by rw [hnew, hq1, decide_eq_true z, ← hk0, y]; rfl
        have h3 : ∀ x, x < 32 → bt (v3 ||| ((1 : Int32) <<< (nI j &&& 31))) x = hs g no t m (no - 1 - j + 1) x := by
          intro x hx
          rw [bt_set _ _ _ (by omega) hx, hH.1 x hx]
          by_cases w : j = x
          · subst w; rw [hz, decide_eq_true rfl, Bool.or_true]
          · rw [decide_eq_false w, Bool.or_false, hs_old (by omega)]
        by_cases w : g (41 + 5 * j) = 4
        · rw [if_pos w, gd_in (n := 12) (by omega) (by decide)]
          obtain ⟨a, ha, ea⟩ := (hW.2.2.2.2.2.1 j hj).ann w
          rw [ea]
          refine ⟨_, _, rfl, h3, fun x hx => ?_⟩
          rw [bt_set _ _ _ (by omega) hx, hH.2 x hx, anb_step (by omega) ek.symm, hz, Bool.true_and]
          congr 1
          by_cases u : a = x
          · subst u; rw [decide_eq_true rfl, decide_eq_true ⟨w, ea⟩]
          · rw [decide_eq_false u, decide_eq_false (fun y => u (by have := y.2; rw [ea] at this; exact (nI_eq (by omega) (by omega)).mp this))]
        · rw [if_neg w]
          refine ⟨_, _, rfl, h3, fun x hx => ?_⟩
          rw [hH.2 x hx, anb_step (by omega) ek.symm, decide_eq_false (fun y => w y.1), Bool.and_false, Bool.or_false]
      · rw [if_neg (fun h => y ((bt_test v4 j (by omega)).mp h))]
        exact ⟨v3, v4, rfl, skip (by rw [hnew, ← hk0, (Bool.not_eq_false _).mp y]; simp)⟩
    · rw [if_pos (nI_lt (by omega) (by omega))]
      exact ⟨v3, v4, rfl, skip (by rw [hnew, hq1, decide_eq_false z]; rfl)⟩
theorem hb_lp {σ : Sg} {g : Nat → Int32} {n nt no nf t m : Nat} (hL : LR σ 3 g) (hW : Wf g n nt no nf) (ht : t < 5) (hm : m ≤ 500) : ∀ j fu v3 v4, j < fu → j ≤ no → Hbi g no t m (no - j) v3 v4 → ∃ r, lq3 (fX5_heldBy_13 13 (nI t) (nI m)) fu v3 v4 (nI j - 1) σ = some (r, σ) ∧ ∀ x, x < 32 → bt r x = hE g no t m x := by
  have hno : no ≤ 12 := hW.1.2.2.1
  intro j
  induction j with
  | zero =>
    intro fu v3 v4 hf hj hH
    obtain ⟨fu, rfl⟩ : ∃ k, fu = k + 1 := ⟨fu - 1, by omega⟩
    refine ⟨v3, ?_, fun x hx => hH.1 x hx⟩
    change fX5_heldBy_13 13 _ _ _ _ _ _ _ = _
    unfold fX5_heldBy_13
    rw [if_pos (by decide)]
  | succ j ih =>
    intro fu v3 v4 hf hj hH
    obtain ⟨fu, rfl⟩ : ∃ k, fu = k + 1 := ⟨fu - 1, by omega⟩
    rw [nI_pred]
    obtain ⟨w3, w4, e, hH2⟩ := hb_st hL hW ht hm (lq3 (fX5_heldBy_13 13 (nI t) (nI m)) fu) j v3 v4 (by omega) (by rwa [show no - 1 - j = no - (j + 1) by omega])
    obtain ⟨r, e2, h2⟩ := ih fu w3 w4 (by omega) (by omega) (by rwa [show no - j = no - 1 - j + 1 by omega])
    exact ⟨r, e.trans e2, h2⟩
/-- the class's set of orders that a train holds -/
theorem e5_heldBy {σ : Sg} {g : Nat → Int32} {n nt no nf t m : Nat} (hL : LR σ 3 g) (hW : Wf g n nt no nf) (ht : t < 5) (hm : m ≤ 500) : ∃ r, fX5_heldBy 13 (nI t) (nI m) σ = some (r, σ) ∧ ∀ x, x < 32 → bt r x = hE g no t m x := by
  have hno : no ≤ 12 := hW.1.2.2.1
  have h13 : σ 13 0 = nI no := hL.1.2.2.1.trans hW.2.1.2.2.1
  unfold fX5_heldBy
  rw [lt_v, lt_v, lt_v, h13]
  refine hb_lp hL hW ht hm no FU 0 0 (by rw [FU_s]; omega) (by omega) ?_
  rw [Nat.sub_self]
  refine ⟨fun x hx => ?_, fun x hx => ?_⟩
  · rw [b_0]; rfl
  · rw [b_0]
    rcases hq : anb g (hs g no t m 0) no x with _ | _
    · rfl
    · obtain ⟨j, -, h2, -⟩ := anb_iff.mp hq
      exact absurd h2 (by simp [hs])
