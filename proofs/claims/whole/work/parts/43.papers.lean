/-! PURE: what the papers of a train tell it -/
theorem rf_pap : ∀ t, t < 5 → (rf 27 t = 37 + 4 * t ∧ rf (37 + 4 * t) 5 = 38 + 4 * t ∧ rf (37 + 4 * t) 6 = 39 + 4 * t ∧ rf (37 + 4 * t) 7 = 40 + 4 * t) ∧ ln (38 + 4 * t) = 5 ∧ ln (39 + 4 * t) = 7 ∧ ln (40 + 4 * t) = 7 := by decide +kernel
theorem nI_m1 {q : Nat} (h : q < 2147483648) : ¬ nI q = -1 := fun z => by
  have := congrArg Int32.toInt z
  rw [nI_toInt h, show (-1 : Int32).toInt = -1 from by decide] at this
  omega
def lsm (g : Nat → Int32) (H : Nat → Bool) (a : Nat) : Nat → Int32
  | 0 => 0
  | k + 1 => lsm g H a k + (if H k = true ∧ g (41 + 5 * k) = 1 ∧ g (42 + 5 * k) = nI a then g (45 + 5 * k) else 0)
def wmx (g : Nat → Int32) (H : Nat → Bool) (t s : Nat) : Nat → Int32
  | 0 => 0
  | k + 1 => if H k = true ∧ g (41 + 5 * k) = 2 ∧ g (42 + 5 * k) = nI t ∧ g (44 + 5 * k) = nI s ∧ ¬ g (45 + 5 * k) ≤ wmx g H t s k then g (45 + 5 * k) else wmx g H t s k
def rmn (g : Nat → Int32) (H : Nat → Bool) (t : Nat) : Nat → Int32
  | 0 => 501
  | k + 1 => if H k = true ∧ g (41 + 5 * k) = 3 ∧ g (42 + 5 * k) = nI t ∧ ¬ rmn g H t k ≤ g (45 + 5 * k) then g (45 + 5 * k) else rmn g H t k
/-- order k is a meet of t and o -/
def mt1 (g : Nat → Int32) (t o k : Nat) : Prop := g (41 + 5 * k) = 0 ∧ ((g (42 + 5 * k) = nI t ∧ g (43 + 5 * k) = nI o) ∨ (g (42 + 5 * k) = nI o ∧ g (43 + 5 * k) = nI t))
def mtb (g : Nat → Int32) (H : Nat → Bool) (t s o N : Nat) : Prop := ∃ k, k < N ∧ H k = true ∧ g (44 + 5 * k) = nI s ∧ mt1 g t o k
theorem mtb_s {g : Nat → Int32} {H : Nat → Bool} {t s o N : Nat} : mtb g H t s o (N + 1) ↔ mtb g H t s o N ∨ (H N = true ∧ g (44 + 5 * N) = nI s ∧ mt1 g t o N) := by
  constructor
  · rintro ⟨k, h1, h2⟩
    by_cases q : k = N
    · subst q; exact Or.inr h2
    · exact Or.inl ⟨k, by omega, h2⟩
  · rintro (⟨k, h1, h2⟩ | h2)
    · exact ⟨k, by omega, h2⟩
    · exact ⟨N, by omega, h2⟩
/-- the rows of train t's papers, by its N first orders -/
def PapC (σ : Sg) (g : Nat → Int32) (t : Nat) (H : Nat → Bool) (N : Nat) : Prop := (∀ a, a < 5 → σ (38 + 4 * t) a = lsm g H a N) ∧ (∀ s, s < 7 → σ (39 + 4 * t) s = wmx g H t s N) ∧ σ (37 + 4 * t) 4 = rmn g H t N ∧ ∀ s o, s < 7 → o < 32 → (bt (σ (40 + 4 * t) s) o = true ↔ mtb g H t s o N)
theorem PapC_skip {σ : Sg} {g : Nat → Int32} {t : Nat} {H : Nat → Bool} {N : Nat} (hk : H N = false) (h : PapC σ g t H N) : PapC σ g t H (N + 1) := by
  have hk' : ∀ P : Prop, ¬ (H N = true ∧ P) := fun P q => by rw [hk] at q; exact absurd q.1 (by decide)
  obtain ⟨h1, h2, h3, h4⟩ := h
  refine ⟨fun a ha => ?_, fun s hs => ?_, ?_, fun s o hs ho => ?_⟩
  · rw [h1 a ha]
    show _ = lsm g H a N + (if _ then _ else _)
    rw [if_neg (hk' _), Int32.add_zero]
  · rw [h2 s hs]
    show _ = (if _ then _ else _)
    rw [if_neg (hk' _)]
  · rw [h3]
    show _ = (if _ then _ else _)
    rw [if_neg (hk' _)]
  · rw [h4 s o hs ho, mtb_s]
    exact ⟨Or.inl, fun q => q.resolve_right (hk' _)⟩
theorem PapC_step {σ τ : Sg} {g : Nat → Int32} {t : Nat} {H : Nat → Bool} {N : Nat} (hk : H N = true) (h : PapC σ g t H N)
    (h1 : ∀ a, a < 5 → τ (38 + 4 * t) a = σ (38 + 4 * t) a + (if g (41 + 5 * N) = 1 ∧ g (42 + 5 * N) = nI a then g (45 + 5 * N) else 0))
    (h2 : ∀ s, s < 7 → τ (39 + 4 * t) s = if g (41 + 5 * N) = 2 ∧ g (42 + 5 * N) = nI t ∧ g (44 + 5 * N) = nI s ∧ ¬ g (45 + 5 * N) ≤ σ (39 + 4 * t) s then g (45 + 5 * N) else σ (39 + 4 * t) s)
    (h3 : τ (37 + 4 * t) 4 = if g (41 + 5 * N) = 3 ∧ g (42 + 5 * N) = nI t ∧ ¬ σ (37 + 4 * t) 4 ≤ g (45 + 5 * N) then g (45 + 5 * N) else σ (37 + 4 * t) 4)
    (h4 : ∀ s o, s < 7 → o < 32 → (bt (τ (40 + 4 * t) s) o = true ↔ bt (σ (40 + 4 * t) s) o = true ∨ (g (44 + 5 * N) = nI s ∧ mt1 g t o N))) : PapC τ g t H (N + 1) := by
  obtain ⟨k1, k2, k3, k4⟩ := h
  refine ⟨fun a ha => ?_, fun s hs => ?_, ?_, fun s o hs ho => ?_⟩
  · rw [h1 a ha, k1 a ha]
    show _ = lsm g H a N + (if _ then _ else _)
    simp only [hk, true_and]
  · rw [h2 s hs, k2 s hs]
    show _ = (if _ then _ else _)
    simp only [hk, true_and]
  · rw [h3, k3]
    show _ = (if _ then _ else _)
    simp only [hk, true_and]
  · rw [h4 s o hs ho, k4 s o hs ho, mtb_s]
    simp only [hk, true_and]
theorem e6_take {σ : Sg} {g : Nat → Int32} {n nt no nf t k : Nat} {H : Nat → Bool} (hL : LR σ 3 g) (hW : Wf g n nt no nf) (ht : t < nt) (hk : k < no) (h0 : σ (37 + 4 * t) 0 = nI t) (hH : H k = true) (hP : PapC σ g t H k) : ∃ τ, fX6_take (37 + 4 * t) 13 (nI k) σ = some ((), τ) ∧ PapC τ g t H (k + 1) ∧ (∀ c i, (c < 37 + 4 * t ∨ 40 + 4 * t < c) → τ c i = σ c i) ∧ ∀ i, i < 4 → τ (37 + 4 * t) i = σ (37 + 4 * t) i := by
  have hno : no ≤ 12 := hW.1.2.2.1
  have hnt : nt ≤ 5 := hW.1.2.1
  have hn : n ≤ 7 := hW.1.1.2
  obtain ⟨⟨-, p1, p2, p3⟩, q1, q2, q3⟩ := rf_pap t (by omega)
  obtain ⟨o1, o2, o3, o4, o5⟩ := hL.or (show k < 12 by omega)
  have hg : ∀ {F : Option (Unit × Sg)}, gd (inR (nI k) 12) F = F := fun {F} => gd_in (n := 12) (by omega) (by decide)
  unfold fX6_take fX6_take_36
  simp only [lt_v, rf_13_1, rf_13_2, rf_13_3, rf_13_4, rf_13_5, ln_14, ln_15, ln_16, ln_17, ln_18, p1, p2, p3, q1, q2, q3, nI_cl (show k < 2147483648 by omega), o1, o2, o3, o4, o5, h0, hg]
  rcases hW.2.2.2.2.2.1 k hk with ⟨a, b, s, ha, hb, hab, hs, e1, e2, e3, e4, e5⟩ | ⟨a, v, ha, hv0, hv, e1, e2, e3, e4, e5⟩ | ⟨a, s, v, ha, hs, hv, e1, e2, e3, e4, e5⟩ | ⟨a, v, ha, hv, e1, e2, e3, e4, e5⟩ | ⟨a, ha, e1, e2, e3, e4, e5⟩
  · -- meet
    have fr1 : ∀ (x : Int32), x ≠ 0 → g (41 + 5 * k) ≠ x := fun x hx h => hx (by rw [← h, e1])
    have hg7 : ∀ {F : Option (Unit × Sg)}, gd (inR (nI s) 7) F = F := fun {F} => gd_in (n := 7) (by omega) (by decide)
    have main : ∀ y, y < nt → (∀ o, o < 32 → (mt1 g t o k ↔ y = o)) → ∃ τ, some ((), wr σ (40 + 4 * t) s (σ (40 + 4 * t) s ||| ((1 : Int32) <<< (nI y &&& 31)))) = some ((), τ) ∧ PapC τ g t H (k + 1) ∧ (∀ c i, (c < 37 + 4 * t ∨ 40 + 4 * t < c) → τ c i = σ c i) ∧ ∀ i, i < 4 → τ (37 + 4 * t) i = σ (37 + 4 * t) i := by
      intro y hy hm
      refine ⟨_, rfl, PapC_step hH hP (fun x hx => ?_) (fun x hx => ?_) ?_ (fun x o hx ho => ?_), fun c i hc => wr_c (by omega), fun i hi => wr_c (by omega)⟩
      · rw [wr_c (by omega), if_neg (fun h => fr1 1 (by decide) h.1), Int32.add_zero]
      · rw [wr_c (by omega), if_neg (fun h => fr1 2 (by decide) h.1)]
      · rw [wr_c (by omega), if_neg (fun h => fr1 3 (by decide) h.1)]
      · rw [e4, hm o ho]
        by_cases z : x = s
        · subst z
          rw [wr_eq, bt_set _ _ _ (by omega) ho, Bool.or_eq_true, decide_eq_true_eq]
          exact ⟨fun h => h.imp id (fun h => ⟨rfl, h⟩), fun h => h.imp id (fun h => h.2)⟩
        · rw [wr_i z]
          exact ⟨Or.inl, fun h => h.resolve_right (fun q => z ((nI_eq (by omega) (by omega)).mp q.1).symm)⟩
    rw [e1, e2, e3, e4, if_pos rfl]
    have inj : ∀ {x y : Nat}, x < 5 → y < 32 → nI x = nI y → x = y := fun h1 h2 h => (nI_eq (by omega) (by omega)).mp h
    by_cases A : a = t
    · subst A
      rw [if_pos rfl, if_neg (by decide), hg7, hg7, nI_cl (by omega)]
      refine main b hb (fun o ho => ?_)
      unfold mt1
      rw [e1, e2, e3]
      constructor
      · rintro ⟨-, ⟨-, h⟩ | ⟨h, h'⟩⟩
        · exact inj (by omega) ho h
        · exact absurd (inj (by omega) (by omega) h').symm hab
      · rintro rfl
        exact ⟨rfl, Or.inl ⟨rfl, rfl⟩⟩
    · rw [if_neg (fun h => A (inj (by omega) (by omega) h)), if_pos trivial]
      by_cases B : b = t
      · subst B
        rw [if_pos rfl, hg7, hg7, nI_cl (by omega), if_pos rfl]
        refine main a ha (fun o ho => ?_)
        unfold mt1
        rw [e1, e2, e3]
        constructor
        · rintro ⟨-, ⟨h, -⟩ | ⟨h, -⟩⟩
          · exact absurd (inj (by omega) (by omega) h) A
          · exact inj (by omega) ho h
        · rintro rfl
          exact ⟨rfl, Or.inr ⟨rfl, rfl⟩⟩
      · rw [if_neg (fun h => B (inj (by omega) (by omega) h))]
        refine ⟨σ, rfl, PapC_step hH hP (fun x hx => ?_) (fun x hx => ?_) ?_ (fun x o hx ho => ?_), fun c i hc => rfl, fun i hi => rfl⟩
        · rw [if_neg (fun h => fr1 1 (by decide) h.1), Int32.add_zero]
        · rw [if_neg (fun h => fr1 2 (by decide) h.1)]
        · rw [if_neg (fun h => fr1 3 (by decide) h.1)]
        · refine ⟨Or.inl, fun h => h.resolve_right (fun q => ?_)⟩
          obtain ⟨-, -, h⟩ := q
          rw [e2, e3] at h
          rcases h with ⟨h, -⟩ | ⟨-, h⟩
          · exact A (inj (by omega) (by omega) h)
          · exact B (inj (by omega) (by omega) h)
  · -- late
    have fr1 : ∀ (x : Int32), x ≠ 1 → g (41 + 5 * k) ≠ x := fun x hx h => hx (by rw [← h, e1])
    have hg5 : ∀ {F : Option (Unit × Sg)}, gd (inR (nI a) 5) F = F := fun {F} => gd_in (n := 5) (by omega) (by decide)
    rw [e1, e2, e5]
    simp only [show ¬ (1 : Int32) = 0 from by decide, if_false, if_true, hg5, nI_cl (show a < 2147483648 by omega)]
    have main : ∃ τ, some ((), wr σ (38 + 4 * t) a (σ (38 + 4 * t) a + nI v)) = some ((), τ) ∧ PapC τ g t H (k + 1) ∧ (∀ c i, (c < 37 + 4 * t ∨ 40 + 4 * t < c) → τ c i = σ c i) ∧ ∀ i, i < 4 → τ (37 + 4 * t) i = σ (37 + 4 * t) i := by
      refine ⟨_, rfl, PapC_step hH hP (fun x hx => ?_) (fun x hx => ?_) ?_ (fun x o hx ho => ?_), fun c i hc => wr_c (by omega), fun i hi => wr_c (by omega)⟩
      · rw [e1, e2, e5]
        by_cases z : x = a
        · subst z; rw [wr_eq, if_pos ⟨rfl, rfl⟩]
        · rw [wr_i z, if_neg (fun h => z ((nI_eq (by omega) (by omega)).mp h.2).symm), Int32.add_zero]
      · rw [wr_c (by omega), if_neg (fun h => fr1 2 (by decide) h.1)]
      · rw [wr_c (by omega), if_neg (fun h => fr1 3 (by decide) h.1)]
      · rw [wr_c (by omega)]
        exact ⟨Or.inl, fun h => h.resolve_right (fun q => fr1 0 (by decide) q.2.1)⟩
    split <;> exact main
  · -- wait
    have fr1 : ∀ (x : Int32), x ≠ 2 → g (41 + 5 * k) ≠ x := fun x hx h => hx (by rw [← h, e1])
    have hg7 : ∀ {F : Option (Unit × Sg)}, gd (inR (nI s) 7) F = F := fun {F} => gd_in (n := 7) (by omega) (by decide)
    have main : ∀ w : Int32, (w = if g (42 + 5 * k) = nI t ∧ ¬ g (45 + 5 * k) ≤ σ (39 + 4 * t) s then g (45 + 5 * k) else σ (39 + 4 * t) s) → ∃ τ, some ((), wr σ (39 + 4 * t) s w) = some ((), τ) ∧ PapC τ g t H (k + 1) ∧ (∀ c i, (c < 37 + 4 * t ∨ 40 + 4 * t < c) → τ c i = σ c i) ∧ ∀ i, i < 4 → τ (37 + 4 * t) i = σ (37 + 4 * t) i := by
      intro w hw
      refine ⟨_, rfl, PapC_step hH hP (fun x hx => ?_) (fun x hx => ?_) ?_ (fun x o hx ho => ?_), fun c i hc => wr_c (by omega), fun i hi => wr_c (by omega)⟩
      · rw [wr_c (by omega), if_neg (fun h => fr1 1 (by decide) h.1), Int32.add_zero]
      · by_cases z : x = s
        · subst z
          rw [wr_eq, hw]
          simp only [e1, e4, true_and]
        · rw [wr_i z, if_neg (fun h => z ((nI_eq (by omega) (by omega)).mp (e4.symm.trans h.2.2.1)).symm)]
      · rw [wr_c (by omega), if_neg (fun h => fr1 3 (by decide) h.1)]
      · rw [wr_c (by omega)]
        exact ⟨Or.inl, fun h => h.resolve_right (fun q => fr1 0 (by decide) q.2.1)⟩
    rw [e1, e4]
    simp only [show ¬ (2 : Int32) = 0 from by decide, show ¬ (2 : Int32) = 1 from by decide, show ¬ (1 : Int32) = 0 from by decide, if_false, if_true, hg7, nI_cl (show s < 2147483648 by omega)]
    by_cases A : g (42 + 5 * k) = nI t
    · rw [if_pos A]
      by_cases B : g (45 + 5 * k) ≤ σ (39 + 4 * t) s
      · rw [if_pos B]
        exact main _ (by rw [if_neg (fun h => h.2 B)])
      · rw [if_neg B]
        exact main _ (by rw [if_pos ⟨A, B⟩])
    · rw [if_neg A]
      exact main _ (by rw [if_neg (fun h => A h.1)])
  · -- run
    have fr1 : ∀ (x : Int32), x ≠ 3 → g (41 + 5 * k) ≠ x := fun x hx h => hx (by rw [← h, e1])
    have main : ∀ w : Int32, (w = if g (42 + 5 * k) = nI t ∧ ¬ σ (37 + 4 * t) 4 ≤ g (45 + 5 * k) then g (45 + 5 * k) else σ (37 + 4 * t) 4) → ∃ τ, some ((), wr σ (37 + 4 * t) 4 w) = some ((), τ) ∧ PapC τ g t H (k + 1) ∧ (∀ c i, (c < 37 + 4 * t ∨ 40 + 4 * t < c) → τ c i = σ c i) ∧ ∀ i, i < 4 → τ (37 + 4 * t) i = σ (37 + 4 * t) i := by
      intro w hw
      refine ⟨_, rfl, PapC_step hH hP (fun x hx => ?_) (fun x hx => ?_) ?_ (fun x o hx ho => ?_), fun c i hc => wr_c (by omega), fun i hi => wr_i (by omega)⟩
      · rw [wr_c (by omega), if_neg (fun h => fr1 1 (by decide) h.1), Int32.add_zero]
      · rw [wr_c (by omega), if_neg (fun h => fr1 2 (by decide) h.1)]
      · rw [wr_eq, hw]
        simp only [e1, true_and]
      · rw [wr_c (by omega)]
        exact ⟨Or.inl, fun h => h.resolve_right (fun q => fr1 0 (by decide) q.2.1)⟩
    rw [e1]
    simp only [show ¬ (3 : Int32) = 0 from by decide, show ¬ (3 : Int32) = 1 from by decide, show ¬ (3 : Int32) = 2 from by decide, show ¬ (1 : Int32) = 0 from by decide, if_false, if_true]
    by_cases A : g (42 + 5 * k) = nI t
    · rw [if_pos A]
      by_cases B : σ (37 + 4 * t) 4 ≤ g (45 + 5 * k)
      · rw [if_pos B]
        exact main _ (by rw [if_neg (fun h => h.2 B)])
      · rw [if_neg B]
        exact main _ (by rw [if_pos ⟨A, B⟩])
    · rw [if_neg A]
      exact main _ (by rw [if_neg (fun h => A h.1)])
  · -- annul
    have fr1 : ∀ (x : Int32), x ≠ 4 → g (41 + 5 * k) ≠ x := fun x hx h => hx (by rw [← h, e1])
    rw [e1]
    simp only [show ¬ (4 : Int32) = 0 from by decide, show ¬ (4 : Int32) = 1 from by decide, show ¬ (4 : Int32) = 2 from by decide, show ¬ (4 : Int32) = 3 from by decide, if_false]
    have main : ∃ τ, some ((), σ) = some ((), τ) ∧ PapC τ g t H (k + 1) ∧ (∀ c i, (c < 37 + 4 * t ∨ 40 + 4 * t < c) → τ c i = σ c i) ∧ ∀ i, i < 4 → τ (37 + 4 * t) i = σ (37 + 4 * t) i := by
      refine ⟨σ, rfl, PapC_step hH hP (fun x hx => ?_) (fun x hx => ?_) ?_ (fun x o hx ho => ?_), fun c i hc => rfl, fun i hi => rfl⟩
      · rw [if_neg (fun h => fr1 1 (by decide) h.1), Int32.add_zero]
      · rw [if_neg (fun h => fr1 2 (by decide) h.1)]
      · rw [if_neg (fun h => fr1 3 (by decide) h.1)]
      · exact ⟨Or.inl, fun h => h.resolve_right (fun q => fr1 0 (by decide) q.2.1)⟩
    split <;> exact main
