/-! PURE: cause -/
/-- order k is about trains x and y -/
def abt (g : Nat → Int32) (x y k : Nat) : Prop := (g (41 + 5 * k) = 0 ∧ ((g (42 + 5 * k) = nI x ∧ g (43 + 5 * k) = nI y) ∨ (g (42 + 5 * k) = nI y ∧ g (43 + 5 * k) = nI x))) ∨ (g (41 + 5 * k) ≠ 0 ∧ g (41 + 5 * k) ≠ 4 ∧ (g (42 + 5 * k) = nI x ∨ g (42 + 5 * k) = nI y))
theorem c_isAbout {σ : Sg} {g : Nat → Int32} {n nt no nf x y k : Nat} (hW : Wf g n nt no nf) (hL : LR σ 3 g) (hk : k < no) (hxy : x < y) (hy : y < nt) : ∃ b : Int32, fX5_isAbout 13 (nI k) (nI x) (nI y) σ = some (b, σ) ∧ ((b = 0 ∧ ¬ abt g x y k) ∨ (b = 1 ∧ abt g x y k)) := by
  have hno := hW.no
  have hnt := hW.nt
  obtain ⟨o1, o2, o3, o4, o5⟩ := hL.or (show k < 12 by omega)
  have hg : ∀ {F : Option (Int32 × Sg)}, gd (inR (nI k) 12) F = F := fun {F} => gd_in (n := 12) (by omega) (by decide)
  unfold fX5_isAbout fX5_isAbout_32 fX5_isAbout_37 abt
  simp only [lt_v, rf_13_1, rf_13_2, rf_13_3, ln_14, ln_15, ln_16, hg, nI_cl (show k < 2147483648 by omega), o1, o2, o3, gd_zo0, gd_zo1, gd_oT, gd_To, if_neg (show ¬ (1 : Int32) = 0 by decide), if_true]
  have inj : ∀ {x y : Nat}, x < 5 → y < 5 → (nI x = nI y ↔ x = y) := fun h1 h2 => nI_eq (by omega) (by omega)
  have other : ∀ (f : Int32), g (41 + 5 * k) = f → f ≠ 0 → f ≠ 4 → ∃ b : Int32, (if g (41 + 5 * k) = 4 then some ((0 : Int32), σ) else if g (42 + 5 * k) = nI x then (if g (41 + 5 * k) = 0 then (if g (43 + 5 * k) = nI x then some (1, σ) else if g (43 + 5 * k) = nI y then some (1, σ) else some (0, σ)) else some (1, σ)) else if g (42 + 5 * k) = nI y then (if g (41 + 5 * k) = 0 then (if g (43 + 5 * k) = nI x then some (1, σ) else if g (43 + 5 * k) = nI y then some (1, σ) else some (0, σ)) else some (1, σ)) else if g (41 + 5 * k) = 0 then some (0, σ) else some (0, σ)) = some (b, σ) ∧ ((b = 0 ∧ ¬ ((g (41 + 5 * k) = 0 ∧ ((g (42 + 5 * k) = nI x ∧ g (43 + 5 * k) = nI y) ∨ (g (42 + 5 * k) = nI y ∧ g (43 + 5 * k) = nI x))) ∨ (g (41 + 5 * k) ≠ 0 ∧ g (41 + 5 * k) ≠ 4 ∧ (g (42 + 5 * k) = nI x ∨ g (42 + 5 * k) = nI y)))) ∨ (b = 1 ∧ ((g (41 + 5 * k) = 0 ∧ ((g (42 + 5 * k) = nI x ∧ g (43 + 5 * k) = nI y) ∨ (g (42 + 5 * k) = nI y ∧ g (43 + 5 * k) = nI x))) ∨ (g (41 + 5 * k) ≠ 0 ∧ g (41 + 5 * k) ≠ 4 ∧ (g (42 + 5 * k) = nI x ∨ g (42 + 5 * k) = nI y))))) := by
    intro f hf h0 h4
    rw [hf, if_neg h4, if_neg h0, if_neg h0]
    by_cases A : g (42 + 5 * k) = nI x
    · rw [if_pos A]
      exact ⟨1, rfl, Or.inr ⟨rfl, Or.inr ⟨h0, h4, Or.inl A⟩⟩⟩
    · rw [if_neg A]
      by_cases B : g (42 + 5 * k) = nI y
      · rw [if_pos B]
        exact ⟨1, rfl, Or.inr ⟨rfl, Or.inr ⟨h0, h4, Or.inr B⟩⟩⟩
      · rw [if_neg B]
        exact ⟨0, rfl, Or.inl ⟨rfl, fun h => h.elim (fun h => h0 h.1) (fun h => h.2.2.elim A B)⟩⟩
  rcases hW.2.2.2.2.2.1 k hk with ⟨a, b, s, ha, hb, hab, hs, e1, e2, e3, e4, e5⟩ | ⟨a, v, ha, hv0, hv, e1, e2, e3, e4, e5⟩ | ⟨a, s, v, ha, hs, hv, e1, e2, e3, e4, e5⟩ | ⟨a, v, ha, hv, e1, e2, e3, e4, e5⟩ | ⟨a, ha, e1, e2, e3, e4, e5⟩
  · simp only [e1, e2, e3, inj (show a < 5 by omega) (show x < 5 by omega), inj (show a < 5 by omega) (show y < 5 by omega), inj (show b < 5 by omega) (show x < 5 by omega), inj (show b < 5 by omega) (show y < 5 by omega), if_neg (show ¬ (0 : Int32) = 4 by decide), if_true]
    have n0 : ¬ ((0 : Int32) ≠ 0 ∧ (0 : Int32) ≠ 4 ∧ (a = x ∨ a = y)) := fun h => h.1 rfl
    by_cases A : a = x
    · rw [if_pos A]
      by_cases B : b = y
      · rw [if_neg (by omega), if_pos B]
        exact ⟨1, rfl, Or.inr ⟨rfl, Or.inl ⟨trivial, by omega⟩⟩⟩
      · rw [if_neg (by omega), if_neg B]
        exact ⟨0, rfl, Or.inl ⟨rfl, fun h => h.elim (fun h => by omega) n0⟩⟩
    · rw [if_neg A]
      by_cases A' : a = y
      · rw [if_pos A']
        by_cases B : b = x
        · rw [if_pos B]
          exact ⟨1, rfl, Or.inr ⟨rfl, Or.inl ⟨trivial, by omega⟩⟩⟩
        · rw [if_neg B, if_neg (by omega)]
          exact ⟨0, rfl, Or.inl ⟨rfl, fun h => h.elim (fun h => by omega) n0⟩⟩
      · rw [if_neg A']
        exact ⟨0, rfl, Or.inl ⟨rfl, fun h => h.elim (fun h => by omega) n0⟩⟩
  · exact other 1 e1 (by decide) (by decide)
  · exact other 2 e1 (by decide) (by decide)
  · exact other 3 e1 (by decide) (by decide)
  · rw [e1, if_pos rfl]
    exact ⟨0, rfl, Or.inl ⟨rfl, fun h => h.elim (fun h => absurd h.1 (by decide)) (fun h => h.2.1 rfl)⟩⟩
theorem r_bears {τ : Sg} {g : Nat → Int32} {n nt no nf x y k : Nat} (hW : Wf g n nt no nf) (hO : On τ g) (hk : k < no) (hx : τ 373 28 = nI x) (hy : τ 373 29 = nI y) : ∃ b : Int32, fX11_bears 373 (nI k) τ = some (b, τ) ∧ ((b = 0 ∧ ¬ abt g x y k) ∨ (b = 1 ∧ abt g x y k)) := by
  have hno := hW.no
  unfold fX11_bears fX11_bears_17 fX11_bears_35 fX11_bears_71 abt
  simp only [lt_v, e11_trainOf τ k (show k < 12 by omega), e11_formOf τ k (show k < 12 by omega), e11_otherOf τ k (show k < 12 by omega), bd_v, hO (41 + 5 * k) (by omega), hO (42 + 5 * k) (by omega), hO (43 + 5 * k) (by omega), hx, hy, gd_zo0, gd_zo1, gd_oT, gd_To, if_neg (show ¬ (1 : Int32) = 0 by decide), if_true]
  by_cases A : g (41 + 5 * k) = 4
  · simp only [if_pos A]
    refine ⟨0, ?_, Or.inl ⟨rfl, fun h => h.elim (fun h => ?_) (fun h => h.2.1 A)⟩⟩
    · repeat' split
      all_goals rfl
    · rw [A] at h; exact absurd h.1 (by decide)
  · simp only [if_neg A]
    by_cases B : g (41 + 5 * k) = 0
    · simp only [if_pos B]
      by_cases C : g (42 + 5 * k) = nI x ∧ g (43 + 5 * k) = nI y
      · rw [if_pos C.1]
        refine ⟨1, ?_, Or.inr ⟨rfl, Or.inl ⟨B, Or.inl C⟩⟩⟩
        simp only [if_pos C.2]
        split <;> rfl
      · by_cases D : g (42 + 5 * k) = nI y ∧ g (43 + 5 * k) = nI x
        · refine ⟨1, ?_, Or.inr ⟨rfl, Or.inl ⟨B, Or.inr D⟩⟩⟩
          simp only [if_pos D.1, if_pos D.2]
          repeat' split
          all_goals rfl
        · refine ⟨0, ?_, Or.inl ⟨rfl, fun h => h.elim (fun h => h.2.elim C D) (fun h => h.1 B)⟩⟩
          by_cases F : g (42 + 5 * k) = nI x
          · have C' : ¬ g (43 + 5 * k) = nI y := fun q => C ⟨F, q⟩
            simp only [if_pos F, if_neg C']
            by_cases G : g (42 + 5 * k) = nI y
            · have D' : ¬ g (43 + 5 * k) = nI x := fun q => D ⟨G, q⟩
              simp only [if_pos G, if_neg D']
            · simp only [if_neg G]
          · simp only [if_neg F]
            by_cases G : g (42 + 5 * k) = nI y
            · have D' : ¬ g (43 + 5 * k) = nI x := fun q => D ⟨G, q⟩
              simp only [if_pos G, if_neg D']
            · simp only [if_neg G]
    · simp only [if_neg B]
      by_cases F : g (42 + 5 * k) = nI x
      · refine ⟨1, ?_, Or.inr ⟨rfl, Or.inr ⟨B, A, Or.inl F⟩⟩⟩
        simp only [if_pos F]
        repeat' split
        all_goals rfl
      · simp only [if_neg F]
        by_cases G : g (42 + 5 * k) = nI y
        · rw [if_pos G]
          exact ⟨1, rfl, Or.inr ⟨rfl, Or.inr ⟨B, A, Or.inr G⟩⟩⟩
        · rw [if_neg G]
          exact ⟨0, rfl, Or.inl ⟨rfl, fun h => h.elim (fun h => B h.1) (fun h => h.2.2.elim F G)⟩⟩
/-- order k is about both, and one of them alone holds it -/
def cau (g : Nat → Int32) (no x y m k : Nat) : Prop := abt g x y k ∧ hE g no x m k ≠ hE g no y m k
theorem c_first {σ : Sg} {g : Nat → Int32} {n nt no nf x y m : Nat} (hW : Wf g n nt no nf) (hL : LR σ 3 g) (hxy : x < y) (hy : y < nt) (hm : m ≤ 500) : (∃ k, k < no ∧ cau g no x y m k ∧ (∀ j, j < k → ¬ cau g no x y m j) ∧ fX5_firstHeldByOneOf 13 (nI x) (nI y) (nI m) σ = some (nI k, σ)) ∨ ((∀ j, j < no → ¬ cau g no x y m j) ∧ fX5_firstHeldByOneOf 13 (nI x) (nI y) (nI m) σ = some (12, σ)) := by
  have hno := hW.no
  have hnt := hW.nt
  have h13 : σ 13 0 = nI no := hL.1.2.2.1.trans hW.2.1.2.2.1
  obtain ⟨r1, e1, b1⟩ := e5_heldBy hL hW (show x < 5 by omega) hm
  obtain ⟨r2, e2, b2⟩ := e5_heldBy hL hW (show y < 5 by omega) hm
  have hv : ∀ i, i < no → (cau g no x y m i → ∀ K, fX5_firstHeldByOneOf_18 13 (nI x) (nI y) (r1 ^^^ r2) K (nI i) σ = some (nI i, σ)) ∧ (¬ cau g no x y m i → ∀ K, fX5_firstHeldByOneOf_18 13 (nI x) (nI y) (r1 ^^^ r2) K (nI i) σ = K (nI (i + 1)) σ) := by
    intro i hi
    obtain ⟨b, eb, hb⟩ := c_isAbout hW hL hi hxy hy
    have hbit : bt (r1 ^^^ r2) i = (hE g no x m i ^^ hE g no y m i) := by rw [b_xor, b1 i (by omega), b2 i (by omega)]
    have hc : ∀ K, fX5_firstHeldByOneOf_18 13 (nI x) (nI y) (r1 ^^^ r2) K (nI i) σ = if bt (r1 ^^^ r2) i = false then K (nI (i + 1)) σ else if b = 0 then K (nI (i + 1)) σ else some (nI i, σ) := by
      intro K
      unfold fX5_firstHeldByOneOf_18 fX5_firstHeldByOneOf_51
      simp only [h13, if_neg (nle_of hi (show no < 2 ^ 31 by omega)), bt_test (r1 ^^^ r2) i (by omega), eb, bd_v, lt_v, nI_1]
    have hx : (bt (r1 ^^^ r2) i = false) ↔ hE g no x m i = hE g no y m i := by
      rw [hbit]
      cases hE g no x m i <;> cases hE g no y m i <;> decide
    refine ⟨fun h K => ?_, fun h K => ?_⟩
    · rw [hc K, if_neg (fun q => h.2 (hx.mp q))]
      rcases hb with ⟨-, q⟩ | ⟨rfl, -⟩
      · exact absurd h.1 q
      · rw [if_neg (by decide)]
    · rw [hc K]
      by_cases z : bt (r1 ^^^ r2) i = false
      · rw [if_pos z]
      · rw [if_neg z]
        rcases hb with ⟨rfl, -⟩ | ⟨-, q⟩
        · rw [if_pos rfl]
        · exact absurd ⟨q, fun y => z (hx.mpr y)⟩ h
  unfold fX5_firstHeldByOneOf
  rw [e1, bd_v, e2, bd_v, lt_v, lt_v]
  rcases fl1 (b := fX5_firstHeldByOneOf_18 13 (nI x) (nI y) (r1 ^^^ r2)) (σ := σ) no (fun i => cau g no x y m i) (fun i => some (nI i, σ)) (fun i hi h => (hv i hi).2 h) (fun i hi h => (hv i hi).1 h) no 0 FU (by omega) (by rw [FU_s]; omega) with ⟨j, -, a2, a3, a4, a5⟩ | ⟨a1, fu, a2⟩
  · exact Or.inl ⟨j, a2, a3, fun q hq => a4 q (by omega) hq, a5⟩
  · refine Or.inr ⟨fun j hj => a1 j (by omega) hj, Eq.trans a2 ?_⟩
    generalize lq1 (fX5_firstHeldByOneOf_18 13 (nI x) (nI y) (r1 ^^^ r2)) fu = KK
    unfold fX5_firstHeldByOneOf_18
    rw [h13, if_pos (nI_le (Nat.le_refl _) (by omega))]
theorem zo_ne {p q : Bool} : ((if p = true then (1 : Int32) else 0) = (if q = true then 1 else 0)) ↔ p = q := by
  cases p <;> cases q <;> decide
theorem bit1 {v : Int32} {k : Nat} (hk : k < 31) : ((v >>> (nI k &&& 31)) &&& 1) = (if bt v k = true then 1 else 0) := by
  by_cases z : bt v k = true
  · rw [if_pos z]
    refine b_ext fun i hi => ?_
    rw [b_and, b_1 i hi]
    by_cases y : i = 0
    · subst y
      rw [b_sshr k (by omega) v (by decide), if_pos (by omega), show k + 0 = k from rfl, z]
      rfl
    · rw [decide_eq_false y, Bool.and_false]
  · rw [if_neg z]
    exact (bt_test v k (by omega)).mpr (by simpa using z)
theorem r_cause {τ : Sg} {g : Nat → Int32} {n nt no nf x y m : Nat} (hW : Wf g n nt no nf) (hO : On τ g) (hx : τ 373 28 = nI x) (hy : τ 373 29 = nI y) (hl : τ 373 30 = nI m) (hxy : x < y) (hyn : y < nt) (hm : m ≤ 500) : ∃ ρ, (∀ c i, c ≠ 380 → ρ c i = τ c i) ∧ ((∃ k, k < no ∧ cau g no x y m k ∧ (∀ j, j < k → ¬ cau g no x y m j) ∧ (bd (fX11_findHeld 373 (τ 373 28) (τ 373 30) τ) fun _ s => lq2 (fX11_cause_34 373) FU (0 : Int32) (0 : Int32) s) = some (nI k, ρ)) ∨ ((∀ j, j < no → ¬ cau g no x y m j) ∧ (bd (fX11_findHeld 373 (τ 373 28) (τ 373 30) τ) fun _ s => lq2 (fX11_cause_34 373) FU (0 : Int32) (0 : Int32) s) = some (-100006, wr ρ 373 4 (ρ 373 4 + 1)))) := by
  have hno := hW.no
  have hnt := hW.nt
  obtain ⟨τ1, e1, hR1, f1⟩ := e11_findHeld hO hW (show x < 5 by omega) hm
  have hO1 : On τ1 g := fun k hk => by rw [f1 _ _ (by decide)]; exact hO k hk
  have t40 := hO1.no hW
  have hst : ∀ i (v : Int32) (ρ : Sg), i < no → (ρ = τ1 ∧ ∀ q, q < 32 → (bt v q = true ↔ q < i ∧ hE g no x m q = true)) → ∃ v' ρ', (∀ K, fX11_cause_34 373 K v (nI i) ρ = K v' (nI (i + 1)) ρ') ∧ (ρ' = τ1 ∧ ∀ q, q < 32 → (bt v' q = true ↔ q < i + 1 ∧ hE g no x m q = true)) := by
    rintro i v ρ hi ⟨hρ, hv⟩
    rw [hρ]
    have hc : ∀ K, fX11_cause_34 373 K v (nI i) τ1 = if hE g no x m i = true then K (v ||| ((1 : Int32) <<< (nI i &&& 31))) (nI (i + 1)) τ1 else K (v ||| 0) (nI (i + 1)) τ1 := by
      intro K
      unfold fX11_cause_34 fX11_cause_62
      simp only [rf_373_0, ln_374, gd40, cl40, t40, if_neg (nle_of hi (show no < 2 ^ 31 by omega)), rf_373_10, ln_380, gd_in (show i < 12 by omega) (show 12 < 2147483648 by decide), nI_cl (show i < 2147483648 by omega), hR1 i hi, lt_v, nI_1]
      by_cases A : hE g no x m i = true
      · rw [if_pos A, if_pos A, if_neg (by decide)]
      · rw [if_neg A, if_neg A, if_pos rfl]
    by_cases A : hE g no x m i = true
    · refine ⟨_, τ1, fun K => by rw [hc K, if_pos A], rfl, fun q hq => ?_⟩
      rw [bt_set _ _ _ (by omega) hq, Bool.or_eq_true, decide_eq_true_eq, hv q hq]
      constructor
      · rintro (h | rfl)
        · exact ⟨by omega, h.2⟩
        · exact ⟨by omega, A⟩
      · rintro ⟨h1, h2⟩
        by_cases z : i = q
        · exact Or.inr z
        · exact Or.inl ⟨by omega, h2⟩
    · refine ⟨_, τ1, fun K => by rw [hc K, if_neg A], rfl, fun q hq => ?_⟩
      rw [b_or, b_0, Bool.or_false, hv q hq]
      constructor
      · exact fun h => ⟨by omega, h.2⟩
      · rintro ⟨h1, h2⟩
        by_cases z : q = i
        · subst z; exact absurd h2 A
        · exact ⟨by omega, h2⟩
  obtain ⟨v, ρ, fu, e, hρ, hv⟩ := sl2 (b := fX11_cause_34 373) no _ hst no 0 FU 0 τ1 (by omega) (by rw [FU_s]; omega) ⟨rfl, fun q hq => by rw [b_0]; exact ⟨fun h => absurd h (by decide), fun h => by omega⟩⟩
  obtain ⟨τ2, e2, hR2, f2⟩ := e11_findHeld hO1 hW (show y < 5 by omega) hm
  have hO2 : On τ2 g := fun k hk => by rw [f2 _ _ (by decide)]; exact hO1 k hk
  have x28 : τ1 373 28 = nI x := by rw [f1 _ _ (by decide), hx]
  have x29 : τ1 373 29 = nI y := by rw [f1 _ _ (by decide), hy]
  have x30 : τ1 373 30 = nI m := by rw [f1 _ _ (by decide), hl]
  have etot : (bd (fX11_findHeld 373 (τ 373 28) (τ 373 30) τ) fun _ s => lq2 (fX11_cause_34 373) FU (0 : Int32) (0 : Int32) s) = lq1 (fX11_cause_84 373 v) FU 0 τ2 := by
    rw [hx, hl, e1, bd_v]
    refine Eq.trans e ?_
    rw [hρ]
    generalize lq2 (fX11_cause_34 373) fu = KK
    unfold fX11_cause_34
    rw [rf_373_0, ln_374, gd40, cl40, t40, if_pos (nI_le (Nat.le_refl _) (by omega)), x29, x30, e2, bd_v, lt_v]
  have y28 : τ2 373 28 = nI x := by rw [f2 _ _ (by decide), x28]
  have y29 : τ2 373 29 = nI y := by rw [f2 _ _ (by decide), x29]
  have u40 := hO2.no hW
  have hc : ∀ i, i < no → (cau g no x y m i → ∀ K, fX11_cause_84 373 v K (nI i) τ2 = some (nI i, τ2)) ∧ (¬ cau g no x y m i → ∀ K, fX11_cause_84 373 v K (nI i) τ2 = K (nI (i + 1)) τ2) := by
    intro i hi
    obtain ⟨b, eb, hb⟩ := r_bears hW hO2 hi y28 y29
    have hvi : bt v i = hE g no x m i := by
      apply Bool.eq_iff_iff.mpr
      rw [hv i (by omega)]
      exact ⟨fun h => h.2, fun h => ⟨hi, h⟩⟩
    have hcc : ∀ K, fX11_cause_84 373 v K (nI i) τ2 = if b = 0 then K (nI (i + 1)) τ2 else if hE g no y m i = hE g no x m i then K (nI (i + 1)) τ2 else some (nI i, τ2) := by
      intro K
      unfold fX11_cause_84 fX11_cause_123 fX11_cause_128
      simp only [rf_373_0, ln_374, gd40, cl40, u40, if_neg (nle_of hi (show no < 2 ^ 31 by omega)), eb, bd_v, rf_373_10, ln_380, gd_in (show i < 12 by omega) (show 12 < 2147483648 by decide), nI_cl (show i < 2147483648 by omega), hR2 i hi, bit1 (v := v) (show i < 31 by omega), hvi, lt_v, nI_1]
      by_cases B : b = 0
      · rw [if_pos B, if_pos B]
      · rw [if_neg B, if_neg B]
        by_cases C : hE g no x m i = true
        · rw [if_pos C, if_pos rfl]
          by_cases D : hE g no y m i = true
          · rw [if_pos D, if_pos rfl, if_pos (by rw [C, D])]
          · rw [if_neg D, if_neg (by decide), if_neg (fun q => D (by rw [q, C]))]
        · rw [if_neg C, if_neg (by decide)]
          by_cases D : hE g no y m i = true
          · rw [if_pos D, if_neg (by decide), if_neg (fun q => C (by rw [← q, D]))]
          · rw [if_neg D, if_pos rfl, if_pos]
            rw [Bool.eq_false_iff.mpr C, Bool.eq_false_iff.mpr D]
    refine ⟨fun h K => ?_, fun h K => ?_⟩
    · rw [hcc K]
      rcases hb with ⟨-, q⟩ | ⟨rfl, -⟩
      · exact absurd h.1 q
      · rw [if_neg (by decide), if_neg (fun q => h.2 q.symm)]
    · rw [hcc K]
      rcases hb with ⟨rfl, -⟩ | ⟨rfl, q⟩
      · rw [if_pos rfl]
      · rw [if_neg (by decide), if_pos (Decidable.byContradiction fun z => h ⟨q, fun w => z w.symm⟩)]
  refine ⟨τ2, fun c i hci => by rw [f2 c i hci, f1 c i hci], ?_⟩
  rw [etot]
  rcases fl1 (b := fX11_cause_84 373 v) (σ := τ2) no (fun i => cau g no x y m i) (fun i => some (nI i, τ2)) (fun i hi h => (hc i hi).2 h) (fun i hi h => (hc i hi).1 h) no 0 FU (by omega) (by rw [FU_s]; omega) with ⟨j, -, a2, a3, a4, a5⟩ | ⟨a1, fu2, a2⟩
  · exact Or.inl ⟨j, a2, a3, fun q hq => a4 q (by omega) hq, a5⟩
  · refine Or.inr ⟨fun j hj => a1 j (by omega) hj, Eq.trans a2 ?_⟩
    generalize lq1 (fX11_cause_84 373 v) fu2 = KK
    unfold fX11_cause_84
    rw [rf_373_0, ln_374, gd40, cl40, u40, if_pos (nI_le (Nat.le_refl _) (by omega)), e11_finds]; rfl
theorem s_cause {σ : Sg} (hI : Inv σ) : Two (fX10_cause 0) (fX11_cause 373) σ := by
  obtain ⟨n, nt, no, nf, hL, hW, h4, h7, h13, h3⟩ := hI.k
  have hno := hW.no
  obtain ⟨σ1, e1, f1, ⟨σ2, e2, hO, e374, hI2⟩, σ2', e2', hO', e374', hI2'⟩ := day_two hI hW
  have k1 := hO.2.2.2.2.1
  have k2 := hO'.2.2.2.2.1
  have hL1 : LR σ1 3 (σ 374) := LR_congr (fun c q1 q2 => funext fun i => (f1 c i (by omega)).symm) hL
  unfold fX10_cause fX11_cause
  simp only [rf_0_1, rf_0_2, rf_3_2, e10_finding, e11_finds, bd_v, lt_v]
  by_cases A : σ1 22 6 = 0
  · refine two_mk (r := -100006) (σ1 := wr σ1 0 5 (σ1 0 5 + 1)) (σ2 := wr σ2' 373 4 (σ2' 373 4 + 1)) ?_ ?_ hI2'
    · simp only [e1, bd_v, if_pos A]
    · simp only [e2', bd_v]
      rw [← k2, if_pos A]
  · have hz : ¬ σ2 373 25 = 0 := by rw [← k1]; exact A
    have hz' : ¬ σ2' 373 25 = 0 := by rw [← k2]; exact A
    obtain ⟨⟨q1, q2, q3, q4⟩, q5, ⟨m, hm, q6⟩, x, y, hxy, hy, q7, q8⟩ := hO.2.2.2.2.2.1 hz
    obtain ⟨⟨p1, p2, p3, p4⟩, p5, -⟩ := hO'.2.2.2.2.2.1 hz'
    have a7 : σ1 22 7 = nI m := by rw [q1, q6]
    have a9 : σ1 22 9 = nI x := by rw [q3, q7]
    have a10 : σ1 22 10 = nI y := by rw [q4, q8]
    have n12 : ∀ k, k < 12 → ¬ nI k = 12 := fun k hk q => by
      have := (nI_eq (b := 12) (show k < 2 ^ 31 by omega) (by decide)).mp q
      omega
    rcases c_first (m := m) hW hL1 hxy hy hm with ⟨k, hk, c1, c2, c3⟩ | ⟨c1, c3⟩
    · obtain ⟨ρ, r1, r2⟩ := r_cause (τ := σ2) hW (fun k _ => by rw [e374]) q7 q8 (by rw [q5, q6]) hxy hy hm
      refine two_mk (r := nI k) (σ1 := σ1) (σ2 := ρ) ?_ ?_ (Inv_380 r1 hI2)
      · simp only [e1, bd_v, if_neg A, a7, a9, a10, c3, if_neg (n12 k (by omega))]
      · simp only [e2, bd_v, if_neg hz]
        rcases r2 with ⟨j, j1, j2, j3, j4⟩ | ⟨j1, -⟩
        · have : j = k := by
            rcases Nat.lt_trichotomy j k with q | q | q
            · exact absurd j2 (c2 j q)
            · exact q
            · exact absurd c1 (j3 k q)
          rw [this] at j4
          exact j4
        · exact absurd c1 (j1 k hk)
    · obtain ⟨ρ, r1, r2⟩ := r_cause (τ := σ2') hW (fun k _ => by rw [e374']) (by rw [← p3, a9]) (by rw [← p4, a10]) (by rw [p5, ← p1, a7]) hxy hy hm
      have hI3 : Inv (wr ρ 373 4 (ρ 373 4 + 1)) := by
        refine Inv_380 (σ := wr σ2' 373 4 (σ2' 373 4 + 1)) (fun c i hc => ?_) hI2'
        unfold wr
        rw [r1 c i hc, r1 373 4 (by decide)]
      refine two_mk (r := -100006) (σ1 := wr σ1 0 5 (σ1 0 5 + 1)) (σ2 := wr ρ 373 4 (ρ 373 4 + 1)) ?_ ?_ hI3
      · simp only [e1, bd_v, if_neg A, a7, a9, a10, c3, if_true]
      · simp only [e2', bd_v, if_neg hz']
        rcases r2 with ⟨j, j1, j2, -⟩ | ⟨-, j4⟩
        · exact absurd j2 (c1 j j1)
        · exact j4
