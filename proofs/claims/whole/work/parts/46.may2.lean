/-! PURE: the reference's reasons against leaving -/
theorem r_isMet {τ : Sg} {o s : Nat} (ho : o < 5) (hs : s < 7) : fX11_isMet 373 (nI o) (nI s) τ = some (if τ 381 o = 3 then 1 else if τ 392 (7 * o + s) = 0 then 0 else 1, τ) := by
  have x : (7 : Int32) * nI o + nI s = nI (7 * o + s) := by rw [show (7 : Int32) = nI 7 from rfl, pk_mul, nI_add]
  unfold fX11_isMet
  rw [rf_373_11, rf_373_22, ln_381, ln_392, x, gd_in (n := 5) ho (by decide), gd_in (n := 35) (by omega) (by decide), nI_cl (by omega), nI_cl (by omega)]
  split
  · rfl
  · split <;> rfl
/-- the other train is met, or off -/
def met (τ : Sg) (o s : Nat) : Prop := τ 381 o = 3 ∨ τ 392 (7 * o + s) ≠ 0
theorem r_meets {τ : Sg} {g : Nat → Int32} {E : Option (Nat × Nat × Nat)} {n nt no nf t m s : Nat} (hO : On τ g) (hW : Wf g n nt no nf) (hX : Xok E n nt) (hM : MoE τ E) (hR : HR τ g no t m) (ht : t < nt) (hs : s < n) (hp : τ 382 t = nI s) : ((∃ o, o < nt ∧ o ≠ t ∧ ¬ met τ o s ∧ (mtb g (hE g no t m) t s o no ∨ xmt E t s o)) ∧ fX11_mayByMeets 373 (nI t) τ = some (0, τ)) ∨ ((∀ o, o < nt → ¬ (o ≠ t ∧ ¬ met τ o s ∧ (mtb g (hE g no t m) t s o no ∨ xmt E t s o))) ∧ fX11_mayByMeets 373 (nI t) τ = some (1, τ)) := by
  have hno := hW.no
  have hnt := hW.nt
  have hn : n ≤ 7 := hW.1.1.2
  have t40 := hO.no hW
  have t14 := hO.nt hW
  have inner : ∀ o, o < nt → o ≠ t → ∀ K2, (mtb g (hE g no t m) t s o no ∨ xmt E t s o) ∧ lq1 (fX11_mayByMeets_37 373 (nI t) (nI o) K2) FU 0 τ = some (0, τ) ∨ ¬ (mtb g (hE g no t m) t s o no ∨ xmt E t s o) ∧ lq1 (fX11_mayByMeets_37 373 (nI t) (nI o) K2) FU 0 τ = K2 (nI (o + 1)) τ := by
    intro o ho hot K2
    obtain ⟨b, eb, hb⟩ := r_isMore hX hM hnt ht ho
    have hc : ∀ i, i < no → ∀ K, fX11_mayByMeets_37 373 (nI t) (nI o) K2 K (nI i) τ = (bd (fX11_hasMeet 373 (nI i) (nI t) (nI o) τ) fun r ρ => if r = 0 then K (nI (i + 1)) ρ else bd (some (ρ 374 (44 + 5 * i), ρ)) fun r2 ρ2 => gd (inR (nI t) 5) (if r2 = ρ2 382 (nI t).toNatClampNeg then some (0, ρ2) else K (nI (i + 1)) ρ2)) := by
      intro i hi K
      unfold fX11_mayByMeets_37 fX11_mayByMeets_74
      rw [rf_373_0, ln_374, gd40, cl40, t40, if_neg (nle_of hi (by omega)), rf_373_12, ln_382, nI_1]
      simp only [e11_stationOf _ i (show i < 12 by omega), lt_v]
      rfl
    have hv : ∀ i, i < no → (hE g no t m i = true ∧ mt1 g t o i ∧ g (44 + 5 * i) = nI s → ∀ K, fX11_mayByMeets_37 373 (nI t) (nI o) K2 K (nI i) τ = some (0, τ)) ∧ (¬ (hE g no t m i = true ∧ mt1 g t o i ∧ g (44 + 5 * i) = nI s) → ∀ K, fX11_mayByMeets_37 373 (nI t) (nI o) K2 K (nI i) τ = K (nI (i + 1)) τ) := by
      intro i hi
      obtain ⟨b', eb', hb'⟩ := r_hasMeet (o := o) hO hW hR hi
      refine ⟨fun h K => ?_, fun h K => ?_⟩
      · rcases hb' with ⟨-, h2⟩ | ⟨rfl, -⟩
        · exact absurd ⟨h.1, h.2.1⟩ h2
        · rw [hc i hi K, eb', bd_v, if_neg (by decide), bd_v, gd_in (n := 5) (by omega) (by decide), nI_cl (by omega), hp, hO _ (by omega), if_pos h.2.2]
      · rcases hb' with ⟨rfl, -⟩ | ⟨rfl, h2⟩
        · rw [hc i hi K, eb', bd_v, if_pos rfl]
        · rw [hc i hi K, eb', bd_v, if_neg (by decide), bd_v, gd_in (n := 5) (by omega) (by decide), nI_cl (by omega), hp, hO _ (by omega), if_neg (fun q => h ⟨h2.1, h2.2, q⟩)]
    have hx : ∀ K, (xmt E t s o ∧ fX11_mayByMeets_37 373 (nI t) (nI o) K2 K (nI no) τ = some (0, τ)) ∨ (¬ xmt E t s o ∧ fX11_mayByMeets_37 373 (nI t) (nI o) K2 K (nI no) τ = K2 (nI (o + 1)) τ) := by
      intro K
      unfold fX11_mayByMeets_37 fX11_mayByMeets_104
      rw [rf_373_0, ln_374, gd40, cl40, t40, if_pos (nI_le (Nat.le_refl _) (by omega)), eb, bd_v, lt_v, nI_1]
      rcases hb with ⟨rfl, h2⟩ | ⟨rfl, z, h2, h3, h4⟩
      · rw [if_pos rfl]
        exact Or.inr ⟨h2 s, rfl⟩
      · rw [if_neg (by decide), rf_373_12, ln_382, gd_in (n := 5) (by omega) (by decide), nI_cl (by omega), hp, h2]
        by_cases q : z = s
        · rw [if_pos (by rw [q])]
          exact Or.inl ⟨(h4 s).mpr q.symm, rfl⟩
        · rw [if_neg (fun h => q ((nI_eq (by omega) (by omega)).mp h))]
          exact Or.inr ⟨fun h => q ((h4 s).mp h).symm, rfl⟩
    rcases fl1 (b := fX11_mayByMeets_37 373 (nI t) (nI o) K2) (σ := τ) no (fun i => hE g no t m i = true ∧ mt1 g t o i ∧ g (44 + 5 * i) = nI s) (fun _ => some (0, τ)) (fun i hi h => (hv i hi).2 h) (fun i hi h => (hv i hi).1 h) no 0 FU (by omega) (by rw [FU_s]; omega) with ⟨j, -, a2, a3, -, a5⟩ | ⟨a1, fu, a2⟩
    · exact Or.inl ⟨Or.inl ⟨j, a2, a3.1, a3.2.2, a3.2.1⟩, a5⟩
    · have hnm : ¬ mtb g (hE g no t m) t s o no := fun ⟨j, h1, h2, h3, h4⟩ => a1 j (by omega) h1 ⟨h2, h4, h3⟩
      rcases hx (lq1 (fX11_mayByMeets_37 373 (nI t) (nI o) K2) fu) with ⟨h1, h2⟩ | ⟨h1, h2⟩
      · exact Or.inl ⟨Or.inr h1, Eq.trans a2 h2⟩
      · exact Or.inr ⟨fun h => h.elim hnm h1, Eq.trans a2 h2⟩
  have hc : ∀ o, o < nt → ∀ K, fX11_mayByMeets_2 373 (nI t) K (nI o) τ = (if nI o = nI t then K (nI (o + 1)) τ else if (if τ 381 o = 3 then (1 : Int32) else if τ 392 (7 * o + s) = 0 then 0 else 1) = 0 then lq1 (fX11_mayByMeets_37 373 (nI t) (nI o) K) FU 0 τ else K (nI (o + 1)) τ) := by
    intro o ho K
    unfold fX11_mayByMeets_2 fX11_mayByMeets_104
    rw [rf_373_0, ln_374, gd14, cl14, t14, if_neg (nle_of ho (by omega)), rf_373_12, ln_382, gd_in (n := 5) (by omega) (by decide), nI_cl (by omega), hp, r_isMet (by omega) (by omega), bd_v, lt_v, nI_1]
    rfl
  have hd : ∀ o, o < nt → ∀ K, ((o ≠ t ∧ ¬ met τ o s ∧ (mtb g (hE g no t m) t s o no ∨ xmt E t s o)) ∧ fX11_mayByMeets_2 373 (nI t) K (nI o) τ = some (0, τ)) ∨ (¬ (o ≠ t ∧ ¬ met τ o s ∧ (mtb g (hE g no t m) t s o no ∨ xmt E t s o)) ∧ fX11_mayByMeets_2 373 (nI t) K (nI o) τ = K (nI (o + 1)) τ) := by
    intro o ho K
    rw [hc o ho K]
    by_cases A : o = t
    · rw [if_pos (by rw [A])]
      exact Or.inr ⟨fun h => h.1 A, rfl⟩
    · rw [if_neg (fun h => A ((nI_eq (by omega) (by omega)).mp h))]
      by_cases B : τ 381 o = 3
      · rw [if_pos B, if_neg (by decide)]
        exact Or.inr ⟨fun h => h.2.1 (Or.inl B), rfl⟩
      · rw [if_neg B]
        by_cases C : τ 392 (7 * o + s) = 0
        · rw [if_pos C, if_pos rfl]
          have hnm : ¬ met τ o s := fun h => h.elim B (fun h => h C)
          rcases inner o ho A K with ⟨h1, h2⟩ | ⟨h1, h2⟩
          · exact Or.inl ⟨⟨A, hnm, h1⟩, h2⟩
          · exact Or.inr ⟨fun h => h1 h.2.2, h2⟩
        · rw [if_neg C, if_neg (by decide)]
          exact Or.inr ⟨fun h => h.2.1 (Or.inr C), rfl⟩
  have k3 : ∀ K, fX11_mayByMeets_2 373 (nI t) K (nI nt) τ = some (1, τ) := by
    intro K
    unfold fX11_mayByMeets_2
    rw [rf_373_0, ln_374, gd14, cl14, t14, if_pos (nI_le (Nat.le_refl _) (by omega))]; rfl
  unfold fX11_mayByMeets
  rw [lt_v]
  exact fl1' nt (by omega) _ _ _ (fun i hi h K => (hd i hi K).elim (fun q => absurd q.1 h) (fun q => q.2)) (fun i hi h K => (hd i hi K).elim (fun q => q.2) (fun q => absurd h q.1)) k3
/-- where a train at s goes: section, next station, what is beyond -/
def sct (w s : Nat) : Nat := if w = 0 then s else s - 1
def nxt (w s : Nat) : Nat := if w = 0 then s + 1 else s - 1
def bey (w s z : Nat) : Prop := if w = 0 then s < z else z < s
def okW (w s n : Nat) : Prop := s < n ∧ ((w = 0 ∧ s + 1 < n) ∨ (w = 1 ∧ 1 ≤ s))
theorem n10 : ¬ nI 1 = 0 := by decide
theorem e10' : ¬ (1 : Nat) = 0 := by decide
theorem r_isBehind {τ : Sg} {t w s z : Nat} (ht : t < 5) (hs : s < 7) (hz : z < 7) (hw : w < 2) (hp : τ 382 t = nI s) (hq : τ 383 t = nI w) : ∃ b : Int32, fX11_isBehind 373 (nI t) (nI z) τ = some (b, τ) ∧ ((b = 0 ∧ ¬ bey w s z) ∨ (b = 1 ∧ bey w s z)) := by
  unfold fX11_isBehind bey
  rw [rf_373_13, rf_373_12, ln_382, ln_383, gd_in (n := 5) ht (by decide), gd_in (n := 5) ht (by decide), gd_in (n := 5) ht (by decide), nI_cl (by omega), hp, hq]
  by_cases A : w = 0
  · subst A
    simp only [if_pos nI_0, if_true]
    by_cases B : z ≤ s
    · rw [if_pos (nI_le B (by omega))]
      exact ⟨0, rfl, Or.inl ⟨rfl, by omega⟩⟩
    · rw [if_neg (nle_of (by omega) (by omega))]
      exact ⟨1, rfl, Or.inr ⟨rfl, by omega⟩⟩
  · obtain rfl : w = 1 := by omega
    simp only [if_neg n10, if_neg e10']
    by_cases B : s ≤ z
    · rw [if_pos (nI_le B (by omega))]
      exact ⟨0, rfl, Or.inl ⟨rfl, by omega⟩⟩
    · rw [if_neg (nle_of (by omega) (by omega))]
      exact ⟨1, rfl, Or.inr ⟨rfl, by omega⟩⟩
theorem r_secAhead {τ : Sg} {t w s n : Nat} (ht : t < 5) (hn : n ≤ 7) (hk : okW w s n) (hp : τ 382 t = nI s) (hq : τ 383 t = nI w) : fX11_sectionAhead 373 (nI t) τ = some (nI (sct w s), τ) := by
  obtain ⟨h0, h⟩ := hk
  unfold fX11_sectionAhead sct
  rw [rf_373_13, rf_373_12, ln_382, ln_383, gd_in (n := 5) ht (by decide), gd_in (n := 5) ht (by decide), gd_in (n := 5) ht (by decide), nI_cl (by omega), hp, hq]
  rcases h with ⟨rfl, h⟩ | ⟨rfl, h⟩
  · simp only [if_pos nI_0, if_true]
  · simp only [if_neg n10, if_neg e10']
    obtain ⟨j, rfl⟩ : ∃ j, s = j + 1 := ⟨s - 1, by omega⟩
    rw [nI_pred]; rfl
/-- train o goes over section k -/
def gov2 (g : Nat → Int32) (o k : Nat) : Prop := ∃ f d, g (16 + 5 * o) = nI f ∧ g (17 + 5 * o) = nI d ∧ f < 7 ∧ d < 7 ∧ ((f ≤ k ∧ k < d) ∨ (d ≤ k ∧ k < f))
theorem r_goesOver {τ : Sg} {g : Nat → Int32} {n nt no nf o k : Nat} (hO : On τ g) (hW : Wf g n nt no nf) (ho : o < nt) (hk : k < 7) : ∃ b : Int32, fX11_goesOver 373 (nI o) (nI k) τ = some (b, τ) ∧ ((b = 0 ∧ ¬ gov2 g o k) ∨ (b = 1 ∧ gov2 g o k)) := by
  have hnt := hW.nt
  have hn : n ≤ 7 := hW.1.1.2
  obtain ⟨kk, f, d, len, tm, a1, a2, a3, a4, a5, a6, a7, e1, e2, e3, e4, e5⟩ := hW.2.2.2.2.1 o ho
  have hg : gov2 g o k ↔ ((f ≤ k ∧ k < d) ∨ (d ≤ k ∧ k < f)) := by
    constructor
    · rintro ⟨f', d', h1, h2, h3, h4, h5⟩
      have q1 := (nI_eq (by omega) (by omega)).mp (e2.symm.trans h1)
      have q2 := (nI_eq (by omega) (by omega)).mp (e3.symm.trans h2)
      subst q1; subst q2; exact h5
    · intro h
      exact ⟨f, d, e2, e3, by omega, by omega, h⟩
  have hwy : gw (τ 374) o = if d ≤ f then 1 else 0 := gw_lt (by rw [hO _ (by omega), e2]) (by rw [hO _ (by omega), e3]) (by omega) (by omega)
  unfold fX11_goesOver
  simp only [e11_wayOf τ o (show o < 5 by omega), e11_fromOf τ o (show o < 5 by omega), e11_toOf τ o (show o < 5 by omega), bd_v, e11_in, hwy, hO (16 + 5 * o) (by omega), hO (17 + 5 * o) (by omega), e2, e3, hg]
  have pr : ∀ x, 1 ≤ x → nI x - 1 = nI (x - 1) := fun x hx => by obtain ⟨j, rfl⟩ : ∃ j, x = j + 1 := ⟨x - 1, by omega⟩; rw [nI_pred]; rfl
  by_cases A : d ≤ f
  · rw [if_pos A, if_neg (by decide), pr f (by omega), iw_n (by omega) (by omega) (by omega)]
    by_cases B : d ≤ k ∧ k ≤ f - 1
    · rw [if_pos B]
      exact ⟨1, rfl, Or.inr ⟨rfl, by omega⟩⟩
    · rw [if_neg B]
      exact ⟨0, rfl, Or.inl ⟨rfl, by omega⟩⟩
  · rw [if_neg A, if_pos rfl, pr d (by omega), iw_n (by omega) (by omega) (by omega)]
    by_cases B : f ≤ k ∧ k ≤ d - 1
    · rw [if_pos B]
      exact ⟨1, rfl, Or.inr ⟨rfl, by omega⟩⟩
    · rw [if_neg B]
      exact ⟨0, rfl, Or.inl ⟨rfl, by omega⟩⟩
