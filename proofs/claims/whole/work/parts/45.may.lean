/-! PURE: what the reference asks of a train that would leave -/
theorem Wf.no {g : Nat → Int32} {n nt no nf : Nat} (hW : Wf g n nt no nf) : no ≤ 12 := hW.1.2.2.1
theorem Wf.nt {g : Nat → Int32} {n nt no nf : Nat} (hW : Wf g n nt no nf) : nt ≤ 5 := hW.1.2.1
theorem On.no {τ : Sg} {g : Nat → Int32} {n nt no nf : Nat} (hO : On τ g) (hW : Wf g n nt no nf) : τ 374 40 = nI no := (hO 40 (by decide)).trans hW.2.1.2.2.1
theorem On.nt {τ : Sg} {g : Nat → Int32} {n nt no nf : Nat} (hO : On τ g) (hW : Wf g n nt no nf) : τ 374 14 = nI nt := (hO 14 (by decide)).trans hW.2.1.2.1
/-- when train t is due at station q -/
def du (g : Nat → Int32) (t q : Nat) : Int32 := g (19 + 5 * t) + cb (fun k => g (8 + k)) (g (16 + 5 * t)).toNatClampNeg q
theorem r_due {τ : Sg} {g : Nat → Int32} {n nt no nf t q : Nat} (hO : On τ g) (hW : Wf g n nt no nf) (ht : t < nt) (hq : q ≤ 6) : fX11_dueAt 373 (nI t) (nI q) τ = some (du g t q, τ) := by
  have hnt := hW.nt
  have hn : n ≤ 7 := hW.1.1.2
  obtain ⟨k, f, d, len, tm, a1, a2, a3, a4, a5, a6, a7, e1, e2, e3, e4, e5⟩ := hW.2.2.2.2.1 t ht
  rw [e11_dueAt τ t f q (by omega) (by omega) hq (by rw [hO _ (by omega), e2]), hO _ (by omega)]
  unfold du
  rw [e2, nI_cl (by omega), cb_congr (f := fun k => τ 374 (8 + k)) (g := fun k => g (8 + k)) (by omega) hq (fun k hk => hO _ (by omega))]
theorem r_lates {τ : Sg} {g : Nat → Int32} {n nt no nf t m a : Nat} (hO : On τ g) (hW : Wf g n nt no nf) (hR : HR τ g no t m) : fX11_lates 373 (nI a) τ = some (lsm g (hE g no t m) a no, τ) := by
  have hno := hW.no
  have t40 := hO.no hW
  have hst : ∀ i (v : Int32) (ρ : Sg), i < no → (ρ = τ ∧ v = lsm g (hE g no t m) a i) → ∃ v' ρ', (∀ K, fX11_lates_4 373 (nI a) K v (nI i) ρ = K v' (nI (i + 1)) ρ') ∧ (ρ' = τ ∧ v' = lsm g (hE g no t m) a (i + 1)) := by
    rintro i v ρ hi ⟨hρ, hv⟩
    refine ⟨lsm g (hE g no t m) a (i + 1), τ, fun K => ?_, rfl, rfl⟩
    rw [hρ, hv]
    show _ = K (lsm g (hE g no t m) a i + (if _ then _ else _)) _ _
    unfold fX11_lates_4 fX11_lates_51 fX11_lates_52
    rw [rf_373_0, ln_374, gd40, cl40, t40, if_neg (nle_of hi (by omega)), rf_373_10, ln_380, gd_in (n := 12) (by omega) (by decide), nI_cl (by omega), hR i hi, e11_formOf τ i (by omega), bd_v, e11_trainOf τ i (by omega), bd_v, e11_numberOf τ i (by omega), bd_v, hO _ (by omega), hO _ (by omega), hO _ (by omega), nI_1]
    simp only [lt_v]
    by_cases A : hE g no t m i = true
    · rw [if_pos A, if_neg (by decide)]
      by_cases B : g (41 + 5 * i) = 1
      · rw [if_pos B]
        by_cases C : g (42 + 5 * i) = nI a
        · rw [if_pos C, if_pos ⟨A, B, C⟩]
        · rw [if_neg C, if_neg (fun h => C h.2.2)]
      · rw [if_neg B, if_neg (fun h => B h.2.1)]
    · rw [if_neg A, if_pos rfl, if_neg (fun h => A h.1)]
  obtain ⟨v, ρ, fu, e, hρ, hv⟩ := sl2 (b := fX11_lates_4 373 (nI a)) no _ hst no 0 FU 0 τ (by omega) (by rw [FU_s]; omega) ⟨rfl, rfl⟩
  unfold fX11_lates
  rw [lt_v, lt_v]
  refine Eq.trans e ?_
  rw [hρ, hv]
  generalize lq2 (fX11_lates_4 373 (nI a)) fu = KK
  unfold fX11_lates_4
  rw [rf_373_0, ln_374, gd40, cl40, t40, if_pos (nI_le (Nat.le_refl _) (by omega))]
/-- train t goes by the timetable -/
def tt (g : Nat → Int32) (t : Nat) : Prop := g (15 + 5 * t) = 1 ∨ g (15 + 5 * t) = 2
theorem rmn_le {g : Nat → Int32} {H : Nat → Bool} {t m : Nat} (hm : m ≤ 500) : ∀ N, rmn g H t N ≤ nI m ↔ ∃ k, k < N ∧ H k = true ∧ g (41 + 5 * k) = 3 ∧ g (42 + 5 * k) = nI t ∧ g (45 + 5 * k) ≤ nI m := by
  intro N
  induction N with
  | zero => exact ⟨fun h => absurd h (nle_of (a := 501) (by omega) (by decide)), fun ⟨k, hk, _⟩ => by omega⟩
  | succ N ih =>
    have hsp : (∃ k, k < N + 1 ∧ H k = true ∧ g (41 + 5 * k) = 3 ∧ g (42 + 5 * k) = nI t ∧ g (45 + 5 * k) ≤ nI m) ↔ (rmn g H t N ≤ nI m ∨ (H N = true ∧ g (41 + 5 * N) = 3 ∧ g (42 + 5 * N) = nI t ∧ g (45 + 5 * N) ≤ nI m)) := by
      rw [ih]
      constructor
      · rintro ⟨k, h1, h2⟩
        by_cases q : k = N
        · subst q; exact Or.inr h2
        · exact Or.inl ⟨k, by omega, h2⟩
      · rintro (⟨k, h1, h2⟩ | h2)
        · exact ⟨k, by omega, h2⟩
        · exact ⟨N, by omega, h2⟩
    rw [hsp]
    show (if _ then _ else _) ≤ _ ↔ _
    by_cases A : H N = true ∧ g (41 + 5 * N) = 3 ∧ g (42 + 5 * N) = nI t ∧ ¬ rmn g H t N ≤ g (45 + 5 * N)
    · rw [if_pos A]
      have hlt := Int32.not_le.mp A.2.2.2
      exact ⟨fun h => Or.inr ⟨A.1, A.2.1, A.2.2.1, h⟩, fun h => h.elim (fun h => Int32.le_trans (Int32.le_of_lt hlt) h) (fun h => h.2.2.2)⟩
    · rw [if_neg A]
      refine ⟨Or.inl, fun h => h.elim id (fun h => ?_)⟩
      by_cases B : rmn g H t N ≤ g (45 + 5 * N)
      · exact Int32.le_trans B h.2.2.2
      · exact absurd ⟨h.1, h.2.1, h.2.2.1, B⟩ A
theorem wmx_le {g : Nat → Int32} {H : Nat → Bool} {t s m : Nat} (hm : m ≤ 500) : ∀ N, wmx g H t s N ≤ nI m ↔ ∀ k, k < N → H k = true → g (41 + 5 * k) = 2 → g (42 + 5 * k) = nI t → g (44 + 5 * k) = nI s → g (45 + 5 * k) ≤ nI m := by
  intro N
  induction N with
  | zero => exact ⟨fun _ k hk => by omega, fun _ => nI_pos' (by omega)⟩
  | succ N ih =>
    have hsp : (∀ k, k < N + 1 → H k = true → g (41 + 5 * k) = 2 → g (42 + 5 * k) = nI t → g (44 + 5 * k) = nI s → g (45 + 5 * k) ≤ nI m) ↔ (wmx g H t s N ≤ nI m ∧ (H N = true → g (41 + 5 * N) = 2 → g (42 + 5 * N) = nI t → g (44 + 5 * N) = nI s → g (45 + 5 * N) ≤ nI m)) := by
      rw [ih]
      constructor
      · intro h
        exact ⟨fun k hk => h k (by omega), h N (by omega)⟩
      · rintro ⟨h1, h2⟩ k hk
        by_cases q : k = N
        · subst q; exact h2
        · exact h1 k (by omega)
    rw [hsp]
    show (if _ then _ else _) ≤ _ ↔ _
    by_cases A : H N = true ∧ g (41 + 5 * N) = 2 ∧ g (42 + 5 * N) = nI t ∧ g (44 + 5 * N) = nI s ∧ ¬ g (45 + 5 * N) ≤ wmx g H t s N
    · rw [if_pos A]
      have hlt := Int32.not_le.mp A.2.2.2.2
      exact ⟨fun h => ⟨Int32.le_trans (Int32.le_of_lt hlt) h, fun _ _ _ _ => h⟩, fun h => h.2 A.1 A.2.1 A.2.2.1 A.2.2.2.1⟩
    · rw [if_neg A]
      refine ⟨fun h => ⟨h, fun h1 h2 h3 h4 => ?_⟩, fun h => h.1⟩
      by_cases B : g (45 + 5 * N) ≤ wmx g H t s N
      · exact Int32.le_trans B h
      · exact absurd ⟨h1, h2, h3, h4, B⟩ A
/-- the least minute of leaving by timetable or run -/
def erl (g : Nat → Int32) (H : Nat → Bool) (no t s : Nat) : Int32 := if g (15 + 5 * t) = 1 ∨ g (15 + 5 * t) = 2 then du g t s + lsm g H t no else rmn g H t no
theorem r_time {τ : Sg} {g : Nat → Int32} {n nt no nf t m s : Nat} (hO : On τ g) (hW : Wf g n nt no nf) (hR : HR τ g no t m) (ht : t < nt) (hm : m ≤ 500) (hs : s ≤ 6) (hp : τ 382 t = nI s) : fX11_mayByTime 373 (nI t) (nI m) τ = some (if erl g (hE g no t m) no t s ≤ nI m then 1 else 0, τ) := by
  have hno := hW.no
  have hnt := hW.nt
  have t40 := hO.no hW
  have h18 : fX11_mayByTime_18 373 (nI t) (nI m) τ = some (if du g t s + lsm g (hE g no t m) t no ≤ nI m then 1 else 0, τ) := by
    unfold fX11_mayByTime_18
    rw [rf_373_12, ln_382, gd_in (n := 5) (by omega) (by decide), nI_cl (by omega), hp, r_due hO hW ht hs, bd_v, r_lates hO hW hR, bd_v]
    by_cases A : du g t s + lsm g (hE g no t m) t no ≤ nI m
    · rw [if_neg (Int32.not_lt.mpr A), if_pos A]; rfl
    · rw [if_pos (Int32.not_le.mp A), if_neg A]; rfl
  unfold fX11_mayByTime erl
  rw [e11_kindOf τ t (by omega), bd_v, e11_kindOf τ t (by omega), bd_v, hO _ (by omega), h18]
  by_cases A : g (15 + 5 * t) = 1
  · rw [if_pos A, if_pos (Or.inl A)]
  · rw [if_neg A]
    by_cases B : g (15 + 5 * t) = 2
    · rw [if_pos B, if_pos (Or.inr B)]
    · rw [if_neg B, if_neg (show ¬ (g (15 + 5 * t) = 1 ∨ g (15 + 5 * t) = 2) from fun h => h.elim A B), lt_v]
      have hc : ∀ i, i < no → ∀ K, fX11_mayByTime_47 373 (nI t) (nI m) K (nI i) τ = (if hE g no t m i = true then (if g (41 + 5 * i) = 3 then (if g (42 + 5 * i) = nI t then (if nI m < g (45 + 5 * i) then K (nI (i + 1)) τ else some (1, τ)) else K (nI (i + 1)) τ) else K (nI (i + 1)) τ) else K (nI (i + 1)) τ) := by
        intro i hi K
        unfold fX11_mayByTime_47 fX11_mayByTime_96
        rw [rf_373_0, ln_374, gd40, cl40, t40, if_neg (nle_of hi (by omega)), rf_373_10, ln_380, gd_in (n := 12) (by omega) (by decide), nI_cl (by omega), hR i hi, e11_formOf τ i (by omega), bd_v, e11_trainOf τ i (by omega), bd_v, e11_numberOf τ i (by omega), bd_v, hO _ (by omega), hO _ (by omega), hO _ (by omega), nI_1]
        simp only [lt_v]
        by_cases C : hE g no t m i = true
        · rw [if_pos C, if_pos C, if_neg (by decide)]; rfl
        · rw [if_neg C, if_neg C, if_pos rfl]
      have k1 : ∀ i, i < no → ¬ (hE g no t m i = true ∧ g (41 + 5 * i) = 3 ∧ g (42 + 5 * i) = nI t ∧ g (45 + 5 * i) ≤ nI m) → ∀ K, fX11_mayByTime_47 373 (nI t) (nI m) K (nI i) τ = K (nI (i + 1)) τ := by
        intro i hi hn K
        rw [hc i hi K]
        repeat' split
        all_goals first | rfl | exact absurd ⟨by assumption, by assumption, by assumption, Int32.not_lt.mp (by assumption)⟩ hn
      have k2 : ∀ i, i < no → (hE g no t m i = true ∧ g (41 + 5 * i) = 3 ∧ g (42 + 5 * i) = nI t ∧ g (45 + 5 * i) ≤ nI m) → ∀ K, fX11_mayByTime_47 373 (nI t) (nI m) K (nI i) τ = some (1, τ) := by
        intro i hi hn K
        rw [hc i hi K, if_pos hn.1, if_pos hn.2.1, if_pos hn.2.2.1, if_neg (Int32.not_lt.mpr hn.2.2.2)]
      have k3 : ∀ K, fX11_mayByTime_47 373 (nI t) (nI m) K (nI no) τ = some (0, τ) := by
        intro K
        unfold fX11_mayByTime_47
        rw [rf_373_0, ln_374, gd40, cl40, t40, if_pos (nI_le (Nat.le_refl _) (by omega))]; rfl
      rcases fl1' no (by omega) _ _ _ k1 k2 k3 with ⟨h1, h2⟩ | ⟨h1, h2⟩
      · rw [h2, if_pos ((rmn_le hm no).mpr h1)]
      · rw [h2, if_neg (fun h => by obtain ⟨k, hk, h3⟩ := (rmn_le hm no).mp h; exact h1 k hk h3)]
theorem r_wait {τ : Sg} {g : Nat → Int32} {n nt no nf t m s : Nat} (hO : On τ g) (hW : Wf g n nt no nf) (hR : HR τ g no t m) (ht : t < nt) (hm : m ≤ 500) (hs : s ≤ 6) (hp : τ 382 t = nI s) : fX11_mayByWaits 373 (nI t) (nI m) τ = some (if wmx g (hE g no t m) t s no ≤ nI m then 1 else 0, τ) := by
  have hno := hW.no
  have hnt := hW.nt
  have t40 := hO.no hW
  have hc : ∀ i, i < no → ∀ K, fX11_mayByWaits_2 373 (nI t) (nI m) K (nI i) τ = (if hE g no t m i = true then (if g (41 + 5 * i) = 2 then (if g (42 + 5 * i) = nI t then (if g (44 + 5 * i) = nI s then (if g (45 + 5 * i) ≤ nI m then K (nI (i + 1)) τ else some (0, τ)) else K (nI (i + 1)) τ) else K (nI (i + 1)) τ) else K (nI (i + 1)) τ) else K (nI (i + 1)) τ) := by
    intro i hi K
    unfold fX11_mayByWaits_2 fX11_mayByWaits_65
    rw [rf_373_0, ln_374, gd40, cl40, t40, if_neg (nle_of hi (by omega)), rf_373_10, ln_380, gd_in (n := 12) (by omega) (by decide), nI_cl (by omega), hR i hi, e11_formOf τ i (by omega), bd_v, e11_trainOf τ i (by omega), bd_v, e11_stationOf τ i (by omega), bd_v, rf_373_12, ln_382, gd_in (n := 5) (by omega) (by decide), nI_cl (by omega), hp, e11_numberOf τ i (by omega), bd_v, hO _ (by omega), hO _ (by omega), hO _ (by omega), hO _ (by omega), nI_1]
    simp only [lt_v]
    by_cases C : hE g no t m i = true
    · rw [if_pos C, if_pos C, if_neg (by decide)]; rfl
    · rw [if_neg C, if_neg C, if_pos rfl]
  unfold fX11_mayByWaits
  rw [lt_v]
  have k1 : ∀ i, i < no → ¬ (hE g no t m i = true ∧ g (41 + 5 * i) = 2 ∧ g (42 + 5 * i) = nI t ∧ g (44 + 5 * i) = nI s ∧ ¬ g (45 + 5 * i) ≤ nI m) → ∀ K, fX11_mayByWaits_2 373 (nI t) (nI m) K (nI i) τ = K (nI (i + 1)) τ := by
    intro i hi hn K
    rw [hc i hi K]
    repeat' split
    all_goals first | rfl | exact absurd ⟨by assumption, by assumption, by assumption, by assumption, by assumption⟩ hn
  have k2 : ∀ i, i < no → (hE g no t m i = true ∧ g (41 + 5 * i) = 2 ∧ g (42 + 5 * i) = nI t ∧ g (44 + 5 * i) = nI s ∧ ¬ g (45 + 5 * i) ≤ nI m) → ∀ K, fX11_mayByWaits_2 373 (nI t) (nI m) K (nI i) τ = some (0, τ) := by
    intro i hi hn K
    rw [hc i hi K, if_pos hn.1, if_pos hn.2.1, if_pos hn.2.2.1, if_pos hn.2.2.2.1, if_neg hn.2.2.2.2]
  have k3 : ∀ K, fX11_mayByWaits_2 373 (nI t) (nI m) K (nI no) τ = some (1, τ) := by
    intro K
    unfold fX11_mayByWaits_2
    rw [rf_373_0, ln_374, gd40, cl40, t40, if_pos (nI_le (Nat.le_refl _) (by omega))]; rfl
  rcases fl1' no (by omega) _ _ _ k1 k2 k3 with ⟨⟨k, hk, h1⟩, h2⟩ | ⟨h1, h2⟩
  · rw [h2, if_neg (fun h => h1.2.2.2.2 ((wmx_le hm no).mp h k hk h1.1 h1.2.1 h1.2.2.1 h1.2.2.2.1))]
  · rw [h2, if_pos ((wmx_le hm no).mpr (fun k hk q1 q2 q3 q4 => Decidable.byContradiction (fun q => h1 k hk ⟨q1, q2, q3, q4, q⟩)))]
theorem r_hasMeet {τ : Sg} {g : Nat → Int32} {n nt no nf t m : Nat} (hO : On τ g) (hW : Wf g n nt no nf) (hR : HR τ g no t m) {k o : Nat} (hk : k < no) : ∃ b : Int32, fX11_hasMeet 373 (nI k) (nI t) (nI o) τ = some (b, τ) ∧ ((b = 0 ∧ ¬ (hE g no t m k = true ∧ mt1 g t o k)) ∨ (b = 1 ∧ hE g no t m k = true ∧ mt1 g t o k)) := by
  have hno := hW.no
  unfold fX11_hasMeet fX11_hasMeet_35 mt1
  simp only [rf_373_10, ln_380, gd_in (show k < 12 by omega) (show 12 < 2147483648 by decide), nI_cl (show k < 2147483648 by omega), hR k hk, e11_formOf τ k (by omega), e11_trainOf τ k (by omega), e11_otherOf τ k (by omega), hO (41 + 5 * k) (by omega), hO (42 + 5 * k) (by omega), hO (43 + 5 * k) (by omega), bd_v, gd_zo0, gd_zo1, gd_oT, gd_To]
  by_cases A : hE g no t m k = true
  · rw [if_pos A, if_neg (by decide)]
    by_cases B : g (41 + 5 * k) = 0
    · rw [if_pos B]
      by_cases C : g (42 + 5 * k) = nI t
      · rw [if_pos C]
        by_cases D : g (43 + 5 * k) = nI o
        · rw [if_pos D]
          exact ⟨1, rfl, Or.inr ⟨rfl, A, B, Or.inl ⟨C, D⟩⟩⟩
        · rw [if_neg D]
          by_cases C' : g (42 + 5 * k) = nI o
          · rw [if_pos C']
            by_cases D' : g (43 + 5 * k) = nI t
            · rw [if_pos D']
              exact ⟨1, rfl, Or.inr ⟨rfl, A, B, Or.inr ⟨C', D'⟩⟩⟩
            · rw [if_neg D']
              exact ⟨0, rfl, Or.inl ⟨rfl, fun h => h.2.2.elim (fun h => D h.2) (fun h => D' h.2)⟩⟩
          · rw [if_neg C']
            exact ⟨0, rfl, Or.inl ⟨rfl, fun h => h.2.2.elim (fun h => D h.2) (fun h => C' h.1)⟩⟩
      · rw [if_neg C]
        by_cases C' : g (42 + 5 * k) = nI o
        · rw [if_pos C']
          by_cases D' : g (43 + 5 * k) = nI t
          · rw [if_pos D']
            exact ⟨1, rfl, Or.inr ⟨rfl, A, B, Or.inr ⟨C', D'⟩⟩⟩
          · rw [if_neg D']
            exact ⟨0, rfl, Or.inl ⟨rfl, fun h => h.2.2.elim (fun h => C h.1) (fun h => D' h.2)⟩⟩
        · rw [if_neg C']
          exact ⟨0, rfl, Or.inl ⟨rfl, fun h => h.2.2.elim (fun h => C h.1) (fun h => C' h.1)⟩⟩
    · rw [if_neg B]
      exact ⟨0, rfl, Or.inl ⟨rfl, fun h => B h.2.1⟩⟩
  · rw [if_neg A, if_pos rfl]
    exact ⟨0, rfl, Or.inl ⟨rfl, fun h => A h.1⟩⟩
/-- the reference's meet more -/
def MoE (τ : Sg) (E : Option (Nat × Nat × Nat)) : Prop := match E with
  | none => Mo τ (-1) (-1) (-1)
  | some (a, b, s) => Mo τ (nI a) (nI b) (nI s) ∨ Mo τ (nI b) (nI a) (nI s)
theorem r_isMore {τ : Sg} {E : Option (Nat × Nat × Nat)} {n nt t o : Nat} (hX : Xok E n nt) (hM : MoE τ E) (hnt : nt ≤ 5) (ht : t < nt) (ho : o < nt) : ∃ b : Int32, fX11_isMore 373 (nI t) (nI o) τ = some (b, τ) ∧ ((b = 0 ∧ ∀ s, ¬ xmt E t s o) ∨ (b = 1 ∧ ∃ s, τ 373 34 = nI s ∧ s < n ∧ ∀ z, xmt E t z o ↔ z = s)) := by
  unfold fX11_isMore fX11_isMore_16
  simp only [gd_zo0, gd_zo1]
  have inj : ∀ {x y : Nat}, x < 5 → y < 5 → (nI x = nI y ↔ x = y) := fun h1 h2 => nI_eq (by omega) (by omega)
  rcases E with _ | ⟨a, b, s⟩
  · obtain ⟨e1, e2, e3⟩ : Mo τ (-1) (-1) (-1) := hM
    rw [e1, if_neg (fun h => nI_m1 (by omega) h.symm), if_neg (fun h => nI_m1 (by omega) h.symm)]
    exact ⟨0, rfl, Or.inl ⟨rfl, fun s h => h⟩⟩
  · obtain ⟨y1, y2, y3⟩ : a < b ∧ b < nt ∧ s < n := hX
    have hd : ∀ z, xmt (some (a, b, s)) t z o ↔ z = s ∧ ((t = a ∧ o = b) ∨ (t = b ∧ o = a)) := fun z => Iff.rfl
    rcases (show Mo τ (nI a) (nI b) (nI s) ∨ Mo τ (nI b) (nI a) (nI s) from hM) with ⟨e1, e2, e3⟩ | ⟨e1, e2, e3⟩
    · rw [e1, e2, e3]
      simp only [inj (show a < 5 by omega) (show t < 5 by omega), inj (show a < 5 by omega) (show o < 5 by omega), inj (show b < 5 by omega) (show t < 5 by omega), inj (show b < 5 by omega) (show o < 5 by omega), hd]
      by_cases A : a = t
      · by_cases B : b = o
        · rw [if_pos A, if_pos B]
          exact ⟨1, rfl, Or.inr ⟨rfl, s, rfl, y3, fun z => by omega⟩⟩
        · rw [if_pos A, if_neg B]
          by_cases C : a = o
          · rw [if_pos C, if_neg (by omega)]
            exact ⟨0, rfl, Or.inl ⟨rfl, fun z => by omega⟩⟩
          · rw [if_neg C]
            exact ⟨0, rfl, Or.inl ⟨rfl, fun z => by omega⟩⟩
      · rw [if_neg A]
        by_cases C : a = o
        · rw [if_pos C]
          by_cases D : b = t
          · rw [if_pos D]
            exact ⟨1, rfl, Or.inr ⟨rfl, s, rfl, y3, fun z => by omega⟩⟩
          · rw [if_neg D]
            exact ⟨0, rfl, Or.inl ⟨rfl, fun z => by omega⟩⟩
        · rw [if_neg C]
          exact ⟨0, rfl, Or.inl ⟨rfl, fun z => by omega⟩⟩
    · rw [e1, e2, e3]
      simp only [inj (show a < 5 by omega) (show t < 5 by omega), inj (show a < 5 by omega) (show o < 5 by omega), inj (show b < 5 by omega) (show t < 5 by omega), inj (show b < 5 by omega) (show o < 5 by omega), hd]
      by_cases A : b = t
      · by_cases B : a = o
        · rw [if_pos A, if_pos B]
          exact ⟨1, rfl, Or.inr ⟨rfl, s, rfl, y3, fun z => by omega⟩⟩
        · rw [if_pos A, if_neg B]
          by_cases C : b = o
          · rw [if_pos C, if_neg (by omega)]
            exact ⟨0, rfl, Or.inl ⟨rfl, fun z => by omega⟩⟩
          · rw [if_neg C]
            exact ⟨0, rfl, Or.inl ⟨rfl, fun z => by omega⟩⟩
      · rw [if_neg A]
        by_cases C : b = o
        · rw [if_pos C]
          by_cases D : a = t
          · rw [if_pos D]
            exact ⟨1, rfl, Or.inr ⟨rfl, s, rfl, y3, fun z => by omega⟩⟩
          · rw [if_neg D]
            exact ⟨0, rfl, Or.inl ⟨rfl, fun z => by omega⟩⟩
        · rw [if_neg C]
          exact ⟨0, rfl, Or.inl ⟨rfl, fun z => by omega⟩⟩
