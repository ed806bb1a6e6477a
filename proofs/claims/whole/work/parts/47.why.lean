/-! PURE: the reference's whyNot -/
theorem WfO.mt {g : Nat → Int32} {n nt o : Nat} (h : WfO g n nt o) (h4 : g (41 + 5 * o) = 0) : ∃ s, s < n ∧ g (44 + 5 * o) = nI s := by
  rcases h with ⟨a, b, s, -, -, -, hs, -, -, -, q, -⟩ | ⟨a, v, -, -, -, q, -⟩ | ⟨a, s, v, -, -, -, q, -⟩ | ⟨a, v, -, -, q, -⟩ | ⟨a, -, q, -⟩
  · exact ⟨s, hs, q⟩
  · rw [h4] at q; exact absurd q (by decide)
  · rw [h4] at q; exact absurd q (by decide)
  · rw [h4] at q; exact absurd q (by decide)
  · rw [h4] at q; exact absurd q (by decide)
/-- the other train is far off by the timetable -/
def far (g : Nat → Int32) (H : Nat → Bool) (no m k nx o : Nat) : Prop := tt g o ∧ ¬ du g o nx + lsm g H o no < nI m + g (8 + k) + 5
/-- a meet of both is held for a station beyond -/
def mby (g : Nat → Int32) (H : Nat → Bool) (E : Option (Nat × Nat × Nat)) (no t o w s : Nat) : Prop := ∃ z, z < 7 ∧ bey w s z ∧ (mtb g H t z o no ∨ xmt E t z o)
theorem r_177 {τ : Sg} {g : Nat → Int32} {n nt no nf t m k nx o : Nat} (hO : On τ g) (hW : Wf g n nt no nf) (hR : HR τ g no t m) (ho : o < nt) (hk : k < 6) (hnx : nx ≤ 6) : ∃ b : Int32, fX11_mayAgainst_177 373 (nI o) (nI m) (nI k) (nI nx) τ = some (b, τ) ∧ ((b = 0 ∧ ¬ far g (hE g no t m) no m k nx o) ∨ (b = 1 ∧ far g (hE g no t m) no m k nx o)) := by
  have hnt := hW.nt
  have h197 : ∃ b : Int32, fX11_mayAgainst_197 373 (nI o) (nI m) (nI k) (nI nx) τ = some (b, τ) ∧ ((b = 0 ∧ du g o nx + lsm g (hE g no t m) o no < nI m + g (8 + k) + 5) ∨ (b = 1 ∧ ¬ du g o nx + lsm g (hE g no t m) o no < nI m + g (8 + k) + 5)) := by
    unfold fX11_mayAgainst_197
    rw [rf_373_0, ln_374, show (8 : Int32) + nI k = nI (8 + k) from nI_add 8 k, gd_in (n := 174) (by omega) (by decide), nI_cl (by omega), r_due hO hW ho hnx, bd_v, r_lates hO hW hR, bd_v, hO _ (by omega)]
    by_cases A : du g o nx + lsm g (hE g no t m) o no < nI m + g (8 + k) + 5
    · rw [if_pos A]
      exact ⟨0, rfl, Or.inl ⟨rfl, A⟩⟩
    · rw [if_neg A]
      exact ⟨1, rfl, Or.inr ⟨rfl, A⟩⟩
  obtain ⟨b, eb, hb⟩ := h197
  unfold fX11_mayAgainst_177 far tt
  rw [lt_v, e11_kindOf τ o (by omega), bd_v, e11_kindOf τ o (by omega), bd_v, hO _ (by omega), eb]
  by_cases A : g (15 + 5 * o) = 1
  · rw [if_pos A]
    exact ⟨b, rfl, hb.imp (fun h => ⟨h.1, fun q => q.2 h.2⟩) (fun h => ⟨h.1, Or.inl A, h.2⟩)⟩
  · rw [if_neg A]
    by_cases B : g (15 + 5 * o) = 2
    · rw [if_pos B]
      exact ⟨b, rfl, hb.imp (fun h => ⟨h.1, fun q => q.2 h.2⟩) (fun h => ⟨h.1, Or.inr B, h.2⟩)⟩
    · rw [if_neg B]
      exact ⟨0, rfl, Or.inl ⟨rfl, fun q => q.1.elim A B⟩⟩
/-- nothing of train o stands against train t's leaving -/
def agn (τ : Sg) (g : Nat → Int32) (H : Nat → Bool) (E : Option (Nat × Nat × Nat)) (no t o m w s : Nat) : Prop := τ 383 o = nI w ∨ τ 381 o = 3 ∨ ¬ gov2 g o (sct w s) ∨ τ 393 (7 * o + s) ≠ 0 ∨ gov g o (τ 383 o) t = 0 ∨ mby g H E no t o w s ∨ far g H no m (sct w s) (nxt w s) o
theorem gr_On {τ : Sg} {g : Nat → Int32} (hO : On τ g) {t : Nat} (ht : t < 5) : gr (τ 374) t = gr g t := by
  unfold gr
  rw [hO _ (by omega)]
theorem gov_On {τ : Sg} {g : Nat → Int32} (hO : On τ g) {t o : Nat} (ht : t < 5) (ho : o < 5) (w : Int32) : gov (τ 374) t w o = gov g t w o := by
  unfold gov
  rw [gr_On hO ht, gr_On hO ho]
theorem r_against {τ : Sg} {g : Nat → Int32} {E : Option (Nat × Nat × Nat)} {n nt no nf t o m w s : Nat} (hO : On τ g) (hW : Wf g n nt no nf) (hX : Xok E n nt) (hM : MoE τ E) (hR : HR τ g no t m) (ht : t < nt) (ho : o < nt) (hk : okW w s n) (hp : τ 382 t = nI s) (hq : τ 383 t = nI w) : ∃ b : Int32, fX11_mayAgainst 373 (nI t) (nI o) (nI m) τ = some (b, τ) ∧ ((b = 0 ∧ ¬ agn τ g (hE g no t m) E no t o m w s) ∨ (b = 1 ∧ agn τ g (hE g no t m) E no t o m w s)) := by
  have hno := hW.no
  have hnt := hW.nt
  have hn : n ≤ 7 := hW.1.1.2
  have t40 := hO.no hW
  have hsn : s < n := hk.1
  have hw2 : w < 2 := by rcases hk.2 with ⟨h, -⟩ | ⟨h, -⟩ <;> omega
  have hsc : sct w s < 6 := by unfold sct; split <;> (rcases hk.2 with ⟨h, h2⟩ | ⟨h, h2⟩ <;> omega)
  have hnx : nxt w s ≤ 6 := by unfold nxt; split <;> (rcases hk.2 with ⟨h, h2⟩ | ⟨h, h2⟩ <;> omega)
  have x7 : (7 : Int32) * nI o + nI s = nI (7 * o + s) := by rw [show (7 : Int32) = nI 7 from rfl, pk_mul, nI_add]
  obtain ⟨bf, ef, hf⟩ := r_177 (nx := nxt w s) hO hW hR ho hsc hnx
  have e149 : fX11_mayAgainst_149 373 (nI t) (nI o) (nI m) (nI (sct w s)) τ = some (bf, τ) := by
    unfold fX11_mayAgainst_149
    rw [rf_373_13, rf_373_12, ln_382, ln_383, gd_in (n := 5) (by omega) (by decide), gd_in (n := 5) (by omega) (by decide), gd_in (n := 5) (by omega) (by decide), nI_cl (by omega), hp, hq]
    rcases hk.2 with ⟨rfl, h⟩ | ⟨rfl, h⟩
    · rw [if_pos nI_0, nI_1]; exact ef
    · obtain ⟨j, rfl⟩ : ∃ j, s = j + 1 := ⟨s - 1, by omega⟩
      rw [if_neg n10, nI_pred]; exact ef
  obtain ⟨bm, em, hm⟩ := r_isMore hX hM hnt ht ho
  have hv : ∀ i, i < no → (hE g no t m i = true ∧ mt1 g t o i ∧ (∃ z, z < n ∧ g (44 + 5 * i) = nI z ∧ bey w s z) → ∀ K, fX11_mayAgainst_81 373 (nI t) (nI o) (nI m) (nI (sct w s)) K (nI i) τ = some (1, τ)) ∧ (¬ (hE g no t m i = true ∧ mt1 g t o i ∧ (∃ z, z < n ∧ g (44 + 5 * i) = nI z ∧ bey w s z)) → ∀ K, fX11_mayAgainst_81 373 (nI t) (nI o) (nI m) (nI (sct w s)) K (nI i) τ = K (nI (i + 1)) τ) := by
    intro i hi
    obtain ⟨b', eb', hb'⟩ := r_hasMeet (o := o) hO hW hR hi
    have hc : ∀ K, fX11_mayAgainst_81 373 (nI t) (nI o) (nI m) (nI (sct w s)) K (nI i) τ = (if b' = 0 then K (nI (i + 1)) τ else bd (fX11_isBehind 373 (nI t) (g (44 + 5 * i)) τ) fun r ρ => if r = 0 then K (nI (i + 1)) ρ else some (1, ρ)) := by
      intro K
      unfold fX11_mayAgainst_81 fX11_mayAgainst_120
      rw [rf_373_0, ln_374, gd40, cl40, t40, if_neg (nle_of hi (by omega)), eb', bd_v, e11_stationOf τ i (by omega), bd_v, hO _ (by omega), nI_1]
      rfl
    refine ⟨fun h K => ?_, fun h K => ?_⟩
    · obtain ⟨h1, h2, z, h3, h4, h5⟩ := h
      rcases hb' with ⟨-, h6⟩ | ⟨rfl, -⟩
      · exact absurd ⟨h1, h2⟩ h6
      · obtain ⟨b2, eb2, hb2⟩ := r_isBehind (τ := τ) (show t < 5 by omega) (show s < 7 by omega) (show z < 7 by omega) hw2 hp hq
        rw [hc K, if_neg (by decide), h4, eb2, bd_v]
        rcases hb2 with ⟨-, h7⟩ | ⟨rfl, -⟩
        · exact absurd h5 h7
        · rw [if_neg (by decide)]
    · rcases hb' with ⟨rfl, -⟩ | ⟨rfl, h2⟩
      · rw [hc K, if_pos rfl]
      · obtain ⟨z, hz, ez⟩ := (hW.2.2.2.2.2.1 i hi).mt h2.2.1
        obtain ⟨b2, eb2, hb2⟩ := r_isBehind (τ := τ) (show t < 5 by omega) (show s < 7 by omega) (show z < 7 by omega) hw2 hp hq
        rw [hc K, if_neg (by decide), ez, eb2, bd_v]
        rcases hb2 with ⟨rfl, -⟩ | ⟨rfl, h7⟩
        · rw [if_pos rfl]
        · exact absurd ⟨h2.1, h2.2, z, hz, ez, h7⟩ h
  have hx : ∀ K, ((∃ z, z < 7 ∧ bey w s z ∧ xmt E t z o) ∧ fX11_mayAgainst_81 373 (nI t) (nI o) (nI m) (nI (sct w s)) K (nI no) τ = some (1, τ)) ∨ ((∀ z, z < 7 → bey w s z → ¬ xmt E t z o) ∧ fX11_mayAgainst_81 373 (nI t) (nI o) (nI m) (nI (sct w s)) K (nI no) τ = some (bf, τ)) := by
    intro K
    unfold fX11_mayAgainst_81
    rw [rf_373_0, ln_374, gd40, cl40, t40, if_pos (nI_le (Nat.le_refl _) (by omega)), em, bd_v, e149]
    rcases hm with ⟨rfl, h2⟩ | ⟨rfl, z, h2, h3, h4⟩
    · rw [if_pos rfl]
      exact Or.inr ⟨fun z _ _ => h2 z, rfl⟩
    · rw [if_neg (by decide), h2]
      obtain ⟨b2, eb2, hb2⟩ := r_isBehind (τ := τ) (show t < 5 by omega) (show s < 7 by omega) (show z < 7 by omega) hw2 hp hq
      rw [eb2, bd_v]
      rcases hb2 with ⟨rfl, h7⟩ | ⟨rfl, h7⟩
      · rw [if_pos rfl, e149]
        exact Or.inr ⟨fun y _ h8 h9 => h7 (((h4 y).mp h9) ▸ h8), rfl⟩
      · rw [if_neg (by decide)]
        exact Or.inl ⟨⟨z, by omega, h7, (h4 z).mpr rfl⟩, rfl⟩
  have main : (mby g (hE g no t m) E no t o w s ∧ lq1 (fX11_mayAgainst_81 373 (nI t) (nI o) (nI m) (nI (sct w s))) FU 0 τ = some (1, τ)) ∨ (¬ mby g (hE g no t m) E no t o w s ∧ lq1 (fX11_mayAgainst_81 373 (nI t) (nI o) (nI m) (nI (sct w s))) FU 0 τ = some (bf, τ)) := by
    rcases fl1 (b := fX11_mayAgainst_81 373 (nI t) (nI o) (nI m) (nI (sct w s))) (σ := τ) no (fun i => hE g no t m i = true ∧ mt1 g t o i ∧ (∃ z, z < n ∧ g (44 + 5 * i) = nI z ∧ bey w s z)) (fun _ => some (1, τ)) (fun i hi h => (hv i hi).2 h) (fun i hi h => (hv i hi).1 h) no 0 FU (by omega) (by rw [FU_s]; omega) with ⟨j, -, a2, ⟨a3, a4, z, a6, a7, a8⟩, -, a5⟩ | ⟨a1, fu, a2⟩
    · exact Or.inl ⟨⟨z, by omega, a8, Or.inl ⟨j, a2, a3, a7, a4⟩⟩, a5⟩
    · rcases hx (lq1 (fX11_mayAgainst_81 373 (nI t) (nI o) (nI m) (nI (sct w s))) fu) with ⟨⟨z, h1, h2, h3⟩, h4⟩ | ⟨h1, h2⟩
      · exact Or.inl ⟨⟨z, h1, h2, Or.inr h3⟩, Eq.trans a2 h4⟩
      · refine Or.inr ⟨fun ⟨z, z1, z2, z3⟩ => ?_, Eq.trans a2 h2⟩
        rcases z3 with ⟨j, j1, j2, j3, j4⟩ | z3
        · obtain ⟨y, hy, ey⟩ := (hW.2.2.2.2.2.1 j j1).mt j4.1
          have : y = z := (nI_eq (by omega) (by omega)).mp (ey.symm.trans j3)
          exact a1 j (by omega) j1 ⟨j2, j4, y, hy, ey, this ▸ z2⟩
        · exact h1 z z1 z2 z3
  obtain ⟨bg, eg, hg⟩ := r_goesOver hO hW ho (show sct w s < 7 by omega)
  unfold fX11_mayAgainst
  rw [r_secAhead (by omega) hn hk hp hq, bd_v, lt_v, rf_373_13, ln_383, gd_in (n := 5) (by omega) (by decide), gd_in (n := 5) (by omega) (by decide)]
  simp only [nI_cl (show o < 2147483648 by omega), nI_cl (show t < 2147483648 by omega), hq]
  by_cases A : τ 383 o = nI w
  · rw [if_pos A]
    exact ⟨1, rfl, Or.inr ⟨rfl, Or.inl A⟩⟩
  rw [if_neg A, rf_373_11, ln_381, gd_in (n := 5) (by omega) (by decide)]
  by_cases B : τ 381 o = 3
  · rw [if_pos B]
    exact ⟨1, rfl, Or.inr ⟨rfl, Or.inr (Or.inl B)⟩⟩
  rw [if_neg B, eg, bd_v]
  rcases hg with ⟨rfl, hg⟩ | ⟨rfl, hg⟩
  · rw [if_pos rfl]
    exact ⟨1, rfl, Or.inr ⟨rfl, Or.inr (Or.inr (Or.inl hg))⟩⟩
  rw [if_neg (by decide), rf_373_12, ln_382, gd_in (n := 5) (by omega) (by decide), hp, x7, rf_373_23, ln_393, gd_in (n := 35) (by omega) (by decide), nI_cl (by omega)]
  by_cases C : τ 393 (7 * o + s) = 0
  · rw [if_pos C, gd_in (n := 5) (by omega) (by decide), e11_isOver τ o t _ (by omega) (by omega), bd_v, gov_On hO (by omega) (by omega)]
    by_cases D : gov g o (τ 383 o) t = 0
    · rw [if_pos D]
      exact ⟨1, rfl, Or.inr ⟨rfl, Or.inr (Or.inr (Or.inr (Or.inr (Or.inl D))))⟩⟩
    · rw [if_neg D, lt_v]
      rcases main with ⟨h1, h2⟩ | ⟨h1, h2⟩
      · exact ⟨1, h2, Or.inr ⟨rfl, Or.inr (Or.inr (Or.inr (Or.inr (Or.inr (Or.inl h1)))))⟩⟩
      · refine ⟨bf, h2, hf.imp (fun h => ⟨h.1, ?_⟩) (fun h => ⟨h.1, Or.inr (Or.inr (Or.inr (Or.inr (Or.inr (Or.inr h.2)))))⟩)⟩
        rintro (q | q | q | q | q | q | q)
        · exact A q
        · exact B q
        · exact q hg
        · exact q C
        · exact D q
        · exact h1 q
        · exact h.2 q
  · rw [if_neg C]
    exact ⟨1, rfl, Or.inr ⟨rfl, Or.inr (Or.inr (Or.inr (Or.inl C)))⟩⟩
/-- a reason, by what is asked in turn -/
def WN (r : Int32) (A1 A2 A3 A4 A5 : Prop) : Prop := (¬ A1 ∧ r = 1) ∨ (A1 ∧ ¬ A2 ∧ r = 2) ∨ (A1 ∧ A2 ∧ ¬ A3 ∧ r = 3) ∨ (A1 ∧ A2 ∧ A3 ∧ ¬ A4 ∧ r = 4) ∨ (A1 ∧ A2 ∧ A3 ∧ A4 ∧ ¬ A5 ∧ r = 5) ∨ (A1 ∧ A2 ∧ A3 ∧ A4 ∧ A5 ∧ r = 0)
theorem WN_eq {r r' : Int32} {A1 A2 A3 A4 A5 : Prop} (h : WN r A1 A2 A3 A4 A5) (h' : WN r' A1 A2 A3 A4 A5) : r = r' := by
  unfold WN at h h'
  by_cases a : A1 <;> by_cases b : A2 <;> by_cases c : A3 <;> by_cases d : A4 <;> by_cases e : A5 <;> simp only [a, b, c, d, e, not_true_eq_false, not_false_eq_true, true_and, false_and, and_false, false_or, or_false] at h h' <;> rw [h, h']
theorem r_whyNot {τ : Sg} {g : Nat → Int32} {E : Option (Nat × Nat × Nat)} {n nt no nf t m w s : Nat} (hO : On τ g) (hW : Wf g n nt no nf) (hX : Xok E n nt) (hM : MoE τ E) (ht : t < nt) (hm : m ≤ 500) (hk : okW w s n) (hp : τ 382 t = nI s) (hq : τ 383 t = nI w) : ∃ r ρ, fX11_whyNot 373 (nI t) (nI m) τ = some (r, ρ) ∧ (∀ c i, c ≠ 380 → ρ c i = τ c i) ∧ WN r (erl g (hE g no t m) no t s ≤ nI m) (wmx g (hE g no t m) t s no ≤ nI m) (∀ o, o < nt → ¬ (o ≠ t ∧ ¬ met τ o s ∧ (mtb g (hE g no t m) t s o no ∨ xmt E t s o))) (∀ o, o < nt → o ≠ t → agn τ g (hE g no t m) E no t o m w s) (10 ≤ nI m - τ 388 (7 * w + s)) := by
  have hno := hW.no
  have hnt := hW.nt
  have hn : n ≤ 7 := hW.1.1.2
  have hsn : s < n := hk.1
  have hw2 : w < 2 := by rcases hk.2 with ⟨h, -⟩ | ⟨h, -⟩ <;> omega
  obtain ⟨ρ, e1, hR, hf⟩ := e11_findHeld hO hW (show t < 5 by omega) hm
  have hO' : On ρ g := fun k hk => by rw [hf _ _ (by decide)]; exact hO k hk
  have hp' : ρ 382 t = nI s := by rw [hf _ _ (by decide), hp]
  have hq' : ρ 383 t = nI w := by rw [hf _ _ (by decide), hq]
  have hM' : MoE ρ E := by
    unfold MoE Mo at *
    rw [hf _ _ (by decide), hf _ _ (by decide), hf _ _ (by decide)]
    exact hM
  have hmet : ∀ o, met ρ o s ↔ met τ o s := fun o => by unfold met; rw [hf _ _ (by decide), hf _ _ (by decide)]
  have hagn : ∀ o, agn ρ g (hE g no t m) E no t o m w s ↔ agn τ g (hE g no t m) E no t o m w s := fun o => by unfold agn; rw [hf _ _ (by decide), hf _ _ (by decide), hf _ _ (by decide)]
  have t14 := hO'.nt hW
  unfold fX11_whyNot
  rw [e1, bd_v, r_time hO' hW hR ht hm (by omega) hp', bd_v]
  by_cases A1 : ¬ erl g (hE g no t m) no t s ≤ nI m
  · rw [if_neg A1, if_pos rfl]
    exact ⟨1, ρ, rfl, hf, Or.inl ⟨A1, rfl⟩⟩
  replace A1 := Decidable.not_not.mp A1
  rw [if_pos A1, if_neg (by decide), r_wait hO' hW hR ht hm (by omega) hp', bd_v]
  by_cases A2 : ¬ wmx g (hE g no t m) t s no ≤ nI m
  · rw [if_neg A2, if_pos rfl]
    exact ⟨2, ρ, rfl, hf, Or.inr (Or.inl ⟨A1, A2, rfl⟩)⟩
  replace A2 := Decidable.not_not.mp A2
  rw [if_pos A2, if_neg (by decide)]
  rcases r_meets hO' hW hX hM' hR ht hsn hp' with ⟨⟨o, ho, h1, h2, h3⟩, h4⟩ | ⟨h1, h4⟩
  · rw [h4, bd_v, if_pos rfl]
    exact ⟨3, ρ, rfl, hf, Or.inr (Or.inr (Or.inl ⟨A1, A2, fun q => q o ho ⟨h1, fun z => h2 ((hmet o).mpr z), h3⟩, rfl⟩))⟩
  have A3 : ∀ o, o < nt → ¬ (o ≠ t ∧ ¬ met τ o s ∧ (mtb g (hE g no t m) t s o no ∨ xmt E t s o)) := fun o ho q => h1 o ho ⟨q.1, fun z => q.2.1 ((hmet o).mp z), q.2.2⟩
  rw [h4, bd_v, if_neg (by decide), lt_v]
  have hc : ∀ o, o < nt → ∀ K, (¬ (o ≠ t → agn τ g (hE g no t m) E no t o m w s) ∧ fX11_whyNot_40 373 (nI t) (nI m) K (nI o) ρ = some (4, ρ)) ∨ ((o ≠ t → agn τ g (hE g no t m) E no t o m w s) ∧ fX11_whyNot_40 373 (nI t) (nI m) K (nI o) ρ = K (nI (o + 1)) ρ) := by
    intro o ho K
    obtain ⟨b, eb, hb⟩ := r_against hO' hW hX hM' hR ht ho hk hp' hq'
    unfold fX11_whyNot_40 fX11_whyNot_68
    rw [rf_373_0, ln_374, gd14, cl14, t14, if_neg (nle_of ho (by omega)), eb, bd_v, lt_v, nI_1]
    by_cases B : o = t
    · rw [if_pos (by rw [B])]
      exact Or.inr ⟨fun h => absurd B h, rfl⟩
    · rw [if_neg (fun h => B ((nI_eq (by omega) (by omega)).mp h))]
      rcases hb with ⟨rfl, hb⟩ | ⟨rfl, hb⟩
      · rw [if_pos rfl]
        exact Or.inl ⟨fun h => hb ((hagn o).mpr (h B)), rfl⟩
      · rw [if_neg (by decide)]
        exact Or.inr ⟨fun _ => (hagn o).mp hb, rfl⟩
  have x7 : (7 : Int32) * nI w + nI s = nI (7 * w + s) := by rw [show (7 : Int32) = nI 7 from rfl, pk_mul, nI_add]
  have k3 : ∀ K, fX11_whyNot_40 373 (nI t) (nI m) K (nI nt) ρ = if 10 ≤ nI m - τ 388 (7 * w + s) then some (0, ρ) else some (5, ρ) := by
    intro K
    unfold fX11_whyNot_40
    rw [rf_373_0, ln_374, gd14, cl14, t14, if_pos (nI_le (Nat.le_refl _) (by omega)), rf_373_13, rf_373_12, rf_373_18, ln_382, ln_383, ln_388, gd_in (n := 5) (by omega) (by decide), gd_in (n := 5) (by omega) (by decide), nI_cl (show t < 2147483648 by omega), hp', hq', x7, gd_in (n := 14) (by omega) (by decide), nI_cl (by omega), hf _ _ (by decide)]
  rcases fl1' nt (by omega) (fun o => ¬ (o ≠ t → agn τ g (hE g no t m) E no t o m w s)) _ _ (fun i hi h K => (hc i hi K).elim (fun q => absurd q.1 h) (fun q => q.2)) (fun i hi h K => (hc i hi K).elim (fun q => q.2) (fun q => absurd q.1 h)) k3 with ⟨⟨o, ho, h5⟩, h6⟩ | ⟨h5, h6⟩
  · rw [h6]
    exact ⟨4, ρ, rfl, hf, Or.inr (Or.inr (Or.inr (Or.inl ⟨A1, A2, A3, fun q => h5 (q o ho), rfl⟩)))⟩
  · have A4 : ∀ o, o < nt → o ≠ t → agn τ g (hE g no t m) E no t o m w s := fun o ho => Classical.not_not.mp (h5 o ho)
    rw [h6]
    by_cases A5 : 10 ≤ nI m - τ 388 (7 * w + s)
    · rw [if_pos A5]
      exact ⟨0, ρ, rfl, hf, Or.inr (Or.inr (Or.inr (Or.inr (Or.inr ⟨A1, A2, A3, A4, A5, rfl⟩))))⟩
    · rw [if_neg A5]
      exact ⟨5, ρ, rfl, hf, Or.inr (Or.inr (Or.inr (Or.inr (Or.inl ⟨A1, A2, A3, A4, A5, rfl⟩))))⟩
