/-! PURE: the small acts of a day -/
def nc (σ : Sg) (c j : Nat) (v : Int32) : Sg := if σ c j = -1 then wr σ c j v else σ
def nc0 (σ : Sg) (c j : Nat) (v : Int32) : Sg := if 0 ≤ σ c j then σ else wr σ c j v
theorem nc_o {σ : Sg} {c j c' i : Nat} {v : Int32} (h : c' ≠ c) : nc σ c j v c' i = σ c' i := by
  unfold nc
  split
  · exact wr_c h
  · rfl
theorem nc0_o {σ : Sg} {c j c' i : Nat} {v : Int32} (h : c' ≠ c) : nc0 σ c j v c' i = σ c' i := by
  unfold nc0
  split
  · rfl
  · exact wr_c h
/-- both note a minute only once -/
theorem nc_same {σ τ : Sg} {c c' j m N : Nat} (hm : m ≤ 500) (h : ∀ i, i < N → σ c i = τ c' i ∧ (τ c' i = -1 ∨ ∃ v, v ≤ 500 ∧ τ c' i = nI v)) (hj : j < N) : ∀ i, i < N → nc σ c j (nI m) c i = nc0 τ c' j (nI m) c' i ∧ (nc0 τ c' j (nI m) c' i = -1 ∨ ∃ v, v ≤ 500 ∧ nc0 τ c' j (nI m) c' i = nI v) := by
  intro i hi
  obtain ⟨h1, h2⟩ := h j hj
  obtain ⟨h3, h4⟩ := h i hi
  unfold nc nc0
  rcases h2 with e | ⟨v, hv, e⟩
  · rw [if_pos (by rw [h1, e]), if_neg (by rw [e]; decide)]
    by_cases q : i = j
    · subst q
      rw [wr_eq, wr_eq]
      exact ⟨rfl, Or.inr ⟨m, hm, rfl⟩⟩
    · rw [wr_i q, wr_i q]
      exact ⟨h3, h4⟩
  · rw [if_neg (by rw [h1, e]; exact nI_m1 (by omega)), if_pos (by rw [e]; exact nI_pos' (by omega))]
    exact ⟨h3, h4⟩
theorem i7 (t s : Nat) : nI t * 7 + nI s = nI (7 * t + s) := by rw [show (7 : Int32) = nI 7 from rfl, pk_mul, nI_add, Nat.mul_comm]
theorem j7 (t s : Nat) : (7 : Int32) * nI t + nI s = nI (7 * t + s) := by rw [show (7 : Int32) = nI 7 from rfl, pk_mul, nI_add]
theorem gd5 {β : Type} {F : Option β} {t : Nat} (h : t < 5) : gd (inR (nI t) 5) F = F := gd_in h (by decide)
theorem gd35 {β : Type} {F : Option β} {t : Nat} (h : t < 35) : gd (inR (nI t) 35) F = F := gd_in h (by decide)
theorem gd_14 {β : Type} {F : Option β} {t : Nat} (h : t < 14) : gd (inR (nI t) 14) F = F := gd_in h (by decide)
theorem c_noteCame {σ : Sg} {t s : Nat} {v : Int32} (ht : t < 5) (hs : s < 7) : fX1_noteCame 22 (nI t) (nI s) v σ = some ((), nc σ 25 (7 * t + s) v) := by
  unfold fX1_noteCame nc
  simp only [lt_v, i7, rf_22_3, ln_25, gd35 (show 7 * t + s < 35 by omega), nI_cl (show 7 * t + s < 2147483648 by omega)]
  split <;> rfl
theorem c_noteLeft {σ : Sg} {t s : Nat} {v : Int32} (ht : t < 5) (hs : s < 7) : fX1_noteLeft 22 (nI t) (nI s) v σ = some ((), nc σ 26 (7 * t + s) v) := by
  unfold fX1_noteLeft nc
  simp only [lt_v, i7, rf_22_4, ln_26, gd35 (show 7 * t + s < 35 by omega), nI_cl (show 7 * t + s < 2147483648 by omega)]
  split <;> rfl
theorem c_stand {σ : Sg} {t s w : Nat} (ht : t < 5) (hs : s < 7) (hw : w < 2) (h : σ 31 t = nI w) : fX0_stand 2 (nI t) (nI s) σ = some ((), wr (wr σ 30 t (nI s)) 35 (7 * w + s) (σ 35 (7 * w + s) ||| ((1 : Int32) <<< (nI t &&& 31)))) := by
  unfold fX0_stand
  simp only [lt_v, rf_2_6, rf_2_7, rf_2_11, ln_30, ln_31, ln_35, gd5 ht, nI_cl (show t < 2147483648 by omega), wr_c (show 31 ≠ 30 by decide), wr_c (show 35 ≠ 30 by decide), h, i7, gd_14 (show 7 * w + s < 14 by omega), nI_cl (show 7 * w + s < 2147483648 by omega)]
theorem c_goOff {σ : Sg} {t d : Nat} {v : Int32} (ht : t < 5) (hd : d < 7) (h : σ 10 t = nI d) : fX0_goOff 2 (nI t) v σ = some ((), wr (wr (wr σ 30 t 300) 2 14 (σ 2 14 ||| ((1 : Int32) <<< (nI t &&& 31)))) 22 12 (σ 22 12 + ((v - (if σ 8 t = 3 then σ 28 (7 * t + d) + (σ 28 (7 * t + d) - σ 12 t) else σ 28 (7 * t + d))) - 1000))) := by
  unfold fX0_goOff fX0_goOff_77
  simp only [lt_v, rf_2_0, rf_2_1, rf_2_4, rf_2_6, rf_3_1, rf_7_1, rf_7_3, rf_7_5, ln_8, ln_10, ln_12, ln_28, ln_30, gd5 ht, nI_cl (show t < 2147483648 by omega), wr_c (show 2 ≠ 30 by decide), wr_c (show 10 ≠ 2 by decide), wr_c (show 10 ≠ 30 by decide), h, i7, gd35 (show 7 * t + d < 35 by omega), nI_cl (show 7 * t + d < 2147483648 by omega), wr_c (show 28 ≠ 2 by decide), wr_c (show 28 ≠ 30 by decide), wr_c (show 8 ≠ 2 by decide), wr_c (show 8 ≠ 30 by decide), wr_c (show 12 ≠ 2 by decide), wr_c (show 12 ≠ 30 by decide), wr_c (show 22 ≠ 2 by decide), wr_c (show 22 ≠ 30 by decide)]
  split <;> rfl
theorem c_turnBack {σ : Sg} {t w k : Nat} (ht : t < 5) (hw : w < 2) (hk : k < 4) (h : σ 31 t = nI w) (h8 : σ 8 t = nI k) : fX0_turnBack 2 (nI t) σ = some ((), wr (wr (wr σ 31 t (nI (1 - w))) 32 t (2 * rnk k + (if nI (1 - w) = 0 then 1 else 0))) 33 t (σ 9 t)) := by
  have ew : (1 : Int32) - nI w = nI (1 - w) := pk_sub (a := 1) (b := w) (by omega)
  unfold fX0_turnBack
  simp only [lt_v, rf_2_0, rf_2_7, rf_2_8, rf_2_9, rf_3_1, rf_7_2, ln_9, ln_31, ln_32, ln_33, gd5 ht, nI_cl (show t < 2147483648 by omega), h, ew, wr_eq]
  rw [e9_strength _ t k _ ht hk (by rw [wr_c (by decide), h8]), bd_v]
  simp only [wr_c (show 9 ≠ 32 by decide), wr_c (show 9 ≠ 31 by decide)]
theorem r_isAt {τ : Sg} {t s : Nat} {v : Int32} (ht : t < 5) (hs : s < 7) : fX11_isAt 373 (nI t) (nI s) v τ = some ((), nc0 (wr (wr (wr (wr τ 381 t 1) 382 t (nI s)) 392 (7 * t + s) 1) 393 (7 * t + s) 1) 386 (7 * t + s) v) := by
  unfold fX11_isAt nc0
  simp only [lt_v, vb1, j7, rf_373_11, rf_373_12, rf_373_16, rf_373_22, rf_373_23, ln_381, ln_382, ln_386, ln_392, ln_393, gd5 ht, gd35 (show 7 * t + s < 35 by omega), nI_cl (show t < 2147483648 by omega), nI_cl (show 7 * t + s < 2147483648 by omega)]
  split <;> rfl
/-- counting at a station: how many others, and is one short -/
def fo (a f : Nat → Bool) (t : Nat) (z : Int32) : Nat → Int32 × Int32
  | 0 => (0, z)
  | o + 1 => if o = t then fo a f t z o else if a o = true then ((fo a f t z o).1 + 1, if (fo a f t z o).2 = 0 then (if f o = true then 1 else 0) else 1) else fo a f t z o
def fv (x : Int32 × Int32) : Int32 := if 2 ≤ x.1 then 1 else if x.1 = 1 then (if x.2 = 0 then 1 else 0) else 0
theorem le2 (x : Int32) : (2 : Int32) ≤ x ↔ (1 : Int32) < x := by
  rw [Int32.le_iff_toInt_le, Int32.lt_iff_toInt_lt, show (2 : Int32).toInt = 2 from by decide, show (1 : Int32).toInt = 1 from by decide]
  omega
def ft (g : Nat → Int32) (s o : Nat) : Bool := decide (¬ g (1 + s) < g (18 + 5 * o))
theorem c_isFoul {σ : Sg} {g : Nat → Int32} {n nt no nf t s : Nat} (hW : Wf g n nt no nf) (hL : LR σ 3 g) (ht : t < nt) (hs : s < 7) : fX0_isFoul 2 (nI t) (nI s) σ = some (fv (fo (fun o => decide (σ 30 o = nI s)) (ft g s) t (if ft g s t = true then 1 else 0) nt), σ) := by
  have hnt := hW.nt
  have h7 : σ 7 0 = nI nt := hL.1.2.1.trans hW.2.1.2.1
  have h5 : σ 5 s = g (1 + s) := hL.2.1 s hs
  have h11 : ∀ o, o < 5 → σ 11 o = g (18 + 5 * o) := fun o ho => (hL.2.2.2.1 o ho).2.1
  have hst : ∀ z i (v w : Int32) (ρ : Sg), i < nt → (ρ = σ ∧ (v, w) = fo (fun o => decide (σ 30 o = nI s)) (ft g s) t z i) → ∃ v' w' ρ', (∀ K, fX0_isFoul_42 2 (nI t) (nI s) (g (1 + s)) K v w (nI i) ρ = K v' w' (nI (i + 1)) ρ') ∧ (ρ' = σ ∧ (v', w') = fo (fun o => decide (σ 30 o = nI s)) (ft g s) t z (i + 1)) := by
    rintro z i v w ρ hi ⟨hρ, hv⟩
    refine ⟨(fo (fun o => decide (σ 30 o = nI s)) (ft g s) t z (i + 1)).1, (fo (fun o => decide (σ 30 o = nI s)) (ft g s) t z (i + 1)).2, σ, fun K => ?_, rfl, rfl⟩
    have hf : fo (fun o => decide (σ 30 o = nI s)) (ft g s) t z (i + 1) = if i = t then (v, w) else if decide (σ 30 i = nI s) = true then (v + 1, if w = 0 then (if ft g s i = true then 1 else 0) else 1) else (v, w) := by
      show (if i = t then _ else _) = _
      rw [← hv]
    rw [hρ, hf]
    unfold fX0_isFoul_42 fX0_isFoul_106 fX0_isFoul_104 fX0_isFoul_99 fX0_isFoul_104 fX0_isFoul_106
    simp only [lt_v, rf_2_0, rf_3_1, rf_2_6, rf_7_4, ln_30, ln_11, h7, if_neg (nle_of hi (show nt < 2 ^ 31 by omega)), gd5 (show i < 5 by omega), nI_cl (show i < 2147483648 by omega), h11 i (by omega), nI_1]
    by_cases A : i = t
    · rw [if_pos (by rw [A]), if_pos A]
    · rw [if_neg (fun q => A ((nI_eq (by omega) (by omega)).mp q)), if_neg A]
      by_cases B : σ 30 i = nI s
      · rw [if_pos B, if_pos (decide_eq_true B)]
        unfold ft
        by_cases C : w = 0
        · rw [if_pos C, if_pos C]
          by_cases D : g (1 + s) < g (18 + 5 * i)
          · rw [if_pos D, if_neg (by simpa using D)]
          · rw [if_neg D, if_pos (by simpa using D)]
        · rw [if_neg C, if_neg C]
      · rw [if_neg B, if_neg (by simpa using B)]
  have e37 : ∀ z, fX0_isFoul_37 2 (nI t) (nI s) (g (1 + s)) 0 z σ = some (fv (fo (fun o => decide (σ 30 o = nI s)) (ft g s) t z nt), σ) := by
    intro z
    obtain ⟨v, w, ρ, fu, e, hρ, hv⟩ := sl3 (b := fX0_isFoul_42 2 (nI t) (nI s) (g (1 + s))) nt _ (hst z) nt 0 FU 0 z σ (by omega) (by rw [FU_s]; omega) ⟨rfl, rfl⟩
    unfold fX0_isFoul_37
    rw [lt_v, lt_v]
    refine Eq.trans e ?_
    rw [hρ, ← hv]
    generalize lq3 (fX0_isFoul_42 2 (nI t) (nI s) (g (1 + s))) fu = KK
    unfold fX0_isFoul_42 fv
    rw [rf_2_0, rf_3_1, h7, if_pos (nI_le (Nat.le_refl _) (by omega))]
    show _ = some ((if 2 ≤ v then 1 else if v = 1 then (if w = 0 then 1 else 0) else 0), σ)
    repeat' split
    all_goals rfl
  unfold fX0_isFoul
  rw [rf_2_0, rf_3_0, rf_3_1, rf_4_1, rf_7_4, ln_5, ln_11, gd_in (n := 7) hs (by decide), lt_v, lt_v, gd5 (by omega), nI_cl (by omega), nI_cl (by omega), h5, h11 t (by omega), e37, e37]
  unfold ft
  by_cases D : g (1 + s) < g (18 + 5 * t)
  · rw [if_pos D, if_neg (by simpa using D)]
  · rw [if_neg D, if_pos (by simpa using D)]
theorem r_lengthFits {τ : Sg} {g : Nat → Int32} {o s : Nat} (hO : On τ g) (ho : o < 5) (hs : s < 7) : fX11_lengthFits 373 (nI o) (nI s) τ = some (if ft g s o = true then 1 else 0, τ) := by
  have x1 : (15 : Int32) + 5 * nI o + 3 = nI (18 + 5 * o) := by
    rw [ix2 (A := 15) (B := 5) 15 5 o rfl rfl, show (3 : Int32) = nI 3 from rfl, nI_add]; congr 1; omega
  unfold fX11_lengthFits ft
  rw [rf_373_0, ln_374, x1, show (1 : Int32) + nI s = nI (1 + s) from nI_add 1 s, gd_in (n := 174) (by omega) (by decide), gd_in (n := 174) (by omega) (by decide), nI_cl (by omega), nI_cl (by omega), hO _ (by omega), hO _ (by omega)]
  by_cases D : g (1 + s) < g (18 + 5 * o)
  · rw [if_pos D, if_neg (by simpa using D)]; rfl
  · rw [if_neg D, if_pos (by simpa using D)]; rfl
theorem r_170 {τ : Sg} {g : Nat → Int32} {n nt no nf t s : Nat} (a : Nat → Bool) (hW : Wf g n nt no nf) (hO : On τ g) (ht : t < nt) (hs : s < 7) (ha : ∀ o, o < nt → o ≠ t → (a o = true ↔ τ 381 o = 1 ∧ τ 382 o = nI s)) : fX11_comesIn_170 373 (nI t) (nI s) τ = some ((), wr τ 373 31 (τ 373 31 + fv (fo a (ft g s) t (if ft g s t = true then 1 else 0) nt))) := by
  have hnt := hW.nt
  have t14 := hO.nt hW
  have hst : ∀ i (v w : Int32) (ρ : Sg), i < nt → (ρ = τ ∧ (v, w) = fo a (ft g s) t (if ft g s t = true then 1 else 0) i) → ∃ v' w' ρ', (∀ K, fX11_comesIn_184 373 (nI t) (nI s) K v w (nI i) ρ = K v' w' (nI (i + 1)) ρ') ∧ (ρ' = τ ∧ (v', w') = fo a (ft g s) t (if ft g s t = true then 1 else 0) (i + 1)) := by
    rintro i v w ρ hi ⟨hρ, hv⟩
    refine ⟨(fo a (ft g s) t (if ft g s t = true then 1 else 0) (i + 1)).1, (fo a (ft g s) t (if ft g s t = true then 1 else 0) (i + 1)).2, τ, fun K => ?_, rfl, rfl⟩
    have hf : fo a (ft g s) t (if ft g s t = true then 1 else 0) (i + 1) = if i = t then (v, w) else if a i = true then (v + 1, if w = 0 then (if ft g s i = true then 1 else 0) else 1) else (v, w) := by
      show (if i = t then _ else _) = _
      rw [← hv]
    rw [hρ, hf]
    unfold fX11_comesIn_184 fX11_comesIn_252 fX11_comesIn_250 fX11_comesIn_245 fX11_comesIn_250 fX11_comesIn_252
    simp only [lt_v, rf_373_0, ln_374, gd14, cl14, t14, if_neg (nle_of hi (show nt < 2 ^ 31 by omega)), rf_373_11, rf_373_12, ln_381, ln_382, gd5 (show i < 5 by omega), nI_cl (show i < 2147483648 by omega), r_lengthFits hO (show i < 5 by omega) hs, bd_v, nI_1]
    by_cases A : i = t
    · rw [if_pos (by rw [A]), if_pos A]
    · rw [if_neg (fun q => A ((nI_eq (by omega) (by omega)).mp q)), if_neg A]
      by_cases B : a i = true
      · obtain ⟨b1, b2⟩ := (ha i hi A).mp B
        rw [if_pos b1, if_pos b2, if_pos B]
        by_cases C : w = 0
        · rw [if_pos C, if_pos C]
          by_cases D : ft g s i = true
          · rw [if_pos D, if_neg (by decide)]
          · rw [if_neg D, if_pos rfl]
        · rw [if_neg C, if_neg C]
      · rw [if_neg B]
        by_cases C : τ 381 i = 1
        · rw [if_pos C, if_neg (fun q => B ((ha i hi A).mpr ⟨C, q⟩))]
        · rw [if_neg C]
  obtain ⟨v, w, ρ, fu, e, hρ, hv⟩ := sl3 (b := fX11_comesIn_184 373 (nI t) (nI s)) nt _ hst nt 0 FU 0 (if ft g s t = true then 1 else 0) τ (by omega) (by rw [FU_s]; omega) ⟨rfl, rfl⟩
  unfold fX11_comesIn_170
  rw [lt_v, r_lengthFits hO (by omega) hs, bd_v, lt_v, lt_v]
  refine Eq.trans e ?_
  rw [hρ, ← hv]
  generalize lq3 (fX11_comesIn_184 373 (nI t) (nI s)) fu = KK
  unfold fX11_comesIn_184 fv
  rw [rf_373_0, ln_374, gd14, cl14, t14, if_pos (nI_le (Nat.le_refl _) (by omega))]
  show _ = some ((), wr τ 373 31 (τ 373 31 + (if 2 ≤ v then 1 else if v = 1 then (if w = 0 then 1 else 0) else 0)))
  simp only [le2, lt_v]
  repeat' split
  all_goals rfl
/-- the reference forgets where it was on its way there -/
theorem r_turn {τ : Sg} {t s w : Nat} (ht : t < 5) (hs : s < 7) (hw : w < 2) (h : τ 383 t = nI w) : fX11_comesIn_105 373 (nI t) (nI s) 1 τ = fX11_comesIn_170 373 (nI t) (nI s) (upR (wr (wr τ 391 t 1) 383 t (nI (1 - w))) 393 (7 * t) (7 * t + 7) (fun j => if j = 7 * t + s then 1 else 0)) := by
  have ew : (1 : Int32) - nI w = nI (1 - w) := pk_sub (a := 1) (b := w) (by omega)
  have hst : ∀ i (ρ : Sg), i < 7 → ρ = upR (wr (wr τ 391 t 1) 383 t (nI (1 - w))) 393 (7 * t) (7 * t + i) (fun j => if j = 7 * t + s then 1 else 0) → ∃ ρ', (∀ K, fX11_comesIn_134 373 (nI t) (nI s) K (nI i) ρ = K (nI (i + 1)) ρ') ∧ ρ' = upR (wr (wr τ 391 t 1) 383 t (nI (1 - w))) 393 (7 * t) (7 * t + (i + 1)) (fun j => if j = 7 * t + s then 1 else 0) := by
    intro i ρ hi hρ
    refine ⟨_, fun K => ?_, rfl⟩
    unfold fX11_comesIn_134 fX11_comesIn_163
    simp only [if_neg (show ¬ (7 : Int32) ≤ nI i from nle_of (a := 7) hi (by decide)), lt_v, j7, rf_373_23, ln_393, gd35 (show 7 * t + i < 35 by omega), nI_cl (show 7 * t + i < 2147483648 by omega), nI_1, vb0, vb1, hρ]
    by_cases A : i = s
    · rw [if_pos (by rw [A]), upR_s _ _ _ _ _ (by omega) (by rw [if_pos (by rw [A])])]
      rfl
    · rw [if_neg (fun q => A ((nI_eq (by omega) (by omega)).mp q)), upR_s _ _ _ _ _ (by omega) (by rw [if_neg (by omega)])]
      rfl
  obtain ⟨ρ, fu, e, hρ⟩ := sl1 (b := fX11_comesIn_134 373 (nI t) (nI s)) 7 _ hst 7 0 FU (wr (wr τ 391 t 1) 383 t (nI (1 - w))) (by omega) (by rw [FU_s]; omega) (by rw [show 7 * t + 0 = 7 * t from rfl, upR_0])
  unfold fX11_comesIn_105
  simp only [if_neg (show ¬ (1 : Int32) = 0 by decide), rf_373_13, rf_373_21, ln_383, ln_391, gd5 ht, lt_v, nI_cl (show t < 2147483648 by omega), vb1, wr_c (show 383 ≠ 391 by decide), h, ew]
  refine Eq.trans e ?_
  rw [hρ]
  generalize lq1 (fX11_comesIn_134 373 (nI t) (nI s)) fu = KK
  unfold fX11_comesIn_134
  rw [if_pos (by decide)]
