/-! PURE: a train comes in, on both sides -/
/-- the reference when a train is at s -/
def atS (τ : Sg) (t s : Nat) (v : Int32) : Sg := nc0 (wr (wr (wr (wr τ 381 t 1) 382 t (nI s)) 392 (7 * t + s) 1) 393 (7 * t + s) 1) 386 (7 * t + s) v
theorem atS_o {τ : Sg} {t s c i : Nat} {v : Int32} (h : c ≠ 381 ∧ c ≠ 382 ∧ c ≠ 392 ∧ c ≠ 393 ∧ c ≠ 386) : atS τ t s v c i = τ c i := by
  unfold atS
  rw [nc0_o h.2.2.2.2, wr_c h.2.2.2.1, wr_c h.2.2.1, wr_c h.2.1, wr_c h.1]
theorem atS_n {τ : Sg} {t s i : Nat} {v : Int32} (h : i ≠ t) : atS τ t s v 381 i = τ 381 i ∧ atS τ t s v 382 i = τ 382 i := by
  unfold atS
  constructor
  · rw [nc0_o (by decide), wr_c (by decide), wr_c (by decide), wr_c (by decide), wr_i h]
  · rw [nc0_o (by decide), wr_c (by decide), wr_c (by decide), wr_i h, wr_c (by decide)]
theorem atS_t {τ : Sg} {t s : Nat} {v : Int32} : atS τ t s v 381 t = 1 ∧ atS τ t s v 382 t = nI s := by
  unfold atS
  constructor
  · rw [nc0_o (by decide), wr_c (by decide), wr_c (by decide), wr_c (by decide), wr_eq]
  · rw [nc0_o (by decide), wr_c (by decide), wr_c (by decide), wr_eq]
theorem atS_w {τ : Sg} {t s j : Nat} {v : Int32} : atS τ t s v 392 j = (if j = 7 * t + s then 1 else τ 392 j) ∧ atS τ t s v 393 j = (if j = 7 * t + s then 1 else τ 393 j) := by
  unfold atS
  constructor
  · rw [nc0_o (by decide), wr_c (by decide)]
    by_cases q : j = 7 * t + s
    · rw [if_pos q, q, wr_eq]
    · rw [if_neg q, wr_i q, wr_c (by decide), wr_c (by decide)]
  · rw [nc0_o (by decide)]
    by_cases q : j = 7 * t + s
    · rw [if_pos q, q, wr_eq]
    · rw [if_neg q, wr_i q, wr_c (by decide), wr_c (by decide), wr_c (by decide)]
theorem atS_m {σ τ : Sg} {t s m : Nat} (ht : t < 5) (hs : s < 7) (hm : m ≤ 500) (h : MN σ τ 25 386) : MN (nc σ 25 (7 * t + s) (nI m)) (atS τ t s (nI m)) 25 386 := by
  have := nc_same (σ := σ) (τ := wr (wr (wr (wr τ 381 t 1) 382 t (nI s)) 392 (7 * t + s) 1) 393 (7 * t + s) 1) (c := 25) (c' := 386) (j := 7 * t + s) (N := 35) hm (fun i hi => by rw [wr_c (by decide), wr_c (by decide), wr_c (by decide), wr_c (by decide)]; exact h i hi) (by omega)
  exact this
theorem MN_o {σ σ' τ τ' : Sg} {c c' : Nat} (h1 : ∀ i, σ' c i = σ c i) (h2 : ∀ i, τ' c' i = τ c' i) (h : MN σ τ c c') : MN σ' τ' c c' := fun i hi => by rw [h1, h2]; exact h i hi
/-- the station that a train in section p comes to -/
def arr (w p : Nat) : Nat := if w = 0 then p + 1 else p
theorem r_comesIn {τ : Sg} {g : Nat → Int32} {n nt no nf t m p w b : Nat} (hW : Wf g n nt no nf) (hO : On τ g) (ht : t < nt) (hw : w < 2) (hb : b < 2) (hs : arr w p < 7) (h1 : τ 382 t = nI p) (h2 : τ 383 t = nI w) (h3 : τ 391 t = nI b) : fX11_comesIn 373 (nI t) (nI m) τ = if nI (arr w p) = (if b = 0 then g (17 + 5 * t) else g (16 + 5 * t)) then (if b = 0 then (if g (15 + 5 * t) = 3 then fX11_comesIn_105 373 (nI t) (nI (arr w p)) 1 (atS τ t (arr w p) (nI m)) else fX11_comesIn_90 373 (nI t) (nI m) (atS τ t (arr w p) (nI m))) else fX11_comesIn_90 373 (nI t) (nI m) (atS τ t (arr w p) (nI m))) else fX11_comesIn_170 373 (nI t) (nI (arr w p)) (atS τ t (arr w p) (nI m)) := by
  have hnt := hW.nt
  have e26 : fX11_comesIn 373 (nI t) (nI m) τ = fX11_comesIn_26 373 (nI t) (nI m) (nI (arr w p)) τ := by
    unfold fX11_comesIn arr
    rw [rf_373_13, rf_373_12, ln_382, ln_383, gd5 (by omega), gd5 (by omega), gd5 (by omega), nI_cl (by omega), h1, h2]
    by_cases A : w = 0
    · rw [if_pos (show nI w = 0 by rw [A]; rfl), if_pos A, nI_1]
    · rw [if_neg (show ¬ nI w = 0 from nI_ne0 (by omega) (by omega)), if_neg A]
  have hO' : On (atS τ t (arr w p) (nI m)) g := fun k hk => by rw [atS_o (by omega)]; exact hO k hk
  have h3' : atS τ t (arr w p) (nI m) 391 t = nI b := by rw [atS_o (by omega), h3]
  rw [e26]
  unfold fX11_comesIn_26
  rw [lt_v, r_isAt (by omega) hs, bd_v]
  show gd _ (if atS τ t (arr w p) (nI m) _ _ = 0 then bd (fX11_toOf 373 (nI t) (atS τ t (arr w p) (nI m))) _ else bd (fX11_fromOf 373 (nI t) (atS τ t (arr w p) (nI m))) _) = _
  rw [rf_373_21, ln_391, gd5 (by omega), nI_cl (by omega), h3', e11_toOf _ t (by omega), bd_v, e11_fromOf _ t (by omega), bd_v, hO' _ (by omega), hO' _ (by omega)]
  unfold fX11_comesIn_57 fX11_comesIn_65
  simp only [lt_v, if_true, if_neg (show ¬ (1 : Int32) = 0 by decide), rf_373_21, ln_391, gd5 (show t < 5 by omega), nI_cl (show t < 2147483648 by omega), h3', e11_kindOf _ t (show t < 5 by omega), bd_v, hO' (15 + 5 * t) (by omega)]
  have e0 : fX11_comesIn_105 373 (nI t) (nI (arr w p)) 0 (atS τ t (arr w p) (nI m)) = fX11_comesIn_170 373 (nI t) (nI (arr w p)) (atS τ t (arr w p) (nI m)) := by
    unfold fX11_comesIn_105
    rw [if_pos rfl]
  by_cases B : b = 0
  · subst B
    simp only [if_pos nI_0, if_true, e0]
  · simp only [if_neg (show ¬ nI b = 0 from nI_ne0 (by omega) (by omega)), if_neg B, e0]
theorem ring1 (a m D T : Int32) : a + ((m - (T + D)) - 1000) = a + ((m - T - D) - 1000) := by grind
theorem ring2 (a m D T : Int32) : a + ((m - (T + D + (T + D - T))) - 1000) = a + ((m - T - 2 * D) - 1000) := by grind
theorem off_delay {g f f' : Nat → Int32} {nt t d ff m : Nat} (ht : t < nt) (ho : ∀ o, o < nt → o ≠ t → f' o = f o) (h0 : f t = -1) (h1 : f' t = nI m) (hm : m ≤ 500) (hd : d < 7) (hff : ff < 7) (e2 : g (16 + 5 * t) = nI ff) (e3 : g (17 + 5 * t) = nI d) : dl g f' nt = dl g f nt + ((nI m - (if g (15 + 5 * t) = 3 then du g t d + (du g t d - g (19 + 5 * t)) else du g t d)) - 1000) := by
  rw [(dl_upd nt ho).2 ht]
  have a1 : dlt g f t = 1000 := by
    unfold dlt
    rw [h0, if_pos (by decide)]
  rw [a1]
  unfold dlt du
  rw [h1, if_neg (not_lt0 (by omega)), e2, e3, nI_cl (by omega), nI_cl (by omega)]
  by_cases A : g (15 + 5 * t) = 3
  · rw [if_pos A, if_pos A, ring2]
  · rw [if_neg A, if_neg A, ring1]
