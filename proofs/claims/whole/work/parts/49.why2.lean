/-! PURE: the class's whyNot gives the reference's reason -/
theorem ago1 : ∀ m, m < 501 → (10 : Int32) ≤ nI m - (-1000 : Int32) := by decide +kernel
theorem ago2 : ∀ m, m < 501 → (10 : Int32) ≤ nI m - (-100 : Int32) := by decide +kernel
theorem c_whyNot {σ τ : Sg} {g : Nat → Int32} {E : Option (Nat × Nat × Nat)} {n nt no nf t m m1 m2 p w b l : Nat} (hW : Wf g n nt no nf) (hX : Xok E n nt) (hS : SC g E n nt σ) (hT : ∀ o, o < nt → Tr g n σ τ m1 m2 o) (hP : Pap σ g E no t (hE g no t m)) (hLL : LL σ τ) (hm : m ≤ 500) (ht : t < nt) (hC : TrC g σ t 1 p w b l) (hG : TrG g n t m1 m2 1 p w b l) : ∃ r, fX0_whyNot 2 (nI t) (nI m) σ = some (r, σ) ∧ WN r (erl g (hE g no t m) no t p ≤ nI m) (wmx g (hE g no t m) t p no ≤ nI m) (∀ o, o < nt → ¬ (o ≠ t ∧ ¬ met τ o p ∧ (mtb g (hE g no t m) t p o no ∨ xmt E t p o))) (∀ o, o < nt → o ≠ t → agn τ g (hE g no t m) E no t o m w p) (10 ≤ nI m - τ 388 (7 * w + p)) := by
  have hnt := hW.nt
  have hn : n ≤ 7 := hW.1.1.2
  have hk := okTr hG
  have hpn : p < n := hk.1
  have hw2 := wTrG hG
  obtain ⟨bb, ebb, hbb⟩ := c_isBarred hW hX hS hT hP ht hC hG
  obtain ⟨⟨c1, c2, kt, hkt, ekt, c3⟩, ⟨c4, c5⟩, c6⟩ := hC
  have c1' : σ 30 t = nI p := c1
  obtain ⟨⟨p0, p1, p2, p3⟩, q1, q2, q3⟩ := rf_pap t (by omega)
  obtain ⟨⟨v1, v2⟩, v3, -⟩ := hS.2 t ht
  have x7 : nI t * 7 + nI p = nI (7 * t + p) := by rw [show (7 : Int32) = nI 7 from rfl, pk_mul, nI_add, Nat.mul_comm]
  have y7 : nI w * 7 + nI p = nI (7 * w + p) := by rw [show (7 : Int32) = nI 7 from rfl, pk_mul, nI_add, Nat.mul_comm]
  have z7 : (7 : Int32) + nI p = nI (7 + p) := nI_add 7 p
  have main : ∃ r, fX0_whyNot_64 2 (nI t) (nI m) (37 + 4 * t) (nI p) (erl g (hE g no t m) no t p) σ = some (r, σ) ∧ WN r (erl g (hE g no t m) no t p ≤ nI m) (wmx g (hE g no t m) t p no ≤ nI m) (∀ o, o < nt → ¬ (o ≠ t ∧ ¬ met τ o p ∧ (mtb g (hE g no t m) t p o no ∨ xmt E t p o))) (∀ o, o < nt → o ≠ t → agn τ g (hE g no t m) E no t o m w p) (10 ≤ nI m - τ 388 (7 * w + p)) := by
    unfold fX0_whyNot_64
    simp only [lt_v, ebb, bd_v, p2, p3, q2, q3, rf_2_11, rf_2_12, rf_2_7, ln_35, ln_36, ln_31, z7, gd_in (show p < 7 by omega) (show 7 < 2147483648 by decide), gd_in (show p < 14 by omega) (show 14 < 2147483648 by decide), gd_in (show 7 + p < 14 by omega) (show 14 < 2147483648 by decide), gd_in (show t < 5 by omega) (show 5 < 2147483648 by decide), nI_cl (show p < 2147483648 by omega), nI_cl (show t < 2147483648 by omega), nI_cl (show 7 + p < 2147483648 by omega), c2, y7, gd_in (show 7 * w + p < 14 by omega) (show 14 < 2147483648 by decide), nI_cl (show 7 * w + p < 2147483648 by omega), hP.2.1 p (by omega)]
    by_cases A1 : ¬ erl g (hE g no t m) no t p ≤ nI m
    · rw [if_neg A1]
      exact ⟨1, rfl, Or.inl ⟨A1, rfl⟩⟩
    replace A1 := Decidable.not_not.mp A1
    rw [if_pos A1]
    by_cases A2 : ¬ wmx g (hE g no t m) t p no ≤ nI m
    · rw [if_neg A2]
      exact ⟨2, rfl, Or.inr (Or.inl ⟨A1, A2, rfl⟩)⟩
    replace A2 := Decidable.not_not.mp A2
    rw [if_pos A2]
    have hmet : ∀ o, o < nt → (bt (σ 35 p ||| σ 35 (7 + p) ||| σ 2 14) o = true ↔ met τ o p) := by
      intro o ho
      obtain ⟨h, po, wo, bo, lo, ⟨⟨r1, r2, r3⟩, ⟨r4, r5⟩, r6, r7⟩, ⟨⟨d1, d2, d3⟩, ⟨d4, d5⟩, d6⟩, hGo, ⟨s1, s2⟩⟩ := hT o ho
      have hh3 : h ≤ 3 := by obtain ⟨f, d, -, ⟨h1, -⟩, -⟩ := hGo; exact h1
      have hb3 : τ 381 o = 3 ↔ h = 3 := by rw [r1]; exact nI_eq (b := 3) (by omega) (by decide)
      unfold met
      rw [b_or, b_or, Bool.or_eq_true, Bool.or_eq_true, d6, decide_eq_true_eq, hb3]
      by_cases D : h = 3
      · exact ⟨fun _ => Or.inl D, fun _ => Or.inr D⟩
      · rw [(s1 D p (by omega)).1]
        exact ⟨fun q => q.elim Or.inr Or.inl, fun q => q.elim Or.inr Or.inl⟩
    have hA3 : (σ (40 + 4 * t) p &&& ((σ 35 p ||| σ 35 (7 + p) ||| σ 2 14) ^^^ (-1))) = 0 ↔ ∀ o, o < nt → ¬ (o ≠ t ∧ ¬ met τ o p ∧ (mtb g (hE g no t m) t p o no ∨ xmt E t p o)) := by
      rw [bt_andnot]
      constructor
      · intro h o ho q
        exact q.2.1 ((hmet o ho).mp (h o (by omega) ((hP.2.2.2 p o (by omega) (by omega)).mpr q.2.2)))
      · intro h o ho q
        have q' := (hP.2.2.2 p o (by omega) ho).mp q
        obtain ⟨h1, h2⟩ := mx_in hW hX ht ho q'
        exact (hmet o h1).mpr (Classical.byContradiction fun z => h o h1 ⟨h2, z, q'⟩)
    by_cases A3 : (σ (40 + 4 * t) p &&& ((σ 35 p ||| σ 35 (7 + p) ||| σ 2 14) ^^^ (-1))) = 0
    · rw [if_pos A3]
      have A3' := hA3.mp A3
      rcases hbb with ⟨rfl, A4⟩ | ⟨rfl, A4⟩
      · rw [if_pos rfl]
        have h5 : ((10 : Int32) ≤ nI m - σ 36 (7 * w + p)) ↔ ((10 : Int32) ≤ nI m - τ 388 (7 * w + p)) := by
          rcases hLL (7 * w + p) (by omega) with ⟨e1, e2⟩ | ⟨v, -, e1, e2⟩
          · rw [e1, e2]
            exact ⟨fun _ => ago2 m (by omega), fun _ => ago1 m (by omega)⟩
          · rw [e1, e2]
        by_cases A5 : (10 : Int32) ≤ nI m - σ 36 (7 * w + p)
        · rw [if_pos A5]
          exact ⟨0, rfl, Or.inr (Or.inr (Or.inr (Or.inr (Or.inr ⟨A1, A2, A3', A4, h5.mp A5, rfl⟩))))⟩
        · rw [if_neg A5]
          exact ⟨5, rfl, Or.inr (Or.inr (Or.inr (Or.inr (Or.inl ⟨A1, A2, A3', A4, fun q => A5 (h5.mpr q), rfl⟩))))⟩
      · rw [if_neg (by decide)]
        exact ⟨4, rfl, Or.inr (Or.inr (Or.inr (Or.inl ⟨A1, A2, A3', A4, rfl⟩)))⟩
    · rw [if_neg A3]
      exact ⟨3, rfl, Or.inr (Or.inr (Or.inl ⟨A1, A2, fun q => A3 (hA3.mpr q), rfl⟩))⟩
  unfold fX0_whyNot fX0_whyNot_31
  simp only [lt_v, rf_2_3, rf_2_6, rf_2_4, ln_27, ln_30, ln_28, gd_in (show t < 5 by omega) (show 5 < 2147483648 by decide), nI_cl (show t < 2147483648 by omega), c1', p0, p1, q1, x7, gd_in (show 7 * t + p < 35 by omega) (show 35 < 2147483648 by decide), nI_cl (show 7 * t + p < 2147483648 by omega), v1 p hpn, hP.1 t (by omega), hP.2.2.1]
  by_cases T : tt g t
  · have hb : bt (σ 2 13) t = true := v3.mpr T
    simp only [if_neg (show ¬ ((σ 2 13 >>> (nI t &&& 31)) &&& 1) = 0 from fun q => by rw [bt_test _ _ (by omega), hb] at q; exact absurd q (by decide)), if_neg (show ¬ (1 : Int32) = 0 by decide)]
    unfold erl at main ⊢
    simp only [if_pos (show g (15 + 5 * t) = 1 ∨ g (15 + 5 * t) = 2 from T)] at main ⊢
    exact main
  · have hb : bt (σ 2 13) t = false := by simpa using fun q => T (v3.mp q)
    simp only [if_pos ((bt_test (σ 2 13) t (by omega)).mpr hb), if_true]
    unfold erl at main ⊢
    simp only [if_neg (show ¬ (g (15 + 5 * t) = 1 ∨ g (15 + 5 * t) = 2) from T)] at main ⊢
    exact main
/-- both reasons are the same -/
theorem why_same {σ τ : Sg} {g : Nat → Int32} {E : Option (Nat × Nat × Nat)} {n nt no nf t m m1 m2 p w b l : Nat} (hW : Wf g n nt no nf) (hX : Xok E n nt) (hO : On τ g) (hM : MoE τ E) (hS : SC g E n nt σ) (hT : ∀ o, o < nt → Tr g n σ τ m1 m2 o) (hP : Pap σ g E no t (hE g no t m)) (hLL : LL σ τ) (hm : m ≤ 500) (ht : t < nt) (hR : TrR τ t 1 p w b l) (hC : TrC g σ t 1 p w b l) (hG : TrG g n t m1 m2 1 p w b l) : ∃ r ρ, fX0_whyNot 2 (nI t) (nI m) σ = some (nI r, σ) ∧ fX11_whyNot 373 (nI t) (nI m) τ = some (nI r, ρ) ∧ r ≤ 5 ∧ ∀ c i, c ≠ 380 → ρ c i = τ c i := by
  obtain ⟨r, e, h⟩ := c_whyNot hW hX hS hT hP hLL hm ht hC hG
  obtain ⟨r', ρ, e', h2, h'⟩ := r_whyNot hO hW hX hM ht hm (okTr hG) (hR.1.2.1 (Or.inl rfl)) hR.1.2.2
  have := WN_eq h h'
  subst this
  obtain ⟨q, hq, rfl⟩ : ∃ q, q ≤ 5 ∧ r = nI q := by
    rcases h with ⟨-, rfl⟩ | ⟨-, -, rfl⟩ | ⟨-, -, -, rfl⟩ | ⟨-, -, -, -, rfl⟩ | ⟨-, -, -, -, -, rfl⟩ | ⟨-, -, -, -, -, rfl⟩
    · exact ⟨1, by decide, rfl⟩
    · exact ⟨2, by decide, rfl⟩
    · exact ⟨3, by decide, rfl⟩
    · exact ⟨4, by decide, rfl⟩
    · exact ⟨5, by decide, rfl⟩
    · exact ⟨0, by decide, rfl⟩
  exact ⟨q, ρ, e, e', hq, h2⟩
/-- forced, on both sides -/
theorem forced_same {σ τ : Sg} {g : Nat → Int32} {n nt no nf t m : Nat} (hW : Wf g n nt no nf) (hL : LR σ 3 g) (hO : On τ g) (ht : t < nt) (hm : m ≤ 500) : ∃ r : Int32, (r = 0 ∨ r = 1) ∧ fX3_isForced 3 (nI t) (nI m) σ = some (r, σ) ∧ ∀ ρ, ρ 374 = τ 374 → fX11_isForced 373 (nI t) (nI m) ρ = some (r, ρ) := by
  have hnt := hW.nt
  have hnf : nf ≤ 6 := hW.1.2.2.2
  have h3 : σ 3 3 = nI nf := hL.1.2.2.2.trans hW.2.1.2.2.2
  have t161 : τ 374 161 = nI nf := (hO 161 (by decide)).trans hW.2.1.2.2.2
  have c1 : ∀ i, i < nf → ∀ K, fX3_isForced_2 3 (nI t) (nI m) K (nI i) σ = if g (162 + 2 * i) = nI t ∧ g (163 + 2 * i) = nI m then some (1, σ) else K (nI (i + 1)) σ := by
    intro i hi K
    obtain ⟨l1, l2⟩ := hL.2.2.2.2.2.2 i (by omega)
    unfold fX3_isForced_2 fX3_isForced_32
    rw [h3, if_neg (nle_of hi (by omega)), rf_3_4, rf_3_5, ln_20, ln_21, gd_in (n := 6) (by omega) (by decide), gd_in (n := 6) (by omega) (by decide), nI_cl (by omega), l1, l2, lt_v, nI_1]
    by_cases A : g (162 + 2 * i) = nI t
    · rw [if_pos A]
      by_cases B : g (163 + 2 * i) = nI m
      · rw [if_pos B, if_pos ⟨A, B⟩]; rfl
      · rw [if_neg B, if_neg (fun q => B q.2)]
    · rw [if_neg A, if_neg (fun q => A q.1)]
  have c2 : ∀ ρ : Sg, ρ 374 = τ 374 → ∀ i, i < nf → ∀ K, fX11_isForced_2 373 (nI t) (nI m) K (nI i) ρ = if g (162 + 2 * i) = nI t ∧ g (163 + 2 * i) = nI m then some (1, ρ) else K (nI (i + 1)) ρ := by
    intro ρ hρ i hi K
    have y1 : (162 : Int32) + 2 * nI i = nI (162 + 2 * i) := ix2 (A := 162) (B := 2) 162 2 i rfl rfl
    have y2 : nI (162 + 2 * i) + 1 = nI (163 + 2 * i) := by rw [nI_1]; congr 1; omega
    unfold fX11_isForced_2 fX11_isForced_50
    rw [rf_373_0, ln_374, gd161, cl161, hρ, t161, if_neg (nle_of hi (by omega)), y1, y2, gd_in (n := 174) (by omega) (by decide), gd_in (n := 174) (by omega) (by decide), nI_cl (by omega), nI_cl (by omega), hO _ (by omega), hO _ (by omega), lt_v, nI_1]
    by_cases A : g (162 + 2 * i) = nI t
    · rw [if_pos A]
      by_cases B : g (163 + 2 * i) = nI m
      · rw [if_pos B, if_pos ⟨A, B⟩]; rfl
      · rw [if_neg B, if_neg (fun q => B q.2)]
    · rw [if_neg A, if_neg (fun q => A q.1)]
  have e1 : ∀ K, fX3_isForced_2 3 (nI t) (nI m) K (nI nf) σ = some (0, σ) := by
    intro K
    unfold fX3_isForced_2
    rw [h3, if_pos (nI_le (Nat.le_refl _) (by omega))]; rfl
  have e2 : ∀ ρ : Sg, ρ 374 = τ 374 → ∀ K, fX11_isForced_2 373 (nI t) (nI m) K (nI nf) ρ = some (0, ρ) := by
    intro ρ hρ K
    unfold fX11_isForced_2
    rw [rf_373_0, ln_374, gd161, cl161, hρ, t161, if_pos (nI_le (Nat.le_refl _) (by omega))]; rfl
  unfold fX3_isForced fX11_isForced
  simp only [lt_v]
  by_cases A : ∃ i, i < nf ∧ g (162 + 2 * i) = nI t ∧ g (163 + 2 * i) = nI m
  · refine ⟨1, Or.inr rfl, ?_, fun ρ hρ => ?_⟩
    · rcases fl1' nf (by omega) (fun i => g (162 + 2 * i) = nI t ∧ g (163 + 2 * i) = nI m) _ _ (fun i hi h K => by rw [c1 i hi K, if_neg h]) (fun i hi h K => by rw [c1 i hi K, if_pos h]) e1 with ⟨-, h2⟩ | ⟨h1, -⟩
      · exact h2
      · obtain ⟨i, hi, h⟩ := A
        exact absurd h (h1 i hi)
    · rcases fl1' nf (by omega) (fun i => g (162 + 2 * i) = nI t ∧ g (163 + 2 * i) = nI m) _ _ (fun i hi h K => by rw [c2 ρ hρ i hi K, if_neg h]) (fun i hi h K => by rw [c2 ρ hρ i hi K, if_pos h]) (e2 ρ hρ) with ⟨-, h2⟩ | ⟨h1, -⟩
      · exact h2
      · obtain ⟨i, hi, h⟩ := A
        exact absurd h (h1 i hi)
  · refine ⟨0, Or.inl rfl, ?_, fun ρ hρ => ?_⟩
    · rcases fl1' nf (by omega) (fun i => g (162 + 2 * i) = nI t ∧ g (163 + 2 * i) = nI m) _ _ (fun i hi h K => by rw [c1 i hi K, if_neg h]) (fun i hi h K => by rw [c1 i hi K, if_pos h]) e1 with ⟨h1, -⟩ | ⟨-, h2⟩
      · obtain ⟨i, hi, h⟩ := h1
        exact absurd ⟨i, hi, h⟩ A
      · exact h2
    · rcases fl1' nf (by omega) (fun i => g (162 + 2 * i) = nI t ∧ g (163 + 2 * i) = nI m) _ _ (fun i hi h K => by rw [c2 ρ hρ i hi K, if_neg h]) (fun i hi h K => by rw [c2 ρ hρ i hi K, if_pos h]) (e2 ρ hρ) with ⟨h1, -⟩ | ⟨-, h2⟩
      · obtain ⟨i, hi, h⟩ := h1
        exact absurd ⟨i, hi, h⟩ A
      · exact h2
