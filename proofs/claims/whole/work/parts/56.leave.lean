/-! PURE: a train leaves -/
theorem c_sectionAhead {σ : Sg} {t w p n : Nat} (ht : t < 5) (hn : n ≤ 7) (hk : okW w p n) (h1 : σ 30 t = nI p) (h2 : σ 31 t = nI w) : fX0_sectionAhead 2 (nI t) σ = some (nI (sct w p), σ) := by
  unfold fX0_sectionAhead sct
  rw [rf_2_7, rf_2_6, ln_31, ln_30, gd5 ht, gd5 ht, gd5 ht, nI_cl (by omega), h1, h2]
  rcases hk.2 with ⟨rfl, h⟩ | ⟨rfl, h⟩
  · simp only [if_pos nI_0, if_true]
  · simp only [if_neg n10, if_neg e10']
    obtain ⟨j, rfl⟩ : ∃ j, p = j + 1 := ⟨p - 1, by omega⟩
    rw [nI_pred]; rfl
theorem c_leave {σ : Sg} {t w p n : Nat} {v : Int32} (ht : t < 5) (hn : n ≤ 7) (hk : okW w p n) (h1 : σ 30 t = nI p) (h2 : σ 31 t = nI w) : fX0_leave 2 (nI t) v σ = some ((), wr (wr (wr (nc σ 26 (7 * t + p) v) 36 (7 * w + p) v) 34 t v) 30 t (nI (100 + sct w p))) := by
  have hp : p < 7 := by have := hk.1; omega
  have hw : w < 2 := by rcases hk.2 with ⟨h, -⟩ | ⟨h, -⟩ <;> omega
  unfold fX0_leave
  simp only [lt_v, rf_2_1, rf_2_6, rf_2_7, rf_2_10, rf_2_12, ln_30, ln_31, ln_34, ln_36, gd5 ht, nI_cl (show t < 2147483648 by omega), h1, c_noteLeft ht hp, bd_v, nc_o (show 31 ≠ 26 by decide), h2, i7, gd_14 (show 7 * w + p < 14 by omega), nI_cl (show 7 * w + p < 2147483648 by omega)]
  rw [c_sectionAhead ht hn hk (by rw [wr_c (by decide), wr_c (by decide), nc_o (by decide), h1]) (by rw [wr_c (by decide), wr_c (by decide), nc_o (by decide), h2]), bd_v, show (100 : Int32) + nI (sct w p) = nI (100 + sct w p) from nI_add 100 _]
theorem r_goes {τ : Sg} {t w p n : Nat} {v : Int32} (ht : t < 5) (hn : n ≤ 7) (hk : okW w p n) (h1 : τ 382 t = nI p) (h2 : τ 383 t = nI w) : fX11_goes 373 (nI t) v τ = some ((), wr (wr (wr (nc0 (wr τ 388 (7 * w + p) v) 387 (7 * t + p) v) 382 t (nI (sct w p))) 381 t 2) 384 t v) := by
  have hp : p < 7 := by have := hk.1; omega
  have hw : w < 2 := by rcases hk.2 with ⟨h, -⟩ | ⟨h, -⟩ <;> omega
  have h58 : ∀ ρ : Sg, ρ 382 t = nI p → ρ 383 t = nI w → fX11_goes_58 373 (nI t) v ρ = some ((), wr (wr (wr ρ 382 t (nI (sct w p))) 381 t 2) 384 t v) := by
    intro ρ q1 q2
    unfold fX11_goes_58
    rw [r_secAhead ht hn hk q1 q2, bd_v]
    simp only [lt_v, rf_373_11, rf_373_12, rf_373_14, ln_381, ln_382, ln_384, gd5 ht, nI_cl (show t < 2147483648 by omega)]
  unfold fX11_goes nc0
  simp only [lt_v, rf_373_12, rf_373_13, rf_373_17, rf_373_18, ln_382, ln_383, ln_387, ln_388, gd5 ht, nI_cl (show t < 2147483648 by omega), h1, h2, wr_c (show 382 ≠ 388 by decide), wr_c (show 387 ≠ 388 by decide), j7, gd_14 (show 7 * w + p < 14 by omega), gd35 (show 7 * t + p < 35 by omega), nI_cl (show 7 * w + p < 2147483648 by omega), nI_cl (show 7 * t + p < 2147483648 by omega)]
  split
  · rw [h58 _ (by rw [wr_c (by decide), h1]) (by rw [wr_c (by decide), h2])]
  · rw [h58 _ (by rw [wr_c (by decide), wr_c (by decide), h1]) (by rw [wr_c (by decide), wr_c (by decide), h2])]
/-- pairs that are head on were told, or one of them left just now -/
def HQ (nt m : Nat) (τ : Sg) : Prop := ∀ a b, a < b → b < nt → τ 381 a = 2 → τ 381 b = 2 → τ 382 a = τ 382 b → τ 383 a ≠ τ 383 b → τ 394 (5 * a + b) ≠ 0 ∨ τ 384 a = nI m ∨ τ 384 b = nI m
def RS (σ τ : Sg) (j : Nat) : Prop := σ 24 j = (if τ 390 j = -100006 then -1 else τ 390 j) ∧ τ 390 j ≠ -1
def DA (nt m : Nat) (σ τ : Sg) : Prop := ∀ t m', t < nt → m' < m → σ 23 (501 * t + m') = τ 389 (501 * t + m') ∧ RS σ τ (501 * t + m')
/-- papers, reasons and places may be written -/
theorem DY_pap {g : Nat → Int32} {E : Option (Nat × Nat × Nat)} {n nt no m : Nat} {σ0 τ0 σ τ σ' τ' : Sg} {M1 M2 : Nat → Nat} (hnt : nt ≤ 5) (hD : DY g E n nt no σ0 τ0 m σ τ M1 M2) (hC : ∀ c i, (c < 37 ∨ 56 < c) → c ≠ 23 → c ≠ 24 → ¬ (c = 22 ∧ i = 0) → σ' c i = σ c i) (hX : ∀ t i, t < 5 → i < 3 → σ' (37 + 4 * t) i = σ (37 + 4 * t) i) (hP : ∀ t, t < nt → PO σ' g E no t m) (hR : ∀ c i, c ≠ 380 → c ≠ 389 → c ≠ 390 → τ' c i = τ c i) : DY g E n nt no σ0 τ0 m σ' τ' M1 M2 := by
  obtain ⟨⟨⟨f1, f2, f3⟩, ⟨f4, f5⟩⟩, hS, ⟨⟨b1, b2, b3⟩, ⟨b4, b5⟩, b6, b7, b8⟩, -, hT⟩ := hD
  refine ⟨⟨⟨fun c i hc => ?_, fun x hx => ?_, ?_⟩, fun c i hc => ?_, fun i hi => ?_⟩, ?_, ⟨⟨?_, ?_, fun j hj => ?_⟩, ⟨fun a b h1 h2 => ?_, ?_⟩, ?_, ?_, fun x h1 h2 => ?_⟩, hP, fun x hx => ?_⟩
  · rw [hC c i (by omega) (by omega) (by omega) (by omega), f1 c i hc]
  · rw [hX x 0 hx (by decide), f2 x hx]
  · rw [hC _ _ (by omega) (by omega) (by omega) (by omega), f3]
  · rw [hR c i (by omega) (by omega) (by omega), f4 c i hc]
  · rw [hR _ _ (by omega) (by omega) (by omega), f5 i hi]
  · exact SC_congr hnt (fun c i q1 q2 => hC c i (by omega) (by omega) (by omega) (by omega)) (fun i => ⟨hC _ _ (by omega) (by omega) (by omega) (by omega), hC _ _ (by omega) (by omega) (by omega) (by omega)⟩) (hC _ _ (by omega) (by omega) (by omega) (by omega)) hX hS
  · exact MN_o (fun i => hC _ _ (by omega) (by omega) (by omega) (by omega)) (fun i => hR _ _ (by omega) (by omega) (by omega)) b1
  · exact MN_o (fun i => hC _ _ (by omega) (by omega) (by omega) (by omega)) (fun i => hR _ _ (by omega) (by omega) (by omega)) b2
  · rw [hC _ _ (by omega) (by omega) (by omega) (by omega), hR _ _ (by omega) (by omega) (by omega)]
    exact b3 j hj
  · rw [hC _ _ (by omega) (by omega) (by omega) (by omega), hR _ _ (by omega) (by omega) (by omega)]
    exact b4 a b h1 h2
  · unfold HD at *
    rw [hC 22 6 (by omega) (by omega) (by omega) (by omega), hC 22 7 (by omega) (by omega) (by omega) (by omega), hC 22 8 (by omega) (by omega) (by omega) (by omega), hC 22 9 (by omega) (by omega) (by omega) (by omega), hC 22 10 (by omega) (by omega) (by omega) (by omega), hR 373 25 (by omega) (by omega) (by omega), hR 373 26 (by omega) (by omega) (by omega), hR 373 27 (by omega) (by omega) (by omega), hR 373 28 (by omega) (by omega) (by omega), hR 373 29 (by omega) (by omega) (by omega), hR 373 30 (by omega) (by omega) (by omega)]
    exact b5
  · rw [hC _ _ (by omega) (by omega) (by omega) (by omega), hR _ _ (by omega) (by omega) (by omega)]
    exact b6
  · rw [hC _ _ (by omega) (by omega) (by omega) (by omega), b7]
    congr 1
    funext o
    rw [hR _ _ (by omega) (by omega) (by omega)]
  · rw [hC _ _ (by omega) (by omega) (by omega) (by omega)]
    exact b8 x h1 h2
  · refine Tr_congr ⟨⟨hC _ _ (by omega) (by omega) (by omega) (by omega), hC _ _ (by omega) (by omega) (by omega) (by omega), hC _ _ (by omega) (by omega) (by omega) (by omega), hC _ _ (by omega) (by omega) (by omega) (by omega), hC _ _ (by omega) (by omega) (by omega) (by omega)⟩, by rw [hC _ _ (by omega) (by omega) (by omega) (by omega)], fun j hj => by rw [hC _ _ (by omega) (by omega) (by omega) (by omega)]⟩ ⟨⟨hR _ _ (by omega) (by omega) (by omega), hR _ _ (by omega) (by omega) (by omega), hR _ _ (by omega) (by omega) (by omega), hR _ _ (by omega) (by omega) (by omega), hR _ _ (by omega) (by omega) (by omega), hR _ _ (by omega) (by omega) (by omega)⟩, fun q hq => ⟨hR _ _ (by omega) (by omega) (by omega), hR _ _ (by omega) (by omega) (by omega)⟩⟩ (hT x hx)
theorem HQ_c {nt m : Nat} {τ τ' : Sg} (hR : ∀ c i, c ≠ 380 → c ≠ 389 → c ≠ 390 → τ' c i = τ c i) (h : HQ nt m τ) : HQ nt m τ' := by
  intro a b h1 h2
  rw [hR 381 a (by omega) (by omega) (by omega), hR 381 b (by omega) (by omega) (by omega), hR 382 a (by omega) (by omega) (by omega), hR 382 b (by omega) (by omega) (by omega), hR 383 a (by omega) (by omega) (by omega), hR 383 b (by omega) (by omega) (by omega), hR 384 a (by omega) (by omega) (by omega), hR 384 b (by omega) (by omega) (by omega), hR 394 _ (by omega) (by omega) (by omega)]
  exact h a b h1 h2
/-- leaving: the relation holds again -/
theorem go_ok {g : Nat → Int32} {E : Option (Nat × Nat × Nat)} {n nt no nf m t p w b l : Nat} {σ0 τ0 σ τ : Sg} {M1 : Nat → Nat} (hW : Wf g n nt no nf) (hm : m ≤ 500) (hM : ∀ x, M1 x ≤ m + 1) (hD : DY g E n nt no σ0 τ0 m σ τ M1 (fun _ => m + 1)) (hH : HQ nt m τ) (ht : t < nt) (hR : TrR τ t 1 p w b l) (hC : TrC g σ t 1 p w b l) (hG : TrG g n t (M1 t) (m + 1) 1 p w b l) (hS : TrS σ τ t 1 w b) : ∃ σ' τ', fX0_leave 2 (nI t) (nI m) σ = some ((), σ') ∧ fX11_goes 373 (nI t) (nI m) τ = some ((), τ') ∧ DY g E n nt no σ0 τ0 m σ' τ' (fun _ => m + 1) (fun _ => m + 1) ∧ HQ nt m τ' ∧ (∀ c i, c ≠ 26 → c ≠ 30 → c ≠ 34 → c ≠ 36 → σ' c i = σ c i) ∧ ∀ c i, c ≠ 381 → c ≠ 382 → c ≠ 384 → c ≠ 387 → c ≠ 388 → τ' c i = τ c i := by
  have hnt := hW.nt
  have hn : n ≤ 7 := hW.1.1.2
  have hk := okTr hG
  have hp : p < 7 := by have := hk.1; omega
  have hw2 := wTrG hG
  obtain ⟨⟨r1, r2, r3⟩, ⟨r4, r5⟩, r6, -⟩ := hR
  obtain ⟨⟨c1, c2, c3⟩, ⟨c4, c5⟩, c6⟩ := hC
  have c1' : σ 30 t = nI p := c1
  have hD0 := hD
  obtain ⟨⟨⟨f1, f2, f3⟩, ⟨f4, f5⟩⟩, hSC, ⟨⟨b1, b2, b3⟩, ⟨b4, b5⟩, b6, b7, b8⟩, hP, hT⟩ := hD
  refine ⟨_, _, c_leave (by omega) hn hk c1' c2, r_goes (by omega) hn hk (r2 (Or.inl rfl)) r3, ?_⟩
  generalize hσ' : wr (wr (wr (nc σ 26 (7 * t + p) (nI m)) 36 (7 * w + p) (nI m)) 34 t (nI m)) 30 t (nI (100 + sct w p)) = σ'
  generalize hτ' : wr (wr (wr (nc0 (wr τ 388 (7 * w + p) (nI m)) 387 (7 * t + p) (nI m)) 382 t (nI (sct w p))) 381 t 2) 384 t (nI m) = τ'
  have u1 : ∀ c i, c ≠ 26 → ¬ (c = 36 ∧ i = 7 * w + p) → ¬ (c = 34 ∧ i = t) → ¬ (c = 30 ∧ i = t) → σ' c i = σ c i := by
    intro c i q1 q2 q3 q4
    rw [← hσ']
    unfold wr
    rw [if_neg q4, if_neg q3, if_neg q2, nc_o q1]
  have u2 : σ' 30 t = nI (100 + sct w p) := by rw [← hσ', wr_eq]
  have u3 : σ' 34 t = nI m := by rw [← hσ', wr_c (by decide), wr_eq]
  have u4 : σ' 36 (7 * w + p) = nI m := by rw [← hσ', wr_c (by decide), wr_c (by decide), wr_eq]
  have u5 : ∀ i, σ' 26 i = nc σ 26 (7 * t + p) (nI m) 26 i := fun i => by rw [← hσ', wr_c (by decide), wr_c (by decide), wr_c (by decide)]
  have y1 : ∀ c i, c ≠ 387 → ¬ (c = 388 ∧ i = 7 * w + p) → ¬ (c = 382 ∧ i = t) → ¬ (c = 381 ∧ i = t) → ¬ (c = 384 ∧ i = t) → τ' c i = τ c i := by
    intro c i q1 q2 q3 q4 q5
    rw [← hτ']
    unfold wr
    rw [if_neg q5, if_neg q4, if_neg q3, nc0_o q1, if_neg q2]
  have y2 : τ' 381 t = 2 := by rw [← hτ', wr_c (by decide), wr_eq]
  have y3 : τ' 382 t = nI (sct w p) := by rw [← hτ', wr_c (by decide), wr_c (by decide), wr_eq]
  have y4 : τ' 384 t = nI m := by rw [← hτ', wr_eq]
  have y5 : τ' 388 (7 * w + p) = nI m := by rw [← hτ', wr_c (by decide), wr_c (by decide), wr_c (by decide), nc0_o (by decide), wr_eq]
  have y6 : ∀ i, τ' 387 i = nc0 (wr τ 388 (7 * w + p) (nI m)) 387 (7 * t + p) (nI m) 387 i := fun i => by rw [← hτ', wr_c (by decide), wr_c (by decide), wr_c (by decide)]
  clear hσ' hτ'
  refine ⟨⟨⟨⟨fun c i hc => ?_, fun x hx => ?_, ?_⟩, fun c i hc => ?_, fun i hi => ?_⟩, ?_, ⟨⟨?_, ?_, fun j hj => ?_⟩, ⟨fun x y h1 h2 => ?_, ?_⟩, ?_, ?_, fun x h1 h2 => ?_⟩, fun x hx => ?_, fun x hx => ?_⟩, ?_, fun c i q1 q2 q3 q4 => u1 c i q1 (by omega) (by omega) (by omega), fun c i q1 q2 q3 q4 q5 => y1 c i q4 (by omega) (by omega) (by omega) (by omega)⟩
  · rw [u1 c i (by omega) (by omega) (by omega) (by omega), f1 c i hc]
  · rw [u1 _ _ (by omega) (by omega) (by omega) (by omega), f2 x hx]
  · rw [u1 _ _ (by omega) (by omega) (by omega) (by omega), f3]
  · rw [y1 c i (by omega) (by omega) (by omega) (by omega) (by omega), f4 c i hc]
  · rw [y1 _ _ (by omega) (by omega) (by omega) (by omega) (by omega), f5 i hi]
  · exact SC_congr hnt (fun c i q1 q2 => u1 c i (by omega) (by omega) (by omega) (by omega)) (fun i => ⟨u1 _ _ (by omega) (by omega) (by omega) (by omega), u1 _ _ (by omega) (by omega) (by omega) (by omega)⟩) (u1 _ _ (by omega) (by omega) (by omega) (by omega)) (fun x i hx hi => u1 _ _ (by omega) (by omega) (by omega) (by omega)) hSC
  · exact MN_o (fun i => u1 _ _ (by omega) (by omega) (by omega) (by omega)) (fun i => y1 _ _ (by omega) (by omega) (by omega) (by omega) (by omega)) b1
  · have := nc_same (σ := σ) (τ := wr τ 388 (7 * w + p) (nI m)) (c := 26) (c' := 387) (j := 7 * t + p) (N := 35) hm (fun i hi => by rw [wr_c (by decide)]; exact b2 i hi) (by omega)
    intro i hi
    rw [u5, y6]
    exact this i hi
  · by_cases z : j = 7 * w + p
    · subst z
      exact Or.inr ⟨m, hm, u4, y5⟩
    · rw [u1 _ _ (by omega) (by omega) (by omega) (by omega), y1 _ _ (by omega) (by omega) (by omega) (by omega) (by omega)]
      exact b3 j hj
  · rw [u1 _ _ (by omega) (by omega) (by omega) (by omega), y1 _ _ (by omega) (by omega) (by omega) (by omega) (by omega)]
    exact b4 x y h1 h2
  · unfold HD at *
    rw [u1 22 6 (by omega) (by omega) (by omega) (by omega), u1 22 7 (by omega) (by omega) (by omega) (by omega), u1 22 8 (by omega) (by omega) (by omega) (by omega), u1 22 9 (by omega) (by omega) (by omega) (by omega), u1 22 10 (by omega) (by omega) (by omega) (by omega), y1 373 25 (by omega) (by omega) (by omega) (by omega) (by omega), y1 373 26 (by omega) (by omega) (by omega) (by omega) (by omega), y1 373 27 (by omega) (by omega) (by omega) (by omega) (by omega), y1 373 28 (by omega) (by omega) (by omega) (by omega) (by omega), y1 373 29 (by omega) (by omega) (by omega) (by omega) (by omega), y1 373 30 (by omega) (by omega) (by omega) (by omega) (by omega)]
    exact b5
  · rw [u1 _ _ (by omega) (by omega) (by omega) (by omega), y1 _ _ (by omega) (by omega) (by omega) (by omega) (by omega)]
    exact b6
  · rw [u1 _ _ (by omega) (by omega) (by omega) (by omega), b7]
    congr 1
    funext o
    rw [y1 _ _ (by omega) (by omega) (by omega) (by omega) (by omega)]
  · rw [u1 _ _ (by omega) (by omega) (by omega) (by omega)]
    exact b8 x h1 h2
  · exact PO_congr (fun c q1 q2 => funext fun i => u1 c i (by omega) (by omega) (by omega) (by omega)) (hP x hx)
  · by_cases z : x = t
    · subst z
      obtain ⟨f, d, ⟨ef, ed, hf, hd, hfd⟩, ⟨y7, hb2, hw⟩, ⟨y8, y9⟩, y10, -⟩ := hG
      have h10 := y10 rfl
      have hsc : min f d ≤ sct w p ∧ sct w p < max f d := by
        unfold sct
        rcases h10 with ⟨z1, z2⟩ | ⟨z1, z2⟩
        · rw [if_pos z1]; omega
        · rw [if_neg (by omega)]; omega
      obtain ⟨v, v1, v2, v3⟩ := hW.2.2.2.1 (sct w p) (by omega)
      refine ⟨2, sct w p, w, b, m, ⟨⟨y2, fun _ => y3, by rw [y1 _ _ (by omega) (by omega) (by omega) (by omega) (by omega), r3]⟩, ⟨by rw [y1 _ _ (by omega) (by omega) (by omega) (by omega) (by omega), r4], fun _ => y4⟩, fun _ => by rw [y1 _ _ (by omega) (by omega) (by omega) (by omega) (by omega), r6 (by decide)], fun q => absurd q (by decide)⟩, ⟨⟨u2, by rw [u1 _ _ (by omega) (by omega) (by omega) (by omega), c2], by rw [u1 _ _ (by omega) (by omega) (by omega) (by omega)]; exact c3⟩, ⟨by rw [u1 _ _ (by omega) (by omega) (by omega) (by omega), c4], fun _ => u3⟩, by rw [u1 _ _ (by omega) (by omega) (by omega) (by omega), c6]; rfl⟩, ⟨f, d, ⟨ef, ed, hf, hd, hfd⟩, ⟨by decide, hb2, hw⟩, ⟨y8, fun q => absurd q (by decide)⟩, fun q => absurd q (by decide), fun _ => ⟨⟨hsc.1, hsc.2, Nat.lt_succ_self m⟩, v, v1, v2, v3, Nat.add_le_add_left v1 m⟩⟩, ⟨fun _ q hq => ?_, fun h0 q hq => ?_⟩⟩
      · rw [y1 _ _ (by omega) (by omega) (by omega) (by omega) (by omega), y1 _ _ (by omega) (by omega) (by omega) (by omega) (by omega), u1 _ _ (by omega) (by omega) (by omega) (by omega), u1 _ _ (by omega) (by omega) (by omega) (by omega), u1 _ _ (by omega) (by omega) (by omega) (by omega)]
        exact hS.1 (by decide) q hq
      · rw [u1 _ _ (by omega) (by omega) (by omega) (by omega)]
        exact hS.2 h0 q hq
    · refine Tr_mono (hM x) (Nat.le_refl _) (Tr_congr ⟨⟨u1 _ _ (by omega) (by omega) (by omega) (by omega), u1 _ _ (by omega) (by omega) (by omega) (by omega), u1 _ _ (by omega) (by omega) (by omega) (by omega), u1 _ _ (by omega) (by omega) (by omega) (by omega), u1 _ _ (by omega) (by omega) (by omega) (by omega)⟩, by rw [u1 _ _ (by omega) (by omega) (by omega) (by omega)], fun j hj => by rw [u1 _ _ (by omega) (by omega) (by omega) (by omega)]⟩ ⟨⟨y1 _ _ (by omega) (by omega) (by omega) (by omega) (by omega), y1 _ _ (by omega) (by omega) (by omega) (by omega) (by omega), y1 _ _ (by omega) (by omega) (by omega) (by omega) (by omega), y1 _ _ (by omega) (by omega) (by omega) (by omega) (by omega), y1 _ _ (by omega) (by omega) (by omega) (by omega) (by omega), y1 _ _ (by omega) (by omega) (by omega) (by omega) (by omega)⟩, fun q hq => ⟨y1 _ _ (by omega) (by omega) (by omega) (by omega) (by omega), y1 _ _ (by omega) (by omega) (by omega) (by omega) (by omega)⟩⟩ (hT x hx))
  · intro x y hxy hy q1 q2 q3 q4
    by_cases z : x = t
    · subst z; exact Or.inr (Or.inl y4)
    · by_cases z' : y = t
      · subst z'; exact Or.inr (Or.inr y4)
      · rw [y1 _ _ (by omega) (by omega) (by omega) (by omega) (by omega)] at q1 q2
        rw [y1 382 x (by omega) (by omega) (by omega) (by omega) (by omega), y1 382 y (by omega) (by omega) (by omega) (by omega) (by omega)] at q3
        rw [y1 383 x (by omega) (by omega) (by omega) (by omega) (by omega), y1 383 y (by omega) (by omega) (by omega) (by omega) (by omega)] at q4
        rw [y1 394 _ (by omega) (by omega) (by omega) (by omega) (by omega), y1 384 x (by omega) (by omega) (by omega) (by omega) (by omega), y1 384 y (by omega) (by omega) (by omega) (by omega) (by omega)]
        exact hH x y hxy hy q1 q2 q3 q4
