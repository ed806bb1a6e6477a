/-! PURE: a train comes in: the relation holds again -/
theorem plc_s {h p s : Nat} (hh : h ≤ 3) (hs : s < 7) (hp : h = 1 ∨ h = 2 → p < 7) : plc h p = s ↔ h = 1 ∧ p = s := by
  unfold plc
  rcases (by omega : h = 0 ∨ h = 1 ∨ h = 2 ∨ h = 3) with rfl | rfl | rfl | rfl
  · rw [if_pos rfl]; omega
  · rw [if_neg (by decide), if_neg (by decide), if_neg (by decide)]; omega
  · rw [if_neg (by decide), if_neg (by decide), if_pos rfl]; omega
  · rw [if_neg (by decide), if_pos rfl]; omega
/-- both say alike which others stand at s -/
theorem Tr_at {g : Nat → Int32} {n m1 m2 o s : Nat} {σ τ : Sg} (hn : n ≤ 7) (hs : s < 7) (h : Tr g n σ τ m1 m2 o) : σ 30 o = nI s ↔ τ 381 o = 1 ∧ τ 382 o = nI s := by
  obtain ⟨hh, p, w, b, l, ⟨⟨a1, a2, a3⟩, -⟩, ⟨⟨c1, -⟩, -⟩, ⟨f, d, ⟨-, -, q1, q2, q3⟩, ⟨q4, -⟩, -, q6, q7⟩, -⟩ := h
  have hp : hh = 1 ∨ hh = 2 → p < 7 := by
    rintro (rfl | rfl)
    · rcases q6 rfl with x | x <;> omega
    · have := (q7 rfl).1; omega
  have hpl : plc hh p < 1000 := by
    unfold plc
    split
    · omega
    · split
      · omega
      · split
        · have := hp (Or.inr (by assumption)); omega
        · have := hp (Or.inl (by omega)); omega
  rw [c1, a1, nI_eq (by omega) (by omega), plc_s q4 hs hp, show (1 : Int32) = nI 1 from rfl, nI_eq (by omega) (by omega)]
  constructor
  · rintro ⟨rfl, rfl⟩
    exact ⟨rfl, a2 (Or.inl rfl)⟩
  · rintro ⟨rfl, x⟩
    exact ⟨rfl, (nI_eq (by have := hp (Or.inl rfl); omega) (by omega)).mp ((a2 (Or.inl rfl)).symm.trans x)⟩
theorem come_ok {g : Nat → Int32} {E : Option (Nat × Nat × Nat)} {n nt no nf m t p w b l : Nat} {σ0 τ0 σ τ : Sg} {M1 M2 : Nat → Nat} (hW : Wf g n nt no nf) (hO0 : On τ0 g) (hm : m ≤ 500) (hD : DY g E n nt no σ0 τ0 m σ τ M1 M2) (ht : t < nt) (hR : TrR τ t 2 p w b l) (hC : TrC g σ t 2 p w b l) (hG : TrG g n t (M1 t) (M2 t) 2 p w b l) (hS : TrS σ τ t 2 w b) : ∃ σ' τ', fX0_comeIn 2 (nI t) (nI (arr w p)) (nI m) σ = some ((), σ') ∧ fX11_comesIn 373 (nI t) (nI m) τ = some ((), τ') ∧ (CI σ σ' ∧ RI τ τ') ∧ τ' 381 t ≠ 2 ∧ (∀ o, o < nt → o ≠ t → SameR τ τ' o) ∧ DY g E n nt no σ0 τ0 m σ' τ' M1 (fun x => if x = t then m + 1 else M2 x) := by
  have hnt := hW.nt
  have hn : n ≤ 7 := hW.1.1.2
  have hO : On τ g := hD.1.2.on hO0
  have hw2 := wTrG hG
  obtain ⟨f, d, ⟨ef, ed, hf, hd, hfd⟩, ⟨-, hb2, hw⟩, ⟨hb1, -⟩, -, hp2⟩ := hG
  obtain ⟨⟨hp3, hp4, hp5⟩, v, hv1, hv2, hv3, hv4⟩ := hp2 rfl
  clear hp2
  obtain ⟨⟨r1, r2, r3⟩, ⟨r4, r5⟩, r6, -⟩ := hR
  obtain ⟨⟨c1, c2, k, hk, ek, c3⟩, ⟨c4, c5⟩, c6⟩ := hC
  have hL : LR σ 3 g := hD.2.1.1
  have l8 : σ 8 t = g (15 + 5 * t) := (hL.2.2.2.1 t (by omega)).1.1
  have l9 : σ 9 t = g (16 + 5 * t) := (hL.2.2.2.1 t (by omega)).1.2.1
  have l10 : σ 10 t = g (17 + 5 * t) := (hL.2.2.2.1 t (by omega)).1.2.2
  have l12 : σ 12 t = g (19 + 5 * t) := (hL.2.2.2.1 t (by omega)).2.2
  have hs7 : arr w p < 7 := by unfold arr; split <;> omega
  have hsn : arr w p < n := by unfold arr; split <;> omega
  have hAt := fun o (ho : o < nt) => Tr_at (s := arr w p) hn hs7 (hD.2.2.2.2 o ho)
  have e2 := r_comesIn (m := m) hW hO ht hw2 hb2 hs7 (r2 (Or.inr rfl)) r3 r4
  have e1 : fX0_comeIn 2 (nI t) (nI (arr w p)) (nI m) σ = if nI (arr w p) = (if b = 0 then g (17 + 5 * t) else g (16 + 5 * t)) then (if g (15 + 5 * t) = 3 then (if nI (arr w p) = g (17 + 5 * t) then bd (fX0_turnBack 2 (nI t) (nc σ 25 (7 * t + arr w p) (nI m))) fun _ ρ => fX0_comeIn_64 2 (nI t) (nI (arr w p)) ρ else bd (fX0_goOff 2 (nI t) (nI m) (nc σ 25 (7 * t + arr w p) (nI m))) fun _ ρ => some ((), ρ)) else bd (fX0_goOff 2 (nI t) (nI m) (nc σ 25 (7 * t + arr w p) (nI m))) fun _ ρ => some ((), ρ)) else fX0_comeIn_64 2 (nI t) (nI (arr w p)) (nc σ 25 (7 * t + arr w p) (nI m)) := by
    unfold fX0_comeIn
    rw [rf_2_1, c_noteCame (by omega) hs7, bd_v]
    simp only [rf_2_0, rf_2_9, rf_3_1, rf_7_1, rf_7_3, ln_33, ln_8, ln_10, gd5 (show t < 5 by omega), nI_cl (show t < 2147483648 by omega), nc_o (show 33 ≠ 25 by decide), nc_o (show 8 ≠ 25 by decide), nc_o (show 10 ≠ 25 by decide), c4, l8, l10]
  have hM := atS_m (t := t) (s := arr w p) (by omega) hs7 hm hD.2.2.1.1.1
  -- standing: with the way that it has
  have stay : ∀ (σa τa : Sg) (wa ba : Nat), wa < 2 → (∀ c i, c ≠ 25 → c ≠ 31 → c ≠ 32 → c ≠ 33 → σa c i = σ c i) → (∀ o, o ≠ t → σa 31 o = σ 31 o ∧ σa 32 o = σ 32 o ∧ σa 33 o = σ 33 o) → (∀ i, σa 25 i = nc σ 25 (7 * t + arr w p) (nI m) 25 i) →
      (∀ c i, c ≠ 383 → c ≠ 391 → c ≠ 393 → τa c i = atS τ t (arr w p) (nI m) c i) → (∀ o, o ≠ t → τa 383 o = τ 383 o ∧ τa 391 o = τ 391 o) → (∀ o q, o ≠ t → q < 7 → τa 393 (7 * o + q) = τ 393 (7 * o + q)) → τa 383 t = nI wa → τa 391 t = nI ba →
      σa 31 t = nI wa → (∃ k, k < 4 ∧ g (15 + 5 * t) = nI k ∧ σa 32 t = 2 * rnk k + (if wa = 0 then 1 else 0)) → σa 33 t = (if ba = 0 then g (17 + 5 * t) else g (16 + 5 * t)) → TrG g n t (M1 t) (m + 1) 1 (arr w p) wa ba l → (∀ q, q < 7 → (τa 393 (7 * t + q) ≠ 0 ↔ q = arr w p ∨ bt (σ 35 (7 * wa + q)) t = true)) → (ba = 0 → wa = w ∧ b = 0) →
      ∃ σ' τ', fX0_comeIn_64 2 (nI t) (nI (arr w p)) σa = some ((), σ') ∧ fX11_comesIn_170 373 (nI t) (nI (arr w p)) τa = some ((), τ') ∧ (CI σ σ' ∧ RI τ τ') ∧ τ' 381 t ≠ 2 ∧ (∀ o, o < nt → o ≠ t → SameR τ τ' o) ∧ DY g E n nt no σ0 τ0 m σ' τ' M1 (fun x => if x = t then m + 1 else M2 x) := by
    intro σa τa wa ba hwa k1 k2 k3 j1 j2 j3 j4 j5 k4 k5 k6 hGa j6 hba
    have hLa : LR σa 3 g := LR_congr (fun c q1 q2 => funext fun i => (k1 c i (by omega) (by omega) (by omega) (by omega)).symm) hL
    have hOa : On τa g := fun x hx => by rw [j1 _ _ (by omega) (by omega) (by omega), atS_o (by omega)]; exact hO x hx
    obtain ⟨r, σ', u1, u2, u3, u4, u5, u6⟩ := settle hW hLa hOa ht hs7 hwa k4 (fun o ho hot => by
      rw [k1 _ _ (by decide) (by decide) (by decide) (by decide), j1 _ _ (by decide) (by decide) (by decide), j1 _ _ (by decide) (by decide) (by decide), (atS_n hot).1, (atS_n hot).2]
      exact hAt o ho)
    have hCI : CI σ σ' := by
      refine ⟨fun c i q1 q2 q3 q4 q5 q6 q7 q8 => ?_, fun i hi => ?_, fun i q1 q2 => ?_⟩
      · rw [u6 c i (by omega) (by omega) (by omega), k1 c i (by omega) (by omega) (by omega) (by omega)]
      · rw [u6 _ _ (by omega) (by omega) (by omega), k1 _ _ (by omega) (by omega) (by omega) (by omega)]
      · rw [u6 _ _ (by omega) (by omega) (by omega), k1 _ _ (by omega) (by omega) (by omega) (by omega)]
    have hRI : RI τ (wr τa 373 31 (τa 373 31 + r)) := by
      refine ⟨fun c i q1 q2 q3 q4 q5 q6 q7 q8 q9 => ?_, fun i hi => ?_⟩
      · rw [wr_c q1, j1 c i (by omega) (by omega) (by omega), atS_o (by omega)]
      · rw [wr_i hi, j1 _ _ (by omega) (by omega) (by omega), atS_o (by omega)]
    have hsR : ∀ o, o < nt → o ≠ t → SameR τ (wr τa 373 31 (τa 373 31 + r)) o := by
      intro o ho hot
      refine ⟨⟨?_, ?_, ?_, ?_, ?_, ?_⟩, fun q hq => ⟨?_, ?_⟩⟩
      · rw [wr_c (by decide), j1 _ _ (by decide) (by decide) (by decide), (atS_n hot).1]
      · rw [wr_c (by decide), j1 _ _ (by decide) (by decide) (by decide), (atS_n hot).2]
      · rw [wr_c (by decide), (j2 o hot).1]
      · rw [wr_c (by decide), j1 _ _ (by decide) (by decide) (by decide), atS_o (by omega)]
      · rw [wr_c (by decide), j1 _ _ (by decide) (by decide) (by decide), atS_o (by omega)]
      · rw [wr_c (by decide), (j2 o hot).2]
      · rw [wr_c (by decide), j1 _ _ (by decide) (by decide) (by decide), atS_w.1, if_neg (by omega)]
      · rw [wr_c (by decide), j3 o q hot hq]
    have hsC : ∀ o, o < nt → o ≠ t → SameC σ σ' o := by
      intro o ho hot
      refine ⟨⟨?_, ?_, ?_, ?_, ?_⟩, ?_, fun j hj => ?_⟩
      · rw [u6 _ _ (by omega) (by omega) (by omega), k1 _ _ (by omega) (by omega) (by omega) (by omega)]
      · rw [u6 _ _ (by omega) (by omega) (by omega), (k2 o hot).1]
      · rw [u6 _ _ (by omega) (by omega) (by omega), (k2 o hot).2.1]
      · rw [u6 _ _ (by omega) (by omega) (by omega), (k2 o hot).2.2]
      · rw [u6 _ _ (by omega) (by omega) (by omega), k1 _ _ (by omega) (by omega) (by omega) (by omega)]
      · rw [u6 _ _ (by omega) (by omega) (by omega), k1 _ _ (by omega) (by omega) (by omega) (by omega)]
      · by_cases z : j = 7 * wa + arr w p
        · rw [z, u5, bt_set _ _ _ (by omega) (by omega), decide_eq_false (by omega), Bool.or_false, k1 _ _ (by omega) (by omega) (by omega) (by omega)]
        · rw [u6 _ _ (by omega) (by omega) (by omega), k1 _ _ (by omega) (by omega) (by omega) (by omega)]
    have h35 : ∀ j, j < 14 → bt (σ' 35 j) t = (bt (σ 35 j) t || decide (j = 7 * wa + arr w p)) := by
      intro j hj
      by_cases z : j = 7 * wa + arr w p
      · rw [z, u5, bt_set _ _ _ (by omega) (by omega), decide_eq_true rfl, decide_eq_true rfl, Bool.or_true, Bool.or_true]
      · rw [u6 _ _ (by omega) (by omega) (by omega), k1 _ _ (by omega) (by omega) (by omega) (by omega), decide_eq_false z, Bool.or_false]
    refine ⟨σ', _, u1, u2, ⟨hCI, hRI⟩, ?_, hsR, DY_in hnt hD hCI hRI ?_ ?_ ?_ ?_ (fun o ho hot => ⟨⟨hsC o ho hot, hsR o ho hot⟩, rfl, if_neg hot⟩) ?_⟩
    · rw [wr_c (by decide), j1 _ _ (by decide) (by decide) (by decide), atS_t.1]; decide
    · exact MN_o (σ := nc σ 25 (7 * t + arr w p) (nI m)) (τ := atS τ t (arr w p) (nI m)) (fun i => by rw [u6 _ _ (by omega) (by omega) (by omega), k3]) (fun i => by rw [wr_c (by decide), j1 _ _ (by decide) (by decide) (by decide)]) hM
    · rw [u3, wr_eq, k1 _ _ (by decide) (by decide) (by decide) (by decide), j1 _ _ (by decide) (by decide) (by decide), atS_o (by omega), hD.2.2.1.2.2.1]
    · rw [u6 _ _ (by omega) (by omega) (by omega), k1 _ _ (by decide) (by decide) (by decide) (by decide), hD.2.2.1.2.2.2.1]
      congr 1
      funext o
      rw [wr_c (by decide), j1 _ _ (by decide) (by decide) (by decide), atS_o (by omega)]
    · intro x h1 h2
      rw [u6 _ _ (by omega) (by omega) (by omega), k1 _ _ (by decide) (by decide) (by decide) (by decide)]
      exact hD.2.2.1.2.2.2.2 x h1 h2
    · refine ⟨1, arr w p, wa, ba, l, ⟨⟨?_, fun _ => ?_, ?_⟩, ⟨?_, fun q => absurd q (by decide)⟩, fun _ => ?_, fun q => absurd q (by decide)⟩, ⟨⟨u4, ?_, ?_⟩, ⟨?_, fun q => absurd q (by decide)⟩, ?_⟩, ?_, ⟨fun _ q hq => ⟨?_, ?_⟩, fun h0 q hq => ?_⟩⟩
      · rw [wr_c (by decide), j1 _ _ (by decide) (by decide) (by decide), atS_t.1]; rfl
      · rw [wr_c (by decide), j1 _ _ (by decide) (by decide) (by decide), atS_t.2]
      · rw [wr_c (by decide), j4]
      · rw [wr_c (by decide), j5]
      · rw [wr_c (by decide), j1 _ _ (by decide) (by decide) (by decide), atS_o (by omega), r6 (by decide)]
      · rw [u6 _ _ (by omega) (by omega) (by omega), k4]
      · rw [u6 _ _ (by omega) (by omega) (by omega)]; exact k5
      · rw [u6 _ _ (by omega) (by omega) (by omega), k6]
      · rw [u6 _ _ (by omega) (by omega) (by omega), k1 _ _ (by omega) (by omega) (by omega) (by omega), c6]; rfl
      · rw [if_pos rfl]; exact hGa
      · rw [wr_c (by decide), j1 _ _ (by decide) (by decide) (by decide), atS_w.1, h35 q (by omega), h35 (7 + q) (by omega), Bool.or_eq_true, Bool.or_eq_true, decide_eq_true_eq, decide_eq_true_eq]
        have h0 := (hS.1 (by decide) q hq).1
        by_cases z : q = arr w p
        · rw [if_pos (by omega)]
          refine ⟨fun _ => ?_, fun _ => by decide⟩
          rcases (by omega : wa = 0 ∨ wa = 1) with rfl | rfl
          · exact Or.inl (Or.inr (by omega))
          · exact Or.inr (Or.inr (by omega))
        · rw [if_neg (by omega), h0]
          exact ⟨fun x => x.imp Or.inl Or.inl, fun x => x.imp (fun y => y.resolve_right (by omega)) (fun y => y.resolve_right (by omega))⟩
      · rw [wr_c (by decide), j6 q hq, h35 _ (by omega), Bool.or_eq_true, decide_eq_true_eq]
        exact ⟨fun x => x.elim (fun y => Or.inr (by omega)) Or.inl, fun x => x.elim Or.inr (fun y => Or.inl (by omega))⟩
      · obtain ⟨y1, y2⟩ := hba h0
        subst y1
        rw [h35 _ (by omega), decide_eq_false (by omega), Bool.or_false]
        exact hS.2 y2 q hq
  -- going off
  have off : fX11_comesIn 373 (nI t) (nI m) τ = fX11_comesIn_90 373 (nI t) (nI m) (atS τ t (arr w p) (nI m)) → (fX0_comeIn 2 (nI t) (nI (arr w p)) (nI m) σ = bd (fX0_goOff 2 (nI t) (nI m) (nc σ 25 (7 * t + arr w p) (nI m))) fun _ ρ => some ((), ρ)) → ∃ σ' τ', fX0_comeIn 2 (nI t) (nI (arr w p)) (nI m) σ = some ((), σ') ∧ fX11_comesIn 373 (nI t) (nI m) τ = some ((), τ') ∧ (CI σ σ' ∧ RI τ τ') ∧ τ' 381 t ≠ 2 ∧ (∀ o, o < nt → o ≠ t → SameR τ τ' o) ∧ DY g E n nt no σ0 τ0 m σ' τ' M1 (fun x => if x = t then m + 1 else M2 x) := by
    intro x2 x1
    rw [x1, x2, c_goOff (d := d) (by omega) (by omega) (by rw [nc_o (by decide), l10, ed]), bd_v]
    unfold fX11_comesIn_90
    rw [rf_373_11, rf_373_15, ln_381, ln_385, gd5 (by omega), lt_v, gd5 (by omega), lt_v, nI_cl (by omega)]
    generalize hbit : (1 : Int32) <<< (nI t &&& 31) = bit
    generalize hdl : (nI m - (if nc σ 25 (7 * t + arr w p) (nI m) 8 t = 3 then nc σ 25 (7 * t + arr w p) (nI m) 28 (7 * t + d) + (nc σ 25 (7 * t + arr w p) (nI m) 28 (7 * t + d) - nc σ 25 (7 * t + arr w p) (nI m) 12 t) else nc σ 25 (7 * t + arr w p) (nI m) 28 (7 * t + d))) - 1000 = dd
    have hdd : dd = (nI m - (if g (15 + 5 * t) = 3 then du g t d + (du g t d - g (19 + 5 * t)) else du g t d)) - 1000 := by
      rw [← hdl]
      simp only [nc_o (show 8 ≠ 25 by decide), nc_o (show 28 ≠ 25 by decide), nc_o (show 12 ≠ 25 by decide), l8, l12, (hD.2.1.2 t ht).1.1 d hd]
    refine ⟨_, _, rfl, rfl, ?_⟩
    generalize hσ' : wr (wr (wr (nc σ 25 (7 * t + arr w p) (nI m)) 30 t 300) 2 14 (nc σ 25 (7 * t + arr w p) (nI m) 2 14 ||| bit)) 22 12 (nc σ 25 (7 * t + arr w p) (nI m) 22 12 + dd) = σ'
    generalize hτ' : wr (wr (atS τ t (arr w p) (nI m)) 381 t 3) 385 t (nI m) = τ'
    have u1 : ∀ c i, c ≠ 25 → ¬ (c = 30 ∧ i = t) → ¬ (c = 2 ∧ i = 14) → ¬ (c = 22 ∧ i = 12) → σ' c i = σ c i := by
      intro c i q1 q2 q3 q4
      rw [← hσ']
      unfold wr
      rw [if_neg q4, if_neg q3, if_neg q2, nc_o q1]
    have u2 : σ' 30 t = 300 := by rw [← hσ', wr_c (by decide), wr_c (by decide), wr_eq]
    have u3 : σ' 2 14 = σ 2 14 ||| bit := by rw [← hσ', wr_c (by decide), wr_eq, nc_o (by decide)]
    have u4 : σ' 22 12 = σ 22 12 + dd := by rw [← hσ', wr_eq, nc_o (by decide)]
    have y1 : ∀ c i, ¬ (c = 381 ∧ i = t) → ¬ (c = 385 ∧ i = t) → τ' c i = atS τ t (arr w p) (nI m) c i := by
      intro c i q1 q2
      rw [← hτ']
      unfold wr
      rw [if_neg q2, if_neg q1]
    have y2 : τ' 381 t = 3 := by rw [← hτ', wr_c (by decide), wr_eq]
    have y3 : τ' 385 t = nI m := by rw [← hτ', wr_eq]
    have hCI : CI σ σ' := ⟨fun c i q1 q2 q3 q4 q5 q6 q7 q8 => u1 c i (by omega) (by omega) (by omega) (by omega), fun i hi => u1 _ _ (by omega) (by omega) (by omega) (by omega), fun i q1 q2 => u1 _ _ (by omega) (by omega) (by omega) (by omega)⟩
    have hRI : RI τ τ' := ⟨fun c i q1 q2 q3 q4 q5 q6 q7 q8 q9 => by rw [y1 c i (by omega) (by omega), atS_o (by omega)], fun i hi => by rw [y1 _ _ (by omega) (by omega), atS_o (by omega)]⟩
    have hsR : ∀ o, o < nt → o ≠ t → SameR τ τ' o := by
      intro o ho hot
      refine ⟨⟨?_, ?_, ?_, ?_, ?_, ?_⟩, fun q hq => ⟨?_, ?_⟩⟩
      · rw [y1 _ _ (by omega) (by omega), (atS_n hot).1]
      · rw [y1 _ _ (by omega) (by omega), (atS_n hot).2]
      · rw [y1 _ _ (by omega) (by omega), atS_o (by omega)]
      · rw [y1 _ _ (by omega) (by omega), atS_o (by omega)]
      · rw [y1 _ _ (by omega) (by omega), atS_o (by omega)]
      · rw [y1 _ _ (by omega) (by omega), atS_o (by omega)]
      · rw [y1 _ _ (by omega) (by omega), atS_w.1, if_neg (by omega)]
      · rw [y1 _ _ (by omega) (by omega), atS_w.2, if_neg (by omega)]
    have hbt : ∀ o, o < 32 → bt (σ' 2 14) o = (bt (σ 2 14) o || decide (t = o)) := fun o ho => by rw [u3, ← hbit, bt_set _ _ _ (by omega) ho]
    have hsC : ∀ o, o < nt → o ≠ t → SameC σ σ' o := by
      intro o ho hot
      refine ⟨⟨u1 _ _ (by omega) (by omega) (by omega) (by omega), u1 _ _ (by omega) (by omega) (by omega) (by omega), u1 _ _ (by omega) (by omega) (by omega) (by omega), u1 _ _ (by omega) (by omega) (by omega) (by omega), u1 _ _ (by omega) (by omega) (by omega) (by omega)⟩, ?_, fun j hj => by rw [u1 _ _ (by omega) (by omega) (by omega) (by omega)]⟩
      rw [hbt o (by omega), decide_eq_false (by omega), Bool.or_false]
    refine ⟨⟨hCI, hRI⟩, by rw [y2]; decide, hsR, DY_in hnt hD hCI hRI ?_ ?_ ?_ ?_ (fun o ho hot => ⟨⟨hsC o ho hot, hsR o ho hot⟩, rfl, if_neg hot⟩) ?_⟩
    · exact MN_o (σ := nc σ 25 (7 * t + arr w p) (nI m)) (τ := atS τ t (arr w p) (nI m)) (fun i => by rw [← hσ', wr_c (by decide), wr_c (by decide), wr_c (by decide)]) (fun i => y1 _ _ (by omega) (by omega)) hM
    · rw [u1 _ _ (by omega) (by omega) (by omega) (by omega), y1 _ _ (by omega) (by omega), atS_o (by omega), hD.2.2.1.2.2.1]
    · rw [u4, hD.2.2.1.2.2.2.1, hdd, off_delay (f := τ 385) (f' := τ' 385) ht (fun o ho hot => (hsR o ho hot).1.2.2.2.2.1) (r6 (by decide)) y3 hm (by omega) (show f < 7 by omega) ef ed]
    · intro x h1 h2
      rw [hbt x h2, decide_eq_false (by omega), Bool.or_false]
      exact hD.2.2.1.2.2.2.2 x h1 h2
    · refine ⟨3, p, w, b, l, ⟨⟨y2, fun q => absurd q (by decide), ?_⟩, ⟨?_, fun q => absurd q (by decide)⟩, fun q => absurd rfl q, fun _ => ⟨m, hm, y3⟩⟩, ⟨⟨u2, ?_, k, hk, ek, ?_⟩, ⟨?_, fun q => absurd q (by decide)⟩, ?_⟩, ⟨f, d, ⟨ef, ed, hf, hd, hfd⟩, ⟨by decide, hb2, hw⟩, ⟨hb1, fun q => absurd q (by decide)⟩, fun q => absurd q (by decide), fun q => absurd q (by decide)⟩, ⟨fun q => absurd rfl q, fun h0 q hq => ?_⟩⟩
      · rw [y1 _ _ (by omega) (by omega), atS_o (by omega), r3]
      · rw [y1 _ _ (by omega) (by omega), atS_o (by omega), r4]
      · rw [u1 _ _ (by omega) (by omega) (by omega) (by omega), c2]
      · rw [u1 _ _ (by omega) (by omega) (by omega) (by omega), c3]
      · rw [u1 _ _ (by omega) (by omega) (by omega) (by omega), c4]
      · rw [hbt t (by omega), decide_eq_true rfl, Bool.or_true]; rfl
      · rw [u1 _ _ (by omega) (by omega) (by omega) (by omega)]
        exact hS.2 h0 q hq
  have inj : ∀ {x y : Nat}, x < 7 → y < 7 → (nI x = nI y ↔ x = y) := fun h1 h2 => nI_eq (by omega) (by omega)
  rw [ed, ef] at e1 e2
  by_cases A : arr w p = (if b = 0 then d else f)
  · by_cases B : b = 0
    · subst B
      simp only [if_true] at A hw
      rw [if_pos (by rw [if_pos rfl, A])] at e1 e2
      rw [if_pos rfl] at e2
      by_cases K : g (15 + 5 * t) = 3
      · rw [if_pos K] at e1 e2
        rw [if_pos (by rw [A])] at e1
        rw [e1, e2, c_turnBack (by omega) hw2 hk (by rw [nc_o (by decide), c2]) (by rw [nc_o (by decide), l8, ek]), bd_v, r_turn (by omega) hs7 hw2 (by rw [atS_o (by omega), r3])]
        have hnw : (if nI (1 - w) = 0 then (1 : Int32) else 0) = if 1 - w = 0 then 1 else 0 := by
          by_cases z : 1 - w = 0
          · rw [z, if_pos nI_0, if_pos rfl]
          · rw [if_neg z, if_neg (nI_ne0 (by omega) (by omega))]
        refine stay _ _ (1 - w) 1 (by omega) (fun c i q1 q2 q3 q4 => ?_) (fun o hot => ⟨?_, ?_, ?_⟩) (fun i => ?_) (fun c i q1 q2 q3 => ?_) (fun o hot => ⟨?_, ?_⟩) (fun o q hot hq => ?_) ?_ ?_ ?_ ⟨k, hk, ek, ?_⟩ ?_ ?_ (fun q hq => ?_) (fun q => absurd q (by decide))
        · rw [wr_c q4, wr_c q3, wr_c q2, nc_o q1]
        · rw [wr_c (by decide), wr_c (by decide), wr_i hot, nc_o (by decide)]
        · rw [wr_c (by decide), wr_i hot, wr_c (by decide), nc_o (by decide)]
        · rw [wr_i hot, wr_c (by decide), wr_c (by decide), nc_o (by decide)]
        · rw [wr_c (by decide), wr_c (by decide), wr_c (by decide)]
        · rw [upR_c q3, wr_c q1, wr_c q2]
        · rw [upR_c (by decide), wr_i hot, wr_c (by decide), atS_o (by omega)]
        · rw [upR_c (by decide), wr_c (by decide), wr_i hot, atS_o (by omega)]
        · rw [upR_out (by omega), wr_c (by decide), wr_c (by decide), atS_w.2, if_neg (by omega)]
        · rw [upR_c (by decide), wr_eq]
        · rw [upR_c (by decide), wr_c (by decide), wr_eq]; rfl
        · rw [wr_c (by decide), wr_c (by decide), wr_eq]
        · rw [wr_c (by decide), wr_eq, hnw]
        · rw [wr_eq, nc_o (by decide), l9]; rfl
        · refine ⟨f, d, ⟨ef, ed, hf, hd, hfd⟩, ⟨by decide, by decide, ?_⟩, ⟨fun _ => K, fun q => absurd q (by decide)⟩, fun _ => ?_, fun q => absurd q (by decide)⟩
          · rw [if_neg (by decide), hw]
            split <;> rfl
          · by_cases z : d ≤ f
            · rw [if_pos z] at hw
              subst hw
              exact Or.inl ⟨rfl, by omega⟩
            · rw [if_neg z] at hw
              subst hw
              exact Or.inr ⟨rfl, by omega⟩
        · rw [upR_in (by omega) (by omega)]
          have := hS.2 rfl q hq
          rw [this]
          by_cases z : q = arr w p
          · rw [if_pos (by omega)]
            exact ⟨fun _ => Or.inl z, fun _ => by decide⟩
          · rw [if_neg (by omega)]
            exact ⟨fun y => absurd rfl y, fun y => y.elim (fun y => absurd y z) (fun y => absurd y (by decide))⟩
      · rw [if_neg K] at e1 e2
        exact off e2 e1
    · obtain rfl : b = 1 := by omega
      simp only [if_neg B] at A
      rw [if_pos (by rw [if_neg B, A])] at e1 e2
      rw [if_neg B] at e2
      rw [if_pos (hb1 rfl), if_neg (fun q => by rw [inj hs7 (by omega)] at q; omega)] at e1
      exact off e2 e1
  · have hne : ¬ nI (arr w p) = (if b = 0 then nI d else nI f) := by
      by_cases B : b = 0
      · rw [if_pos B] at A ⊢
        rw [inj hs7 (by omega)]; exact A
      · rw [if_neg B] at A ⊢
        rw [inj hs7 (by omega)]; exact A
    rw [if_neg hne] at e1 e2
    rw [e1, e2]
    refine stay _ _ w b hw2 (fun c i q1 q2 q3 q4 => nc_o q1) (fun o hot => ⟨nc_o (by decide), nc_o (by decide), nc_o (by decide)⟩) (fun i => rfl) (fun c i q1 q2 q3 => rfl) (fun o hot => ⟨atS_o (by omega), atS_o (by omega)⟩) (fun o q hot hq => by rw [atS_w.2, if_neg (by omega)]) (by rw [atS_o (by omega), r3]) (by rw [atS_o (by omega), r4]) (by rw [nc_o (by decide), c2]) ⟨k, hk, ek, by rw [nc_o (by decide), c3]⟩ (by rw [nc_o (by decide), c4]) ?_ (fun q hq => ?_) (fun h0 => ⟨rfl, h0⟩)
    · refine ⟨f, d, ⟨ef, ed, hf, hd, hfd⟩, ⟨by decide, hb2, hw⟩, ⟨hb1, fun q => absurd q (by decide)⟩, fun _ => ?_, fun q => absurd q (by decide)⟩
      unfold arr at A ⊢
      by_cases B : b = 0
      · rw [if_pos B] at A hw
        by_cases z : d ≤ f
        · rw [if_pos z] at hw
          subst hw
          rw [if_neg (by decide)] at A ⊢
          exact Or.inr ⟨rfl, by omega⟩
        · rw [if_neg z] at hw
          subst hw
          rw [if_pos rfl] at A ⊢
          exact Or.inl ⟨rfl, by omega⟩
      · rw [if_neg B] at A hw
        by_cases z : d ≤ f
        · rw [if_pos z] at hw
          subst hw
          rw [if_pos rfl] at A ⊢
          exact Or.inl ⟨rfl, by omega⟩
        · rw [if_neg z] at hw
          subst hw
          rw [if_neg (by decide)] at A ⊢
          exact Or.inr ⟨rfl, by omega⟩
    · rw [atS_w.2]
      have h0 := (hS.1 (by decide) q hq).2
      by_cases z : q = arr w p
      · rw [if_pos (by omega)]
        exact ⟨fun _ => Or.inl z, fun _ => by decide⟩
      · rw [if_neg (by omega), h0]
        exact ⟨Or.inr, fun y => y.resolve_left z⟩
