/-! PURE: due, order -/
theorem Wf.st {g : Nat → Int32} {n nt no nf : Nat} (hW : Wf g n nt no nf) : n ≤ 7 := hW.1.1.2
theorem e11_dueAt (σ : Sg) (t f q : Nat) (ht : t < 5) (hf : f ≤ 6) (hq : q ≤ 6) (h : σ 374 (16 + 5 * t) = nI f) : fX11_dueAt 373 (nI t) (nI q) σ = some (σ 374 (19 + 5 * t) + cb (fun k => σ 374 (8 + k)) f q, σ) := by
  unfold fX11_dueAt
  rw [e11_timeOf σ t ht, bd_v, e11_fromOf σ t ht, bd_v, h, e11_between σ f q hf hq, bd_v]
theorem e3_dueAt (σ : Sg) (t f q : Nat) (ht : t < 5) (hf : f ≤ 6) (hq : q ≤ 6) (h : σ 9 t = nI f) : fX3_dueAt 3 (nI t) (nI q) σ = some (σ 12 t + cb (σ 6) f q, σ) := by
  unfold fX3_dueAt
  simp only [rf_3_0, rf_3_1, rf_7_5, rf_7_2, ln_12, ln_9]
  rw [gd_in ht (by decide), gd_in ht (by decide), nI_cl (by omega), h, e8_minutesBetween σ f q hf hq, bd_v]
theorem cb_LR {σ : Sg} {g : Nat → Int32} (hL : LR σ 3 g) {f q : Nat} (hf : f ≤ 6) (hq : q ≤ 6) : cb (σ 6) f q = cb (fun k => g (8 + k)) f q := cb_congr hf hq (fun k hk => hL.2.2.1 k hk)
theorem mn_lt {a b : Nat} (h : a < b) (hb : b < 2147483648) : (nI a < nI b) = True := eq_true (nI_lt h hb)
theorem e9_passes (σ : Sg) (t f d q : Nat) (ht : t < 5) (hf : f < 7) (hd : d < 7) (hq : q < 7) (h1 : σ 9 t = nI f) (h2 : σ 10 t = nI d) : fX9_passes 7 (nI t) (nI q) σ = some (if (if d < f then d else f) ≤ q ∧ q ≤ (if f < d then d else f) then 1 else 0, σ) := by
  unfold fX9_passes
  simp only [rf_7_2, rf_7_3, ln_9, ln_10]
  rw [gd_in ht (by decide), gd_in ht (by decide), gd_in ht (by decide), gd_in ht (by decide), nI_cl (by omega), h1, h2]
  have m1 : (if nI d < nI f then nI d else nI f) = nI (if d < f then d else f) := by
    by_cases x : d < f
    · rw [if_pos x, if_pos (nI_lt x (by omega))]
    · rw [if_neg x, if_neg (nI_nlt (by omega) (by omega))]
  have m2 : (if nI f < nI d then nI d else nI f) = nI (if f < d then d else f) := by
    by_cases x : f < d
    · rw [if_pos x, if_pos (nI_lt x (by omega))]
    · rw [if_neg x, if_neg (nI_nlt (by omega) (by omega))]
  rw [m1, m2]
  generalize hlo : (if d < f then d else f) = lo
  generalize hhi : (if f < d then d else f) = hi
  have hl2 : lo < 7 := by rw [← hlo]; split <;> omega
  have hh2 : hi < 7 := by rw [← hhi]; split <;> omega
  by_cases x : q < lo
  · rw [if_pos (nI_lt x (by omega)), if_neg (by omega)]
    rfl
  · rw [if_neg (nI_nlt (by omega) (by omega))]
    by_cases y : hi < q
    · rw [if_pos (nI_lt y (by omega)), if_neg (by omega)]
      rfl
    · rw [if_neg (nI_nlt (by omega) (by omega)), if_pos (by omega)]
      rfl
theorem gw_lt {g : Nat → Int32} {t f d : Nat} (h1 : g (16 + 5 * t) = nI f) (h2 : g (17 + 5 * t) = nI d) (hf : f < 7) (hd : d < 7) : gw g t = if d ≤ f then 1 else 0 := by
  unfold gw
  rw [h1, h2]
  by_cases x : d ≤ f
  · rw [if_pos x, if_pos (nI_le x (by omega))]
  · rw [if_neg x, if_neg (nI_ge (by omega) (by omega))]
theorem iw_n {a b q : Nat} (ha : a < 1000) (hb : b < 1000) (hq : q < 1000) : iw (nI q) (nI a) (nI b) = if a ≤ q ∧ q ≤ b then 1 else 0 := by
  unfold iw
  by_cases x : q < a
  · rw [if_pos (nI_lt x (by omega)), if_neg (by omega)]
  · rw [if_neg (nI_nlt (by omega) (by omega))]
    by_cases y : b < q
    · rw [if_pos (nI_lt y (by omega)), if_neg (by omega)]
    · rw [if_neg (nI_nlt (by omega) (by omega)), if_pos (by omega)]
theorem e11_isOnWay (σ : Sg) (t f d q : Nat) (ht : t < 5) (hf : f < 7) (hd : d < 7) (hq : q < 7) (hne : f ≠ d) (h1 : σ 374 (16 + 5 * t) = nI f) (h2 : σ 374 (17 + 5 * t) = nI d) : fX11_isOnWay 373 (nI t) (nI q) σ = some (if (if d < f then d else f) ≤ q ∧ q ≤ (if f < d then d else f) then 1 else 0, σ) := by
  unfold fX11_isOnWay
  simp only [e11_wayOf σ t ht, bd_v, gw_lt h1 h2 hf hd, e11_fromOf σ t ht, e11_toOf σ t ht, h1, h2, e11_in, gd_t (iw_zo _ _ _), iw_n (show f < 1000 by omega) (show d < 1000 by omega) (show q < 1000 by omega), iw_n (show d < 1000 by omega) (show f < 1000 by omega) (show q < 1000 by omega)]
  by_cases x : d ≤ f
  · have : d < f := by omega
    rw [if_pos x, if_neg (by decide), if_pos this, if_neg (show ¬ f < d by omega)]
  · have : f < d := by omega
    rw [if_neg x, if_pos rfl, if_pos this, if_neg (show ¬ d < f by omega)]
theorem s_due {σ : Sg} (hI : Inv σ) (a1 a2 : Int32) : Two (fX10_due 0 a1 a2) (fX11_due 373 a1 a2) σ := by
  obtain ⟨n, nt, no, nf, hL, hW, h4, h7, h13, h3⟩ := hI.k
  obtain ⟨g0, g14, g40, g161⟩ := hW.2.1
  have hnt : nt ≤ 5 := hW.1.2.1
  have hn := hW.st
  unfold fX10_due fX11_due
  simp only [rf_0_2, rf_3_1, rf_3_0, e9_has (v0 := 7) h7, bd_v, e10_finding, e11_finds, e8_hasStation (v0 := 4) h4]
  by_cases A : ib a1 nt = 0
  · exact two_find (-100001) hI (by simp only [e9_has (v0 := 7) h7, bd_v, A, if_true]) (fun τ hτ => by
      rw [e11_isTrain (n := nt) (by rw [row374 hτ, g14]) (by omega), bd_v, if_pos A])
  obtain ⟨t, ht, rfl⟩ := ib_of (by omega) A
  by_cases B : ib a2 n = 0
  · exact two_find (-100001) hI (by simp only [e9_has (v0 := 7) h7, e8_hasStation (v0 := 4) h4, bd_v, if_neg A, B, if_true]) (fun τ hτ => by
      rw [e11_isTrain (n := nt) (by rw [row374 hτ, g14]) (by omega), bd_v, if_neg A, e11_isStation (n := n) (by rw [row374 hτ, g0]) (by omega), bd_v, if_pos B])
  obtain ⟨q, hq, rfl⟩ := ib_of (by omega) B
  obtain ⟨k, f, d, len, tm, hk, hf, hd, hne, -, -, -, e1, e2, e3, e4, e5⟩ := hW.2.2.2.2.1 t ht
  obtain ⟨⟨c1, c2, c3⟩, c4, c5⟩ := hL.2.2.2.1 t (by omega)
  have c2 : σ 9 t = nI f := by rw [← e2]; exact c2
  have c3 : σ 10 t = nI d := by rw [← e3]; exact c3
  by_cases D : (if d < f then d else f) ≤ q ∧ q ≤ (if f < d then d else f)
  · refine two_read (σ 374 (19 + 5 * t) + cb (fun k => σ 374 (8 + k)) f q) hI ?_ ?_
    · simp only [e9_has (v0 := 7) h7, e8_hasStation (v0 := 4) h4, bd_v, if_neg A, if_neg B]
      rw [e9_passes σ t f d q (by omega) (by omega) (by omega) (by omega) c2 c3, bd_v, if_pos D, if_neg (by decide), e3_dueAt σ t f q (by omega) (by omega) (by omega) c2, bd_v, cb_LR hL (by omega) (by omega), show σ 12 t = σ 374 (19 + 5 * t) from c5]
    · rw [e11_isTrain g14 (by omega), bd_v, if_neg A, e11_isStation g0 (by omega), bd_v, if_neg B, e11_isOnWay σ t f d q (by omega) (by omega) (by omega) (by omega) hne e2 e3, bd_v, if_pos D, if_neg (by decide), e11_dueAt σ t f q (by omega) (by omega) (by omega) e2, bd_v]
  · refine two_find (-100006) hI ?_ (fun τ hτ => ?_)
    · simp only [e9_has (v0 := 7) h7, e8_hasStation (v0 := 4) h4, bd_v, if_neg A, if_neg B]
      rw [e9_passes σ t f d q (by omega) (by omega) (by omega) (by omega) c2 c3, bd_v, if_neg D, if_pos rfl]
    · have r := row374 hτ
      rw [e11_isTrain (n := nt) (by rw [r, g14]) (by omega), bd_v, if_neg A, e11_isStation (n := n) (by rw [r, g0]) (by omega), bd_v, if_neg B, e11_isOnWay τ t f d q (by omega) (by omega) (by omega) (by omega) hne (by rw [r, e2]) (by rw [r, e3]), bd_v, if_neg D, if_pos rfl]
/-- to whom an order was handed, by bits -/
def hto (f : Nat → Int32) : Nat → Int32
  | 0 => 0
  | t + 1 => if f t = -1 then hto f t else hto f t ||| ((1 : Int32) <<< (nI t &&& 31))
theorem e5_hto (σ : Sg) (o : Nat) (ho : o < 12) : ∀ d t fu, t + d = 5 → d < fu → lq2 (fX5_handedTo_4 13 (nI o)) fu (hto (fun t => σ 19 (5 * o + t)) t) (nI t) σ = some (hto (fun t => σ 19 (5 * o + t)) 5, σ) := by
  intro d
  induction d with
  | zero =>
    intro t fu h hf
    obtain ⟨fu, rfl⟩ : ∃ k, fu = k + 1 := ⟨fu - 1, by omega⟩
    obtain rfl : t = 5 := by omega
    show fX5_handedTo_4 13 (nI o) _ _ _ _ = _
    unfold fX5_handedTo_4
    rw [if_pos (show (5 : Int32) ≤ nI 5 from by decide)]
  | succ d ih =>
    intro t fu h hf
    obtain ⟨fu, rfl⟩ : ∃ k, fu = k + 1 := ⟨fu - 1, by omega⟩
    show fX5_handedTo_4 13 (nI o) _ _ _ _ = _
    unfold fX5_handedTo_4
    have e : nI o * 5 + nI t = nI (5 * o + t) := by rw [show (5 : Int32) = nI 5 from rfl, pk_mul, nI_add, Nat.mul_comm]
    rw [if_neg (show ¬ (5 : Int32) ≤ nI t from nI_ge (a := t) (b := 5) (by omega) (by decide)), e, rf_13_6, ln_19, gd_in (by omega) (by decide), nI_cl (by omega)]
    have ih' := ih (t + 1) fu (by omega) (by omega)
    by_cases x : σ 19 (5 * o + t) = -1
    · rw [if_pos x]
      unfold fX5_handedTo_29
      rw [lt_v, nI_1]
      rwa [show hto (fun t => σ 19 (5 * o + t)) (t + 1) = hto (fun t => σ 19 (5 * o + t)) t from if_pos x] at ih'
    · rw [if_neg x, lt_v]
      unfold fX5_handedTo_29
      rw [lt_v, nI_1]
      rwa [show hto (fun t => σ 19 (5 * o + t)) (t + 1) = hto (fun t => σ 19 (5 * o + t)) t ||| ((1 : Int32) <<< (nI t &&& 31)) from if_neg x] at ih'
theorem e11_hto (σ : Sg) (o : Nat) (ho : o < 12) (hh : ∀ t, t < 5 → (σ 374 (101 + 5 * o + t) = -1 ↔ σ 374 (101 + 5 * o + t) < 0)) : ∀ d t fu, t + d = 5 → d < fu → lq2 (fX11_order_48 373 (nI o)) fu (hto (fun t => σ 374 (101 + 5 * o + t)) t) (nI t) σ = some (hto (fun t => σ 374 (101 + 5 * o + t)) 5, σ) := by
  intro d
  induction d with
  | zero =>
    intro t fu h hf
    obtain ⟨fu, rfl⟩ : ∃ k, fu = k + 1 := ⟨fu - 1, by omega⟩
    obtain rfl : t = 5 := by omega
    show fX11_order_48 373 (nI o) _ _ _ _ = _
    unfold fX11_order_48
    rw [if_pos (show (5 : Int32) ≤ nI 5 from by decide)]
  | succ d ih =>
    intro t fu h hf
    obtain ⟨fu, rfl⟩ : ∃ k, fu = k + 1 := ⟨fu - 1, by omega⟩
    show fX11_order_48 373 (nI o) _ _ _ _ = _
    unfold fX11_order_48
    rw [if_neg (show ¬ (5 : Int32) ≤ nI t from nI_ge (a := t) (b := 5) (by omega) (by decide)), ix3 (A := 101) (B := 5) 101 5 o t rfl rfl, rf_373_0, ln_374, gd_in (by omega) (by decide), nI_cl (by omega)]
    have ih' := ih (t + 1) fu (by omega) (by omega)
    unfold fX11_order_80
    by_cases x : σ 374 (101 + 5 * o + t) = -1
    · rw [if_pos ((hh t (by omega)).mp x), lt_v, lt_v, nI_1]
      rwa [show hto (fun t => σ 374 (101 + 5 * o + t)) (t + 1) = hto (fun t => σ 374 (101 + 5 * o + t)) t ||| 0 from by rw [Int32.or_zero]; exact if_pos x] at ih'
    · rw [if_neg (fun z => x ((hh t (by omega)).mpr z)), lt_v, lt_v, nI_1]
      rwa [show hto (fun t => σ 374 (101 + 5 * o + t)) (t + 1) = hto (fun t => σ 374 (101 + 5 * o + t)) t ||| ((1 : Int32) <<< (nI t &&& 31)) from if_neg x] at ih'
theorem hto_congr {f g : Nat → Int32} : ∀ d, (∀ t, t < d → f t = g t) → hto f d = hto g d := by
  intro d
  induction d with
  | zero => intro _; rfl
  | succ d ih =>
    intro h
    unfold hto
    rw [ih (fun t ht => h t (by omega)), h d (by omega)]
theorem m1_lt {g : Int32} (h : g = -1 ∨ ∃ m, m ≤ 400 ∧ g = nI m) : g = -1 ↔ g < 0 := by
  rcases h with rfl | ⟨m, hm, rfl⟩
  · exact ⟨fun _ => by decide, fun _ => rfl⟩
  · refine ⟨fun e => ?_, fun e => absurd e (nI_pos (by omega))⟩
    have := congrArg Int32.toInt e
    rw [nI_toInt (by omega)] at this
    exact absurd this (by have : (-1 : Int32).toInt = -1 := by decide
                          omega)
theorem s_order {σ : Sg} (hI : Inv σ) (a1 a2 : Int32) : Two (fX10_order 0 a1 a2) (fX11_order 373 a1 a2) σ := by
  obtain ⟨n, nt, no, nf, hL, hW, h4, h7, h13, h3⟩ := hI.k
  obtain ⟨g0, g14, g40, g161⟩ := hW.2.1
  have hno : no ≤ 12 := hW.1.2.2.1
  unfold fX10_order fX11_order
  simp only [rf_0_2, rf_3_2, e5_has (v0 := 13) h13, bd_v, e10_finding, e11_finds, e10_isWithin, e11_in]
  by_cases A : ib a1 no = 0
  · exact two_find (-100001) hI (by simp only [e5_has (v0 := 13) h13, bd_v, A, if_true]) (fun τ hτ => by
      rw [e11_isOrder (n := no) (by rw [row374 hτ, g40]) (by omega), bd_v, if_pos A])
  obtain ⟨o, ho, rfl⟩ := ib_of (by omega) A
  by_cases B : iw a2 0 5 = 0
  · exact two_find (-100001) hI (by simp only [e5_has (v0 := 13) h13, bd_v, if_neg A, B, if_true]) (fun τ hτ => by
      rw [e11_isOrder (n := no) (by rw [row374 hτ, g40]) (by omega), bd_v, if_neg A, if_pos B])
  obtain ⟨w, -, hw, rfl⟩ := iw_nat (a := 0) (b := 5) (iw_of B).1 (iw_of B).2 (by decide) (by decide)
  obtain ⟨⟨c1, c2, c3⟩, c4, c5⟩ := hL.2.2.2.2.1 o (by omega)
  have hR : fX11_order 373 (nI o) (nI w) σ = some (if w = 5 then hto (fun t => σ 374 (101 + 5 * o + t)) 5 else σ 374 (41 + 5 * o + w), σ) := by
    unfold fX11_order
    rw [e11_isOrder g40 (by omega), bd_v, if_neg A, e11_in, bd_v, if_neg B]
    by_cases x : w = 5
    · subst x
      rw [if_pos (show (5 : Int32) ≤ nI 5 from by decide), if_pos rfl]
      exact e11_hto σ o (by omega) (fun t ht => m1_lt (hW.2.2.2.2.2.2.1 o t ho ht)) 5 0 FU (by omega) (by rw [FU_s]; omega)
    · rw [if_neg (show ¬ (5 : Int32) ≤ nI w from nI_ge (a := w) (b := 5) (by omega) (by decide)), if_neg x, ix3 (A := 41) (B := 5) 41 5 o w rfl rfl, rf_373_0, ln_374, gd_in (by omega) (by decide), nI_cl (by omega)]
  have hC : fX5_tell 13 (nI o) (nI w) σ = some (if w = 5 then hto (fun t => σ 374 (101 + 5 * o + t)) 5 else σ 374 (41 + 5 * o + w), σ) := by
    unfold fX5_tell
    match w, hw with
    | 0, _ => simp (disch := omega) only [rf_13_1, ln_14, gd_in, nI_cl]; exact congrArg (fun z => some (z, σ)) (by rw [if_neg (by decide)]; exact c1)
    | 1, _ => simp (disch := omega) only [rf_13_2, ln_15, gd_in, nI_cl]; exact congrArg (fun z => some (z, σ)) (by rw [if_neg (by decide), show 41 + 5 * o + 1 = 42 + 5 * o by omega]; exact c2)
    | 2, _ => simp (disch := omega) only [rf_13_3, ln_16, gd_in, nI_cl]; exact congrArg (fun z => some (z, σ)) (by rw [if_neg (by decide), show 41 + 5 * o + 2 = 43 + 5 * o by omega]; exact c3)
    | 3, _ => simp (disch := omega) only [rf_13_4, ln_17, gd_in, nI_cl]; exact congrArg (fun z => some (z, σ)) (by rw [if_neg (by decide), show 41 + 5 * o + 3 = 44 + 5 * o by omega]; exact c4)
    | 4, _ => simp (disch := omega) only [rf_13_5, ln_18, gd_in, nI_cl]; exact congrArg (fun z => some (z, σ)) (by rw [if_neg (by decide), show 41 + 5 * o + 4 = 45 + 5 * o by omega]; exact c5)
    | 5, _ =>
      have h := e5_hto σ o (by omega) 5 0 FU (by omega) (by rw [FU_s]; omega)
      have h2 : fX5_handedTo 13 (nI o) σ = some (hto (fun t => σ 19 (5 * o + t)) 5, σ) := h
      rw [h2, bd_v, if_pos rfl, hto_congr 5 (fun t ht => hL.2.2.2.2.2.1 o t (by omega) ht (by rw [g40]; exact nI_lt ho (by omega)))]
      rfl
    | w + 6, h => omega
  refine two_read (if w = 5 then hto (fun t => σ 374 (101 + 5 * o + t)) 5 else σ 374 (41 + 5 * o + w)) hI ?_ ?_
  · simp only [e5_has (v0 := 13) h13, bd_v, if_neg A, if_neg B]
    rw [hC, bd_v]
  · have := hR
    unfold fX11_order at this
    simp only [e11_finds, bd_v, e11_in] at this
    exact this
