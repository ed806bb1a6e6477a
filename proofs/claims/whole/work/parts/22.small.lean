/-! PURE: small methods of the class; loops that only read -/
theorem gd_in {β : Type} {k n : Nat} {F : Option β} (h : k < n) (hn : n < 2147483648) : gd (inR (nI k) n) F = F := gd_t (q := inR (nI k) n) (vp_in_nI h hn) F
theorem gd_zo0 {β : Type} {F : Option β} : gd ((0 : Int32) = 0 ∨ (0 : Int32) = 1) F = F := gd_t zo0 F
theorem gd_zo1 {β : Type} {F : Option β} : gd ((1 : Int32) = 0 ∨ (1 : Int32) = 1) F = F := gd_t zo1 F
theorem gd_oT {β : Type} {p : Prop} [Decidable p] {F : Option β} : gd (p ∨ True) F = F := gd_t (Or.inr trivial) F
theorem gd_To {β : Type} {p : Prop} [Decidable p] {F : Option β} : gd (True ∨ p) F = F := gd_t (Or.inl trivial) F
theorem nI_cl {n : Nat} (h : n < 2147483648) : (nI n).toNatClampNeg = n := nI_clamp h
theorem FU_s : FU = 999 + 1 := rfl
/-- the way of train t of the class's own line -/
def cw (σ : Sg) (t : Nat) : Int32 := if σ 10 t ≤ σ 9 t then 1 else 0
theorem cw_zo (σ : Sg) (t : Nat) : cw σ t = 0 ∨ cw σ t = 1 := by unfold cw; split; exact Or.inr rfl; exact Or.inl rfl
theorem e9_wayOf (σ : Sg) (t : Nat) (ht : t < 5) : fX9_wayOf 7 (nI t) σ = some (cw σ t, σ) := by
  unfold fX9_wayOf cw
  simp (disch := omega) only [gd_in, gd_zo0, gd_zo1, gd_oT, gd_To, nI_cl, lt_v, bd_v, rf_0_0, rf_0_1, rf_0_2, rf_0_3, rf_0_4, rf_1_0, rf_1_1, rf_1_2, rf_2_0, rf_2_1, rf_2_3, rf_2_4, rf_2_5, rf_2_6, rf_2_7, rf_2_8, rf_2_9, rf_2_10, rf_2_11, rf_2_12, rf_3_0, rf_3_1, rf_3_2, rf_3_4, rf_3_5, rf_4_1, rf_4_2, ln_5, ln_6, rf_7_1, rf_7_2, rf_7_3, rf_7_4, rf_7_5, ln_8, ln_9, ln_10, ln_11, ln_12, rf_13_1, rf_13_2, rf_13_3, rf_13_4, rf_13_5, rf_13_6, ln_14, ln_15, ln_16, ln_17, ln_18, ln_19, ln_20, ln_21, rf_22_1, rf_22_2, rf_22_3, rf_22_4, ln_23, ln_24, ln_25, ln_26, rf_27_0, rf_27_1, rf_27_2, rf_27_3, rf_27_4, ln_27, ln_28, ln_29, ln_30, ln_31, ln_32, ln_33, ln_34, ln_35, ln_36, rf_37_5, rf_37_6, rf_37_7, ln_38, ln_39, ln_40, rf_41_5, rf_41_6, rf_41_7, ln_42, ln_43, ln_44, rf_45_5, rf_45_6, rf_45_7, ln_46, ln_47, ln_48, rf_49_5, rf_49_6, rf_49_7, ln_50, ln_51, ln_52, rf_53_5, rf_53_6, rf_53_7, ln_54, ln_55, ln_56, ln_57, rf_58_0, ln_59, rf_373_0, rf_373_1, rf_373_5, rf_373_6, rf_373_7, rf_373_8, rf_373_10, rf_373_11, rf_373_12, rf_373_13, rf_373_14, rf_373_15, rf_373_16, rf_373_17, rf_373_18, rf_373_19, rf_373_20, rf_373_21, rf_373_22, rf_373_23, rf_373_24, rf_373_35, rf_373_36, rf_373_37, rf_373_38, ln_374, ln_375, ln_376, ln_377, ln_378, ln_379, ln_380, ln_381, ln_382, ln_383, ln_384, ln_385, ln_386, ln_387, ln_388, ln_389, ln_390, ln_391, ln_392, ln_393, ln_394, ln_395, ln_396, ln_397, ln_398]
  split <;> rfl
theorem e9_areContrary (σ : Sg) (t o : Nat) (ht : t < 5) (ho : o < 5) : fX9_areContrary 7 (nI t) (nI o) σ = some (if cw σ t = cw σ o then 0 else 1, σ) := by
  unfold fX9_areContrary
  rw [e9_wayOf σ t ht, bd_v, e9_wayOf σ o ho, bd_v]
  split <;> rfl
theorem e9_isTimetabled (σ : Sg) (t : Nat) (ht : t < 5) : fX9_isTimetabled 7 (nI t) σ = some (if σ 8 t = 1 ∨ σ 8 t = 2 then 1 else 0, σ) := by
  unfold fX9_isTimetabled
  simp (disch := omega) only [gd_in, gd_zo0, gd_zo1, gd_oT, gd_To, nI_cl, lt_v, bd_v, rf_0_0, rf_0_1, rf_0_2, rf_0_3, rf_0_4, rf_1_0, rf_1_1, rf_1_2, rf_2_0, rf_2_1, rf_2_3, rf_2_4, rf_2_5, rf_2_6, rf_2_7, rf_2_8, rf_2_9, rf_2_10, rf_2_11, rf_2_12, rf_3_0, rf_3_1, rf_3_2, rf_3_4, rf_3_5, rf_4_1, rf_4_2, ln_5, ln_6, rf_7_1, rf_7_2, rf_7_3, rf_7_4, rf_7_5, ln_8, ln_9, ln_10, ln_11, ln_12, rf_13_1, rf_13_2, rf_13_3, rf_13_4, rf_13_5, rf_13_6, ln_14, ln_15, ln_16, ln_17, ln_18, ln_19, ln_20, ln_21, rf_22_1, rf_22_2, rf_22_3, rf_22_4, ln_23, ln_24, ln_25, ln_26, rf_27_0, rf_27_1, rf_27_2, rf_27_3, rf_27_4, ln_27, ln_28, ln_29, ln_30, ln_31, ln_32, ln_33, ln_34, ln_35, ln_36, rf_37_5, rf_37_6, rf_37_7, ln_38, ln_39, ln_40, rf_41_5, rf_41_6, rf_41_7, ln_42, ln_43, ln_44, rf_45_5, rf_45_6, rf_45_7, ln_46, ln_47, ln_48, rf_49_5, rf_49_6, rf_49_7, ln_50, ln_51, ln_52, rf_53_5, rf_53_6, rf_53_7, ln_54, ln_55, ln_56, ln_57, rf_58_0, ln_59, rf_373_0, rf_373_1, rf_373_5, rf_373_6, rf_373_7, rf_373_8, rf_373_10, rf_373_11, rf_373_12, rf_373_13, rf_373_14, rf_373_15, rf_373_16, rf_373_17, rf_373_18, rf_373_19, rf_373_20, rf_373_21, rf_373_22, rf_373_23, rf_373_24, rf_373_35, rf_373_36, rf_373_37, rf_373_38, ln_374, ln_375, ln_376, ln_377, ln_378, ln_379, ln_380, ln_381, ln_382, ln_383, ln_384, ln_385, ln_386, ln_387, ln_388, ln_389, ln_390, ln_391, ln_392, ln_393, ln_394, ln_395, ln_396, ln_397, ln_398]
  by_cases a : σ 8 t = 1
  · rw [if_pos a, if_pos (Or.inl a)]
  · rw [if_neg a]
    by_cases b : σ 8 t = 2
    · rw [if_pos b, if_pos (Or.inr b)]
    · rw [if_neg b, if_neg (fun h => h.elim a b)]
theorem e9_strength (σ : Sg) (t k : Nat) (w : Int32) (ht : t < 5) (hk : k < 4) (h : σ 8 t = nI k) : fX9_strength 7 (nI t) w σ = some (2 * rnk k + (if w = 0 then 1 else 0), σ) := by
  unfold fX9_strength
  simp (disch := omega) only [gd_in, gd_zo0, gd_zo1, gd_oT, gd_To, nI_cl, lt_v, bd_v, rf_0_0, rf_0_1, rf_0_2, rf_0_3, rf_0_4, rf_1_0, rf_1_1, rf_1_2, rf_2_0, rf_2_1, rf_2_3, rf_2_4, rf_2_5, rf_2_6, rf_2_7, rf_2_8, rf_2_9, rf_2_10, rf_2_11, rf_2_12, rf_3_0, rf_3_1, rf_3_2, rf_3_4, rf_3_5, rf_4_1, rf_4_2, ln_5, ln_6, rf_7_1, rf_7_2, rf_7_3, rf_7_4, rf_7_5, ln_8, ln_9, ln_10, ln_11, ln_12, rf_13_1, rf_13_2, rf_13_3, rf_13_4, rf_13_5, rf_13_6, ln_14, ln_15, ln_16, ln_17, ln_18, ln_19, ln_20, ln_21, rf_22_1, rf_22_2, rf_22_3, rf_22_4, ln_23, ln_24, ln_25, ln_26, rf_27_0, rf_27_1, rf_27_2, rf_27_3, rf_27_4, ln_27, ln_28, ln_29, ln_30, ln_31, ln_32, ln_33, ln_34, ln_35, ln_36, rf_37_5, rf_37_6, rf_37_7, ln_38, ln_39, ln_40, rf_41_5, rf_41_6, rf_41_7, ln_42, ln_43, ln_44, rf_45_5, rf_45_6, rf_45_7, ln_46, ln_47, ln_48, rf_49_5, rf_49_6, rf_49_7, ln_50, ln_51, ln_52, rf_53_5, rf_53_6, rf_53_7, ln_54, ln_55, ln_56, ln_57, rf_58_0, ln_59, rf_373_0, rf_373_1, rf_373_5, rf_373_6, rf_373_7, rf_373_8, rf_373_10, rf_373_11, rf_373_12, rf_373_13, rf_373_14, rf_373_15, rf_373_16, rf_373_17, rf_373_18, rf_373_19, rf_373_20, rf_373_21, rf_373_22, rf_373_23, rf_373_24, rf_373_35, rf_373_36, rf_373_37, rf_373_38, ln_374, ln_375, ln_376, ln_377, ln_378, ln_379, ln_380, ln_381, ln_382, ln_383, ln_384, ln_385, ln_386, ln_387, ln_388, ln_389, ln_390, ln_391, ln_392, ln_393, ln_394, ln_395, ln_396, ln_397, ln_398, h]
  split <;> rfl
theorem e8_areMinutes (v : Int32) (σ : Sg) : fX8_areMinutes v σ = some (iw v 1 30, σ) := by
  unfold fX8_areMinutes iw
  split
  · rfl
  · split <;> rfl
/-- a section is there -/
theorem e8_hasSection {n : Nat} {σ : Sg} (h : σ 4 0 = nI (n + 1)) (v : Int32) : fX8_hasSection 4 v σ = some (ib v n, σ) := by
  unfold fX8_hasSection ib
  rw [h, nI_pred]
  split
  · rfl
  · split <;> rfl
/-- sums -/
theorem e8_mb (σ : Sg) (a b : Nat) (hb : b ≤ 6) : ∀ d j fu, a + j + d = b → d < fu → lq2 (fX8_minutesBetween_26 4 (nI b)) fu (sl (σ 6) a j) (nI (a + j)) σ = some (sl (σ 6) a (j + d), σ) := by
  intro d
  induction d with
  | zero =>
    intro j fu h hf
    obtain ⟨fu, rfl⟩ : ∃ k, fu = k + 1 := ⟨fu - 1, by omega⟩
    show fX8_minutesBetween_26 4 (nI b) _ _ _ _ = _
    unfold fX8_minutesBetween_26
    rw [if_pos (nI_le (by omega) (by omega))]
    rfl
  | succ d ih =>
    intro j fu h hf
    obtain ⟨fu, rfl⟩ : ∃ k, fu = k + 1 := ⟨fu - 1, by omega⟩
    show fX8_minutesBetween_26 4 (nI b) _ _ _ _ = _
    unfold fX8_minutesBetween_26
    rw [if_neg (nI_ge (by omega) (by omega))]
    simp (disch := omega) only [gd_in, gd_zo0, gd_zo1, gd_oT, gd_To, nI_cl, lt_v, bd_v, rf_0_0, rf_0_1, rf_0_2, rf_0_3, rf_0_4, rf_1_0, rf_1_1, rf_1_2, rf_2_0, rf_2_1, rf_2_3, rf_2_4, rf_2_5, rf_2_6, rf_2_7, rf_2_8, rf_2_9, rf_2_10, rf_2_11, rf_2_12, rf_3_0, rf_3_1, rf_3_2, rf_3_4, rf_3_5, rf_4_1, rf_4_2, ln_5, ln_6, rf_7_1, rf_7_2, rf_7_3, rf_7_4, rf_7_5, ln_8, ln_9, ln_10, ln_11, ln_12, rf_13_1, rf_13_2, rf_13_3, rf_13_4, rf_13_5, rf_13_6, ln_14, ln_15, ln_16, ln_17, ln_18, ln_19, ln_20, ln_21, rf_22_1, rf_22_2, rf_22_3, rf_22_4, ln_23, ln_24, ln_25, ln_26, rf_27_0, rf_27_1, rf_27_2, rf_27_3, rf_27_4, ln_27, ln_28, ln_29, ln_30, ln_31, ln_32, ln_33, ln_34, ln_35, ln_36, rf_37_5, rf_37_6, rf_37_7, ln_38, ln_39, ln_40, rf_41_5, rf_41_6, rf_41_7, ln_42, ln_43, ln_44, rf_45_5, rf_45_6, rf_45_7, ln_46, ln_47, ln_48, rf_49_5, rf_49_6, rf_49_7, ln_50, ln_51, ln_52, rf_53_5, rf_53_6, rf_53_7, ln_54, ln_55, ln_56, ln_57, rf_58_0, ln_59, rf_373_0, rf_373_1, rf_373_5, rf_373_6, rf_373_7, rf_373_8, rf_373_10, rf_373_11, rf_373_12, rf_373_13, rf_373_14, rf_373_15, rf_373_16, rf_373_17, rf_373_18, rf_373_19, rf_373_20, rf_373_21, rf_373_22, rf_373_23, rf_373_24, rf_373_35, rf_373_36, rf_373_37, rf_373_38, ln_374, ln_375, ln_376, ln_377, ln_378, ln_379, ln_380, ln_381, ln_382, ln_383, ln_384, ln_385, ln_386, ln_387, ln_388, ln_389, ln_390, ln_391, ln_392, ln_393, ln_394, ln_395, ln_396, ln_397, ln_398]
    rw [nI_1, show σ 6 (a + j) = σ 6 (a + j) from rfl, show sl (σ 6) a j + σ 6 (a + j) = sl (σ 6) a (j + 1) from rfl, show j + (d + 1) = j + 1 + d by omega]
    exact ih (j + 1) fu (by omega) (by omega)
def cb (f : Nat → Int32) (a b : Nat) : Int32 := if b ≤ a then sl f b (a - b) else sl f a (b - a)
theorem e8_minutesBetween (σ : Sg) (a b : Nat) (ha : a ≤ 6) (hb : b ≤ 6) : fX8_minutesBetween 4 (nI a) (nI b) σ = some (cb (σ 6) a b, σ) := by
  unfold fX8_minutesBetween fX8_minutesBetween_10 fX8_minutesBetween_24 cb
  simp only [lt_v]
  by_cases h : b ≤ a
  · have h1 : nI b ≤ nI a := nI_le h (by omega)
    rw [if_pos h1, if_pos h1, if_pos h]
    have := e8_mb σ b a ha (a - b) 0 FU (by omega) (by rw [FU_s]; omega)
    rwa [Nat.zero_add] at this
  · have h1 : ¬ nI b ≤ nI a := nI_ge (by omega) (by omega)
    rw [if_neg h1, if_neg h1, if_neg h]
    have := e8_mb σ a b hb (b - a) 0 FU (by omega) (by rw [FU_s]; omega)
    rwa [Nat.zero_add] at this
theorem e11_bt (σ : Sg) (a b : Nat) (ha : a ≤ 6) (hb : b ≤ 6) (lo hi : Nat) (hlo : lo = if b ≤ a then b else a) (hhi : hi = if b ≤ a then a else b) : ∀ d j fu, lo + j + d = hi → d < fu → lq2 (fX11_between_14 373 (nI a) (nI b)) fu (sl (fun k => σ 374 (8 + k)) lo j) (nI (lo + j)) σ = some (sl (fun k => σ 374 (8 + k)) lo (j + d), σ) := by
  have hh : hi ≤ 6 := by rw [hhi]; split <;> omega
  intro d
  induction d with
  | zero =>
    intro j fu h hf
    obtain ⟨fu, rfl⟩ : ∃ k, fu = k + 1 := ⟨fu - 1, by omega⟩
    show fX11_between_14 373 (nI a) (nI b) _ _ _ _ = _
    unfold fX11_between_14 fX11_between_26
    by_cases q : b ≤ a
    · rw [if_pos (nI_le q (by omega)), if_pos (nI_le (by rw [if_pos q] at hhi; omega) (by omega))]
      rfl
    · rw [if_neg (nI_ge (by omega) (by omega)), if_pos (nI_le (by rw [if_neg q] at hhi; omega) (by omega))]
      rfl
  | succ d ih =>
    intro j fu h hf
    obtain ⟨fu, rfl⟩ : ∃ k, fu = k + 1 := ⟨fu - 1, by omega⟩
    show fX11_between_14 373 (nI a) (nI b) _ _ _ _ = _
    unfold fX11_between_14 fX11_between_26
    have e : (8 : Int32) + nI (lo + j) = nI (8 + (lo + j)) := nI_add 8 (lo + j)
    by_cases q : b ≤ a
    · rw [if_pos (nI_le q (by omega)), if_neg (nI_ge (by rw [if_pos q] at hhi; omega) (by omega)), e]
      simp (disch := omega) only [gd_in, gd_zo0, gd_zo1, gd_oT, gd_To, nI_cl, lt_v, bd_v, rf_0_0, rf_0_1, rf_0_2, rf_0_3, rf_0_4, rf_1_0, rf_1_1, rf_1_2, rf_2_0, rf_2_1, rf_2_3, rf_2_4, rf_2_5, rf_2_6, rf_2_7, rf_2_8, rf_2_9, rf_2_10, rf_2_11, rf_2_12, rf_3_0, rf_3_1, rf_3_2, rf_3_4, rf_3_5, rf_4_1, rf_4_2, ln_5, ln_6, rf_7_1, rf_7_2, rf_7_3, rf_7_4, rf_7_5, ln_8, ln_9, ln_10, ln_11, ln_12, rf_13_1, rf_13_2, rf_13_3, rf_13_4, rf_13_5, rf_13_6, ln_14, ln_15, ln_16, ln_17, ln_18, ln_19, ln_20, ln_21, rf_22_1, rf_22_2, rf_22_3, rf_22_4, ln_23, ln_24, ln_25, ln_26, rf_27_0, rf_27_1, rf_27_2, rf_27_3, rf_27_4, ln_27, ln_28, ln_29, ln_30, ln_31, ln_32, ln_33, ln_34, ln_35, ln_36, rf_37_5, rf_37_6, rf_37_7, ln_38, ln_39, ln_40, rf_41_5, rf_41_6, rf_41_7, ln_42, ln_43, ln_44, rf_45_5, rf_45_6, rf_45_7, ln_46, ln_47, ln_48, rf_49_5, rf_49_6, rf_49_7, ln_50, ln_51, ln_52, rf_53_5, rf_53_6, rf_53_7, ln_54, ln_55, ln_56, ln_57, rf_58_0, ln_59, rf_373_0, rf_373_1, rf_373_5, rf_373_6, rf_373_7, rf_373_8, rf_373_10, rf_373_11, rf_373_12, rf_373_13, rf_373_14, rf_373_15, rf_373_16, rf_373_17, rf_373_18, rf_373_19, rf_373_20, rf_373_21, rf_373_22, rf_373_23, rf_373_24, rf_373_35, rf_373_36, rf_373_37, rf_373_38, ln_374, ln_375, ln_376, ln_377, ln_378, ln_379, ln_380, ln_381, ln_382, ln_383, ln_384, ln_385, ln_386, ln_387, ln_388, ln_389, ln_390, ln_391, ln_392, ln_393, ln_394, ln_395, ln_396, ln_397, ln_398]
      rw [nI_1, show sl (fun k => σ 374 (8 + k)) lo j + σ 374 (8 + (lo + j)) = sl (fun k => σ 374 (8 + k)) lo (j + 1) from rfl, show j + (d + 1) = j + 1 + d by omega]
      exact ih (j + 1) fu (by omega) (by omega)
    · rw [if_neg (nI_ge (by omega) (by omega)), if_neg (nI_ge (by rw [if_neg q] at hhi; omega) (by omega)), e]
      simp (disch := omega) only [gd_in, gd_zo0, gd_zo1, gd_oT, gd_To, nI_cl, lt_v, bd_v, rf_0_0, rf_0_1, rf_0_2, rf_0_3, rf_0_4, rf_1_0, rf_1_1, rf_1_2, rf_2_0, rf_2_1, rf_2_3, rf_2_4, rf_2_5, rf_2_6, rf_2_7, rf_2_8, rf_2_9, rf_2_10, rf_2_11, rf_2_12, rf_3_0, rf_3_1, rf_3_2, rf_3_4, rf_3_5, rf_4_1, rf_4_2, ln_5, ln_6, rf_7_1, rf_7_2, rf_7_3, rf_7_4, rf_7_5, ln_8, ln_9, ln_10, ln_11, ln_12, rf_13_1, rf_13_2, rf_13_3, rf_13_4, rf_13_5, rf_13_6, ln_14, ln_15, ln_16, ln_17, ln_18, ln_19, ln_20, ln_21, rf_22_1, rf_22_2, rf_22_3, rf_22_4, ln_23, ln_24, ln_25, ln_26, rf_27_0, rf_27_1, rf_27_2, rf_27_3, rf_27_4, ln_27, ln_28, ln_29, ln_30, ln_31, ln_32, ln_33, ln_34, ln_35, ln_36, rf_37_5, rf_37_6, rf_37_7, ln_38, ln_39, ln_40, rf_41_5, rf_41_6, rf_41_7, ln_42, ln_43, ln_44, rf_45_5, rf_45_6, rf_45_7, ln_46, ln_47, ln_48, rf_49_5, rf_49_6, rf_49_7, ln_50, ln_51, ln_52, rf_53_5, rf_53_6, rf_53_7, ln_54, ln_55, ln_56, ln_57, rf_58_0, ln_59, rf_373_0, rf_373_1, rf_373_5, rf_373_6, rf_373_7, rf_373_8, rf_373_10, rf_373_11, rf_373_12, rf_373_13, rf_373_14, rf_373_15, rf_373_16, rf_373_17, rf_373_18, rf_373_19, rf_373_20, rf_373_21, rf_373_22, rf_373_23, rf_373_24, rf_373_35, rf_373_36, rf_373_37, rf_373_38, ln_374, ln_375, ln_376, ln_377, ln_378, ln_379, ln_380, ln_381, ln_382, ln_383, ln_384, ln_385, ln_386, ln_387, ln_388, ln_389, ln_390, ln_391, ln_392, ln_393, ln_394, ln_395, ln_396, ln_397, ln_398]
      rw [nI_1, show sl (fun k => σ 374 (8 + k)) lo j + σ 374 (8 + (lo + j)) = sl (fun k => σ 374 (8 + k)) lo (j + 1) from rfl, show j + (d + 1) = j + 1 + d by omega]
      exact ih (j + 1) fu (by omega) (by omega)
theorem e11_between (σ : Sg) (a b : Nat) (ha : a ≤ 6) (hb : b ≤ 6) : fX11_between 373 (nI a) (nI b) σ = some (cb (fun k => σ 374 (8 + k)) a b, σ) := by
  unfold fX11_between fX11_between_12 cb
  simp only [lt_v]
  by_cases h : b ≤ a
  · rw [if_pos (nI_le h (by omega)), if_pos h]
    have := e11_bt σ a b ha hb b a (by rw [if_pos h]) (by rw [if_pos h]) (a - b) 0 FU (by omega) (by rw [FU_s]; omega)
    rwa [Nat.zero_add] at this
  · rw [if_neg (nI_ge (by omega) (by omega)), if_neg h]
    have := e11_bt σ a b ha hb a b (by rw [if_neg h]) (by rw [if_neg h]) (b - a) 0 FU (by omega) (by rw [FU_s]; omega)
    rwa [Nat.zero_add] at this
theorem sl_congr {f g : Nat → Int32} {a : Nat} : ∀ d, (∀ k, a ≤ k → k < a + d → f k = g k) → sl f a d = sl g a d := by
  intro d
  induction d with
  | zero => intro _; rfl
  | succ d ih =>
    intro h
    show sl f a d + f (a + d) = sl g a d + g (a + d)
    rw [ih (fun k h1 h2 => h k h1 (by omega)), h (a + d) (by omega) (by omega)]
theorem cb_congr {f g : Nat → Int32} {a b : Nat} (ha : a ≤ 6) (hb : b ≤ 6) (h : ∀ k, k < 6 → f k = g k) : cb f a b = cb g a b := by
  unfold cb
  split
  · exact sl_congr _ (fun k h1 h2 => h k (by omega))
  · exact sl_congr _ (fun k h1 h2 => h k (by omega))
