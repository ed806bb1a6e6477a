/-! PURE: the small methods -/
/-- 1 if s is one of 0 .. n - 1, else 0 -/
def ib (s : Int32) (n : Nat) : Int32 := if s < 0 then 0 else if nI n ≤ s then 0 else 1
def iw (v a b : Int32) : Int32 := if v < a then 0 else if b < v then 0 else 1
theorem ib_zo (s : Int32) (n : Nat) : ib s n = 0 ∨ ib s n = 1 := by unfold ib; split; exact Or.inl rfl; split; exact Or.inl rfl; exact Or.inr rfl
theorem iw_zo (v a b : Int32) : iw v a b = 0 ∨ iw v a b = 1 := by unfold iw; split; exact Or.inl rfl; split; exact Or.inl rfl; exact Or.inr rfl
theorem ib_t {k n : Nat} (h : k < n) (hn : n < 2 ^ 31) : ib (nI k) n = 1 := by
  unfold ib
  rw [if_neg (nI_pos (by omega)), if_neg (nI_ge h hn)]
theorem ib_of {s : Int32} {n : Nat} (hn : n < 2 ^ 31) (h : ¬ ib s n = 0) : ∃ k, k < n ∧ s = nI k := by
  rcases pw_in s n hn with h1 | h1 | ⟨h1, h2⟩
  · exact h1
  · exact absurd (by unfold ib; rw [if_pos h1]) h
  · exact absurd (by unfold ib; rw [if_neg h1, if_pos h2]) h
theorem iw_of {v a b : Int32} (h : ¬ iw v a b = 0) : ¬ v < a ∧ ¬ b < v := by
  unfold iw at h
  by_cases h1 : v < a
  · exact absurd (by rw [if_pos h1]) h
  · by_cases h2 : b < v
    · exact absurd (by rw [if_neg h1, if_pos h2]) h
    · exact ⟨h1, h2⟩
/-- a number between two numbers is a natural one -/
theorem iw_nat {v : Int32} {a b : Nat} (h1 : ¬ v < nI a) (h2 : ¬ nI b < v) (hb : b + 1 < 2 ^ 31) (ha : a < 2 ^ 31) : ∃ k, a ≤ k ∧ k ≤ b ∧ v = nI k := by
  rcases pw_in v (b + 1) (by omega) with ⟨k, hk, rfl⟩ | h | ⟨h, h3⟩
  · refine ⟨k, ?_, by omega, rfl⟩
    rcases Nat.lt_or_ge k a with q | q
    · exact absurd (nI_lt q ha) h1
    · exact q
  · exact absurd (Int32.lt_of_lt_of_le h (nI_pos' ha)) h1
  · exfalso
    apply h2
    obtain ⟨k, hk, rfl⟩ := nI_of h
    have h4 : b + 1 ≤ k := by
      rcases Nat.lt_or_ge k (b + 1) with q | q
      · exact absurd h3 (nI_ge q (by omega))
      · exact q
    exact nI_lt (by omega) hk
theorem e10_isWithin (v a b : Int32) (σ : Sg) : fX10_isWithin v a b σ = some (iw v a b, σ) := by
  unfold fX10_isWithin iw
  split
  · rfl
  · split <;> rfl
theorem e11_in (v a b : Int32) (σ : Sg) : fX11_in v a b σ = some (iw v a b, σ) := by
  unfold fX11_in iw
  split
  · rfl
  · split <;> rfl
theorem e11_finds (v : Int32) (σ : Sg) : fX11_finds 373 v σ = some (v, wr σ 373 4 (σ 373 4 + 1)) := rfl
theorem e10_finding (v : Int32) (σ : Sg) : fX10_finding 0 v σ = some (v, wr σ 0 5 (σ 0 5 + 1)) := rfl
theorem e10_isSheet (v : Int32) (σ : Sg) : fX10_isSheet v σ = some (iw v 0 3, σ) := by
  unfold fX10_isSheet
  rw [e10_isWithin, bd_v, gd_t (iw_zo _ _ _)]
theorem e11_isSheet (v : Int32) (σ : Sg) : fX11_isSheet v σ = some (iw v 0 3, σ) := by
  unfold fX11_isSheet
  rw [e11_in, bd_v, gd_t (iw_zo _ _ _)]
theorem e11_isMinute (v : Int32) (σ : Sg) : fX11_isMinute v σ = some (iw v 0 500, σ) := by
  unfold fX11_isMinute
  rw [e11_in, bd_v, gd_t (iw_zo _ _ _)]
theorem iw_ib {s : Int32} {n : Nat} (h0 : 0 < n) (hn : n < 2 ^ 31) : iw s 0 (nI n - 1) = ib s n := by
  unfold iw ib
  by_cases a : s < 0
  · rw [if_pos a, if_pos a]
  · rw [if_neg a, if_neg a]
    by_cases b : nI n ≤ s
    · rw [if_pos b, if_pos (pred_lt b a h0 hn)]
    · rw [if_neg b]
      rcases pw_in s n hn with ⟨k, hk, rfl⟩ | q | ⟨-, q⟩
      · rw [if_neg (not_pred_lt hk hn)]
      · exact absurd q a
      · exact absurd q b
theorem iw_ib0 {s : Int32} : iw s 0 (nI 0 - 1) = ib s 0 := by
  unfold iw ib
  by_cases a : s < 0
  · rw [if_pos a, if_pos a]
  · rw [if_neg a, if_neg a]
    obtain ⟨k, hk, rfl⟩ := nI_of a
    rw [if_pos (nI_le (Nat.zero_le k) hk), if_pos]
    rw [Int32.lt_iff_toInt_lt, nI_toInt hk]
    have : (nI 0 - 1).toInt = -1 := by decide
    omega
theorem iw_ib' {s : Int32} {n : Nat} (hn : n < 2 ^ 31) : iw s 0 (nI n - 1) = ib s n := by
  rcases Nat.eq_zero_or_pos n with rfl | h
  · exact iw_ib0
  · exact iw_ib h hn
theorem e11_isStation {n : Nat} {σ : Sg} (h : σ 374 0 = nI n) (hn : n < 2 ^ 31) (s : Int32) : fX11_isStation 373 s σ = some (ib s n, σ) := by
  unfold fX11_isStation
  rw [rf_373_0, ln_374, gd_t (by decide), show ((0 : Int32)).toNatClampNeg = 0 from by decide, h, e11_in, iw_ib' hn, bd_v, gd_t (ib_zo _ _)]
theorem e11_isTrain {n : Nat} {σ : Sg} (h : σ 374 14 = nI n) (hn : n < 2 ^ 31) (s : Int32) : fX11_isTrain 373 s σ = some (ib s n, σ) := by
  unfold fX11_isTrain
  rw [rf_373_0, ln_374, gd_t (by decide), show ((14 : Int32)).toNatClampNeg = 14 from by decide, h, e11_in, iw_ib' hn, bd_v, gd_t (ib_zo _ _)]
theorem e11_isOrder {n : Nat} {σ : Sg} (h : σ 374 40 = nI n) (hn : n < 2 ^ 31) (s : Int32) : fX11_isOrder 373 s σ = some (ib s n, σ) := by
  unfold fX11_isOrder
  rw [rf_373_0, ln_374, gd_t (by decide), show ((40 : Int32)).toNatClampNeg = 40 from by decide, h, e11_in, iw_ib' hn, bd_v, gd_t (ib_zo _ _)]
theorem e8_hasStation {v0 n : Nat} {σ : Sg} (h : σ v0 0 = nI n) (s : Int32) : fX8_hasStation v0 s σ = some (ib s n, σ) := by
  unfold fX8_hasStation ib
  rw [h]
  split
  · rfl
  · split <;> rfl
theorem e9_has {v0 n : Nat} {σ : Sg} (h : σ v0 0 = nI n) (s : Int32) : fX9_has v0 s σ = some (ib s n, σ) := by
  unfold fX9_has ib
  rw [h]
  split
  · rfl
  · split <;> rfl
theorem e5_has {v0 n : Nat} {σ : Sg} (h : σ v0 0 = nI n) (s : Int32) : fX5_has v0 s σ = some (ib s n, σ) := by
  unfold fX5_has ib
  rw [h]
  split
  · rfl
  · split <;> rfl
theorem e11_kindOf (σ : Sg) : ∀ t, t < 5 → fX11_kindOf 373 (nI t) σ = some (σ 374 (15 + 5 * t), σ)
  | 0, _ => rfl
  | 1, _ => rfl
  | 2, _ => rfl
  | 3, _ => rfl
  | 4, _ => rfl
  | t + 5, h => by omega
theorem e11_fromOf (σ : Sg) : ∀ t, t < 5 → fX11_fromOf 373 (nI t) σ = some (σ 374 (16 + 5 * t), σ)
  | 0, _ => rfl
  | 1, _ => rfl
  | 2, _ => rfl
  | 3, _ => rfl
  | 4, _ => rfl
  | t + 5, h => by omega
theorem e11_toOf (σ : Sg) : ∀ t, t < 5 → fX11_toOf 373 (nI t) σ = some (σ 374 (17 + 5 * t), σ)
  | 0, _ => rfl
  | 1, _ => rfl
  | 2, _ => rfl
  | 3, _ => rfl
  | 4, _ => rfl
  | t + 5, h => by omega
theorem e11_timeOf (σ : Sg) : ∀ t, t < 5 → fX11_timeOf 373 (nI t) σ = some (σ 374 (19 + 5 * t), σ)
  | 0, _ => rfl
  | 1, _ => rfl
  | 2, _ => rfl
  | 3, _ => rfl
  | 4, _ => rfl
  | t + 5, h => by omega
theorem e11_formOf (σ : Sg) : ∀ o, o < 12 → fX11_formOf 373 (nI o) σ = some (σ 374 (41 + 5 * o), σ)
  | 0, _ => rfl
  | 1, _ => rfl
  | 2, _ => rfl
  | 3, _ => rfl
  | 4, _ => rfl
  | 5, _ => rfl
  | 6, _ => rfl
  | 7, _ => rfl
  | 8, _ => rfl
  | 9, _ => rfl
  | 10, _ => rfl
  | 11, _ => rfl
  | t + 12, h => by omega
theorem e11_trainOf (σ : Sg) : ∀ o, o < 12 → fX11_trainOf 373 (nI o) σ = some (σ 374 (42 + 5 * o), σ)
  | 0, _ => rfl
  | 1, _ => rfl
  | 2, _ => rfl
  | 3, _ => rfl
  | 4, _ => rfl
  | 5, _ => rfl
  | 6, _ => rfl
  | 7, _ => rfl
  | 8, _ => rfl
  | 9, _ => rfl
  | 10, _ => rfl
  | 11, _ => rfl
  | t + 12, h => by omega
theorem e11_otherOf (σ : Sg) : ∀ o, o < 12 → fX11_otherOf 373 (nI o) σ = some (σ 374 (43 + 5 * o), σ)
  | 0, _ => rfl
  | 1, _ => rfl
  | 2, _ => rfl
  | 3, _ => rfl
  | 4, _ => rfl
  | 5, _ => rfl
  | 6, _ => rfl
  | 7, _ => rfl
  | 8, _ => rfl
  | 9, _ => rfl
  | 10, _ => rfl
  | 11, _ => rfl
  | t + 12, h => by omega
theorem e11_stationOf (σ : Sg) : ∀ o, o < 12 → fX11_stationOf 373 (nI o) σ = some (σ 374 (44 + 5 * o), σ)
  | 0, _ => rfl
  | 1, _ => rfl
  | 2, _ => rfl
  | 3, _ => rfl
  | 4, _ => rfl
  | 5, _ => rfl
  | 6, _ => rfl
  | 7, _ => rfl
  | 8, _ => rfl
  | 9, _ => rfl
  | 10, _ => rfl
  | 11, _ => rfl
  | t + 12, h => by omega
theorem e11_numberOf (σ : Sg) : ∀ o, o < 12 → fX11_numberOf 373 (nI o) σ = some (σ 374 (45 + 5 * o), σ)
  | 0, _ => rfl
  | 1, _ => rfl
  | 2, _ => rfl
  | 3, _ => rfl
  | 4, _ => rfl
  | 5, _ => rfl
  | 6, _ => rfl
  | 7, _ => rfl
  | 8, _ => rfl
  | 9, _ => rfl
  | 10, _ => rfl
  | 11, _ => rfl
  | t + 12, h => by omega
/-- the way of train t of the line g -/
def gw (g : Nat → Int32) (t : Nat) : Int32 := if g (17 + 5 * t) ≤ g (16 + 5 * t) then 1 else 0
theorem gw_zo (g : Nat → Int32) (t : Nat) : gw g t = 0 ∨ gw g t = 1 := by unfold gw; split; exact Or.inr rfl; exact Or.inl rfl
theorem e11_wayOf (σ : Sg) (t : Nat) (ht : t < 5) : fX11_wayOf 373 (nI t) σ = some (gw (σ 374) t, σ) := by
  unfold fX11_wayOf gw
  rw [e11_toOf σ t ht, bd_v, e11_fromOf σ t ht, bd_v]
  split <;> rfl
/-- its rank -/
def gr (g : Nat → Int32) (t : Nat) : Int32 := if g (15 + 5 * t) = 3 then 0 else g (15 + 5 * t)
theorem e11_rankOf (σ : Sg) (t : Nat) (ht : t < 5) : fX11_rankOf 373 (nI t) σ = some (gr (σ 374) t, σ) := by
  unfold fX11_rankOf gr
  rw [e11_kindOf σ t ht, bd_v]
  split
  · rfl
  · rw [e11_kindOf σ t ht, bd_v]
/-- superior -/
def gov (g : Nat → Int32) (t : Nat) (w : Int32) (o : Nat) : Int32 := if gr g o < gr g t then 1 else if gr g t = gr g o then (if w = 0 then 1 else 0) else 0
theorem e11_isOver (σ : Sg) (t o : Nat) (w : Int32) (ht : t < 5) (ho : o < 5) : fX11_isOver 373 (nI t) w (nI o) σ = some (gov (σ 374) t w o, σ) := by
  unfold fX11_isOver gov
  simp only [e11_rankOf σ t ht, e11_rankOf σ o ho, bd_v]
  split
  · rfl
  · split
    · split <;> rfl
    · rfl
/-- minutes of d sections from a on -/
def sl (g : Nat → Int32) (a : Nat) : Nat → Int32
  | 0 => 0
  | d + 1 => sl g a d + g (a + d)
/-- minutes between two stations -/
def gb (g : Nat → Int32) (a b : Nat) : Int32 := if b ≤ a then sl g (8 + b) (a - b) else sl g (8 + a) (b - a)
theorem nI_i1 (i : Nat) : nI i + 1 = nI (i + 1) := nI_1 i
