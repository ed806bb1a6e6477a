/-! PURE: literals of the layout -/
theorem rf_0_0 : rf 0 0 = 1 := by decide +kernel
theorem rf_0_1 : rf 0 1 = 2 := by decide +kernel
theorem rf_0_2 : rf 0 2 = 3 := by decide +kernel
theorem rf_0_3 : rf 0 3 = 58 := by decide +kernel
theorem rf_0_4 : rf 0 4 = 364 := by decide +kernel
theorem rf_1_0 : rf 1 0 = 2 := by decide +kernel
theorem rf_1_1 : rf 1 1 = 3 := by decide +kernel
theorem rf_1_2 : rf 1 2 = 57 := by decide +kernel
theorem rf_2_0 : rf 2 0 = 3 := by decide +kernel
theorem rf_2_1 : rf 2 1 = 22 := by decide +kernel
theorem rf_2_3 : rf 2 3 = 27 := by decide +kernel
theorem rf_2_4 : rf 2 4 = 28 := by decide +kernel
theorem rf_2_5 : rf 2 5 = 29 := by decide +kernel
theorem rf_2_6 : rf 2 6 = 30 := by decide +kernel
theorem rf_2_7 : rf 2 7 = 31 := by decide +kernel
theorem rf_2_8 : rf 2 8 = 32 := by decide +kernel
theorem rf_2_9 : rf 2 9 = 33 := by decide +kernel
theorem rf_2_10 : rf 2 10 = 34 := by decide +kernel
theorem rf_2_11 : rf 2 11 = 35 := by decide +kernel
theorem rf_2_12 : rf 2 12 = 36 := by decide +kernel
theorem rf_3_0 : rf 3 0 = 4 := by decide +kernel
theorem rf_3_1 : rf 3 1 = 7 := by decide +kernel
theorem rf_3_2 : rf 3 2 = 13 := by decide +kernel
theorem rf_3_4 : rf 3 4 = 20 := by decide +kernel
theorem rf_3_5 : rf 3 5 = 21 := by decide +kernel
theorem rf_4_1 : rf 4 1 = 5 := by decide +kernel
theorem rf_4_2 : rf 4 2 = 6 := by decide +kernel
theorem ln_5 : ln 5 = 7 := by decide +kernel
theorem ln_6 : ln 6 = 6 := by decide +kernel
theorem rf_7_1 : rf 7 1 = 8 := by decide +kernel
theorem rf_7_2 : rf 7 2 = 9 := by decide +kernel
theorem rf_7_3 : rf 7 3 = 10 := by decide +kernel
theorem rf_7_4 : rf 7 4 = 11 := by decide +kernel
theorem rf_7_5 : rf 7 5 = 12 := by decide +kernel
theorem ln_8 : ln 8 = 5 := by decide +kernel
theorem ln_9 : ln 9 = 5 := by decide +kernel
theorem ln_10 : ln 10 = 5 := by decide +kernel
theorem ln_11 : ln 11 = 5 := by decide +kernel
theorem ln_12 : ln 12 = 5 := by decide +kernel
theorem rf_13_1 : rf 13 1 = 14 := by decide +kernel
theorem rf_13_2 : rf 13 2 = 15 := by decide +kernel
theorem rf_13_3 : rf 13 3 = 16 := by decide +kernel
theorem rf_13_4 : rf 13 4 = 17 := by decide +kernel
theorem rf_13_5 : rf 13 5 = 18 := by decide +kernel
theorem rf_13_6 : rf 13 6 = 19 := by decide +kernel
theorem ln_14 : ln 14 = 12 := by decide +kernel
theorem ln_15 : ln 15 = 12 := by decide +kernel
theorem ln_16 : ln 16 = 12 := by decide +kernel
theorem ln_17 : ln 17 = 12 := by decide +kernel
theorem ln_18 : ln 18 = 12 := by decide +kernel
theorem ln_19 : ln 19 = 60 := by decide +kernel
theorem ln_20 : ln 20 = 6 := by decide +kernel
theorem ln_21 : ln 21 = 6 := by decide +kernel
theorem rf_22_1 : rf 22 1 = 23 := by decide +kernel
theorem rf_22_2 : rf 22 2 = 24 := by decide +kernel
theorem rf_22_3 : rf 22 3 = 25 := by decide +kernel
theorem rf_22_4 : rf 22 4 = 26 := by decide +kernel
theorem ln_23 : ln 23 = 2505 := by decide +kernel
theorem ln_24 : ln 24 = 2505 := by decide +kernel
theorem ln_25 : ln 25 = 35 := by decide +kernel
theorem ln_26 : ln 26 = 35 := by decide +kernel
theorem rf_27_0 : rf 27 0 = 37 := by decide +kernel
theorem rf_27_1 : rf 27 1 = 41 := by decide +kernel
theorem rf_27_2 : rf 27 2 = 45 := by decide +kernel
theorem rf_27_3 : rf 27 3 = 49 := by decide +kernel
theorem rf_27_4 : rf 27 4 = 53 := by decide +kernel
theorem ln_27 : ln 27 = 5 := by decide +kernel
theorem ln_28 : ln 28 = 35 := by decide +kernel
theorem ln_29 : ln 29 = 5 := by decide +kernel
theorem ln_30 : ln 30 = 5 := by decide +kernel
theorem ln_31 : ln 31 = 5 := by decide +kernel
theorem ln_32 : ln 32 = 5 := by decide +kernel
theorem ln_33 : ln 33 = 5 := by decide +kernel
theorem ln_34 : ln 34 = 5 := by decide +kernel
theorem ln_35 : ln 35 = 14 := by decide +kernel
theorem ln_36 : ln 36 = 14 := by decide +kernel
theorem rf_37_5 : rf 37 5 = 38 := by decide +kernel
theorem rf_37_6 : rf 37 6 = 39 := by decide +kernel
theorem rf_37_7 : rf 37 7 = 40 := by decide +kernel
theorem ln_38 : ln 38 = 5 := by decide +kernel
theorem ln_39 : ln 39 = 7 := by decide +kernel
theorem ln_40 : ln 40 = 7 := by decide +kernel
theorem rf_41_5 : rf 41 5 = 42 := by decide +kernel
theorem rf_41_6 : rf 41 6 = 43 := by decide +kernel
theorem rf_41_7 : rf 41 7 = 44 := by decide +kernel
theorem ln_42 : ln 42 = 5 := by decide +kernel
theorem ln_43 : ln 43 = 7 := by decide +kernel
theorem ln_44 : ln 44 = 7 := by decide +kernel
theorem rf_45_5 : rf 45 5 = 46 := by decide +kernel
theorem rf_45_6 : rf 45 6 = 47 := by decide +kernel
theorem rf_45_7 : rf 45 7 = 48 := by decide +kernel
theorem ln_46 : ln 46 = 5 := by decide +kernel
theorem ln_47 : ln 47 = 7 := by decide +kernel
theorem ln_48 : ln 48 = 7 := by decide +kernel
theorem rf_49_5 : rf 49 5 = 50 := by decide +kernel
theorem rf_49_6 : rf 49 6 = 51 := by decide +kernel
theorem rf_49_7 : rf 49 7 = 52 := by decide +kernel
theorem ln_50 : ln 50 = 5 := by decide +kernel
theorem ln_51 : ln 51 = 7 := by decide +kernel
theorem ln_52 : ln 52 = 7 := by decide +kernel
theorem rf_53_5 : rf 53 5 = 54 := by decide +kernel
theorem rf_53_6 : rf 53 6 = 55 := by decide +kernel
theorem rf_53_7 : rf 53 7 = 56 := by decide +kernel
theorem ln_54 : ln 54 = 5 := by decide +kernel
theorem ln_55 : ln 55 = 7 := by decide +kernel
theorem ln_56 : ln 56 = 7 := by decide +kernel
theorem ln_57 : ln 57 = 175 := by decide +kernel
theorem rf_58_0 : rf 58 0 = 59 := by decide +kernel
theorem ln_59 : ln 59 = 16 := by decide +kernel
theorem rf_373_0 : rf 373 0 = 374 := by decide +kernel
theorem rf_373_1 : rf 373 1 = 375 := by decide +kernel
theorem rf_373_5 : rf 373 5 = 376 := by decide +kernel
theorem rf_373_6 : rf 373 6 = 377 := by decide +kernel
theorem rf_373_7 : rf 373 7 = 378 := by decide +kernel
theorem rf_373_8 : rf 373 8 = 379 := by decide +kernel
theorem rf_373_10 : rf 373 10 = 380 := by decide +kernel
theorem rf_373_11 : rf 373 11 = 381 := by decide +kernel
theorem rf_373_12 : rf 373 12 = 382 := by decide +kernel
theorem rf_373_13 : rf 373 13 = 383 := by decide +kernel
theorem rf_373_14 : rf 373 14 = 384 := by decide +kernel
theorem rf_373_15 : rf 373 15 = 385 := by decide +kernel
theorem rf_373_16 : rf 373 16 = 386 := by decide +kernel
theorem rf_373_17 : rf 373 17 = 387 := by decide +kernel
theorem rf_373_18 : rf 373 18 = 388 := by decide +kernel
theorem rf_373_19 : rf 373 19 = 389 := by decide +kernel
theorem rf_373_20 : rf 373 20 = 390 := by decide +kernel
theorem rf_373_21 : rf 373 21 = 391 := by decide +kernel
theorem rf_373_22 : rf 373 22 = 392 := by decide +kernel
theorem rf_373_23 : rf 373 23 = 393 := by decide +kernel
theorem rf_373_24 : rf 373 24 = 394 := by decide +kernel
theorem rf_373_35 : rf 373 35 = 395 := by decide +kernel
theorem rf_373_36 : rf 373 36 = 396 := by decide +kernel
theorem rf_373_37 : rf 373 37 = 397 := by decide +kernel
theorem rf_373_38 : rf 373 38 = 398 := by decide +kernel
theorem ln_374 : ln 374 = 174 := by decide +kernel
theorem ln_375 : ln 375 = 2784 := by decide +kernel
theorem ln_376 : ln 376 = 4 := by decide +kernel
theorem ln_377 : ln 377 = 4 := by decide +kernel
theorem ln_378 : ln 378 = 240 := by decide +kernel
theorem ln_379 : ln 379 = 60 := by decide +kernel
theorem ln_380 : ln 380 = 12 := by decide +kernel
theorem ln_381 : ln 381 = 5 := by decide +kernel
theorem ln_382 : ln 382 = 5 := by decide +kernel
theorem ln_383 : ln 383 = 5 := by decide +kernel
theorem ln_384 : ln 384 = 5 := by decide +kernel
theorem ln_385 : ln 385 = 5 := by decide +kernel
theorem ln_386 : ln 386 = 35 := by decide +kernel
theorem ln_387 : ln 387 = 35 := by decide +kernel
theorem ln_388 : ln 388 = 14 := by decide +kernel
theorem ln_389 : ln 389 = 2505 := by decide +kernel
theorem ln_390 : ln 390 = 2505 := by decide +kernel
theorem ln_391 : ln 391 = 5 := by decide +kernel
theorem ln_392 : ln 392 = 35 := by decide +kernel
theorem ln_393 : ln 393 = 35 := by decide +kernel
theorem ln_394 : ln 394 = 25 := by decide +kernel
theorem ln_395 : ln 395 = 42 := by decide +kernel
theorem ln_396 : ln 396 = 42 := by decide +kernel
theorem ln_397 : ln 397 = 42 := by decide +kernel
theorem ln_398 : ln 398 = 42 := by decide +kernel
theorem rf_line0 : ((List.range 16).all fun i => decide (rf 59 i = 60 + 19 * i ∧ rf (60 + 19 * i) 0 = 61 + 19 * i ∧ rf (60 + 19 * i) 1 = 64 + 19 * i ∧ rf (60 + 19 * i) 2 = 70 + 19 * i ∧ rf (60 + 19 * i) 4 = 77 + 19 * i ∧ rf (60 + 19 * i) 5 = 78 + 19 * i)) = true := by decide +kernel
theorem lt_v {α β : Type} (x : α) (K : α → Option β) : lt x K = K x := rfl
theorem bd_v {ρ β : Type} (r : ρ) (σ : Sg) (K : ρ → Sg → Option β) : bd (some (r, σ)) K = K r σ := rfl
theorem gd_t {β : Type} {q : Prop} [Decidable q] (h : q) (F : Option β) : gd q F = F := if_pos h
theorem wr_eq (σ : Sg) (c i : Nat) (v : Int32) : wr σ c i v c i = v := by simp [wr]
theorem wr_c {σ : Sg} {c i c' i' : Nat} {v : Int32} (h : c' ≠ c) : wr σ c i v c' i' = σ c' i' := by simp [wr, h]
theorem wr_i {σ : Sg} {c i c' i' : Nat} {v : Int32} (h : i' ≠ i) : wr σ c i v c' i' = σ c' i' := by simp [wr, h]
theorem nI_lit (n : Nat) : (OfNat.ofNat n : Int32) = nI n := rfl
theorem inR_nI {k n : Nat} (h : k < n) (hn : n < 2 ^ 31) : inR (nI k) n := vp_in_nI h hn
theorem zo0 : ((0 : Int32) = 0 ∨ (0 : Int32) = 1) := Or.inl rfl
theorem zo1 : ((1 : Int32) = 0 ∨ (1 : Int32) = 1) := Or.inr rfl
/-- s is one of 0 .. n - 1, or not -/
theorem pw_in (s : Int32) (n : Nat) (hn : n < 2 ^ 31) : (∃ k, k < n ∧ s = nI k) ∨ (s < 0 ∨ (¬ s < 0 ∧ nI n ≤ s)) := by
  rcases pk_ix s hn with h | h | h
  · exact Or.inr (Or.inl h)
  · by_cases a : s < 0
    · exact Or.inr (Or.inl a)
    · exact Or.inr (Or.inr ⟨a, h⟩)
  · exact Or.inl h
theorem not_lt0 {k : Nat} (h : k < 2 ^ 31) : ¬ nI k < 0 := nI_pos h
theorem not_le_n {k n : Nat} (h : k < n) (hn : n < 2 ^ 31) : ¬ nI n ≤ nI k := nI_ge h hn
theorem not_pred_lt {k n : Nat} (h : k < n) (hn : n < 2 ^ 31) : ¬ nI n - 1 < nI k := by
  obtain ⟨j, rfl⟩ : ∃ j, n = j + 1 := ⟨n - 1, by omega⟩
  rw [nI_pred]
  exact nI_nlt (by omega) (by omega)
theorem pred_lt {s : Int32} {n : Nat} (h : nI n ≤ s) (h0 : ¬ s < 0) (hn : 0 < n) (hn2 : n < 2 ^ 31) : nI n - 1 < s := by
  obtain ⟨j, rfl⟩ : ∃ j, n = j + 1 := ⟨n - 1, by omega⟩
  obtain ⟨k, hk, rfl⟩ := nI_of h0
  rw [nI_pred]
  have := (nI_leI hn2 hk).mp h
  exact nI_lt (by omega) hk
