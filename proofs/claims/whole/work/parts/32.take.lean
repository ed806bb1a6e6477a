/-! PURE: a line taken from another -/
def LIDS : List Nat := 3 :: (List.range 16).map (fun i => 60 + 19 * i)
theorem lid0 : (LIDS.all fun L => decide ((rf L 0 = L + 1 ∧ rf L 1 = L + 4 ∧ rf L 2 = L + 10 ∧ rf L 4 = L + 17 ∧ rf L 5 = L + 18) ∧ (rf (L + 1) 1 = L + 2 ∧ rf (L + 1) 2 = L + 3) ∧ (rf (L + 4) 1 = L + 5 ∧ rf (L + 4) 2 = L + 6 ∧ rf (L + 4) 3 = L + 7 ∧ rf (L + 4) 4 = L + 8 ∧ rf (L + 4) 5 = L + 9) ∧ (rf (L + 10) 1 = L + 11 ∧ rf (L + 10) 2 = L + 12 ∧ rf (L + 10) 3 = L + 13 ∧ rf (L + 10) 4 = L + 14 ∧ rf (L + 10) 5 = L + 15 ∧ rf (L + 10) 6 = L + 16))) = true := by decide +kernel
theorem lid1 : (LIDS.all fun L => decide ((ln (L + 2) = 7 ∧ ln (L + 3) = 6) ∧ (ln (L + 5) = 5 ∧ ln (L + 6) = 5 ∧ ln (L + 7) = 5 ∧ ln (L + 8) = 5 ∧ ln (L + 9) = 5) ∧ (ln (L + 11) = 12 ∧ ln (L + 12) = 12 ∧ ln (L + 13) = 12 ∧ ln (L + 14) = 12 ∧ ln (L + 15) = 12 ∧ ln (L + 16) = 60) ∧ (ln (L + 17) = 6 ∧ ln (L + 18) = 6))) = true := by decide +kernel
theorem cp_gd {β : Type} {n : Nat} {F : Option β} (hn : n < 1000) : gd (cpR 0 0 (nI n) n n) F = F := by
  refine gd_t ⟨⟨by decide, by decide⟩, ⟨nI_pos (by omega), ?_⟩, ?_⟩ F
  · rw [nI_cl (by omega), show ((0 : Int32)).toNatClampNeg = 0 from by decide]; omega
  · rw [nI_cl (by omega), show ((0 : Int32)).toNatClampNeg = 0 from by decide]; omega
theorem cpy_o {σ : Sg} {c0 c1 a b n c i : Nat} (h : c ≠ c1) : cpy σ c0 c1 a b n c i = σ c i := by rw [← cpy_ne h]
theorem cpy_i {σ : Sg} {c0 c1 n i : Nat} (h : i < n) : cpy σ c0 c1 0 0 n c1 i = σ c0 i := by
  rw [cpy_row, pk_cpy_in (Nat.zero_le i) (by omega)]
  congr 1
  omega
theorem cl0 : ((0 : Int32)).toNatClampNeg = 0 := by decide
/-- the lines at L and K do not share a cell -/
def Apart (L K : Nat) : Prop := L + 18 < K ∨ K + 18 < L
set_option maxHeartbeats 2000000 in
theorem take8 {L K : Nat} (hL : L ∈ LIDS) (hK : K ∈ LIDS) (hA : Apart L K) (σ : Sg) : ∃ σ1, fX8_takeFrom (L + 1) (K + 1) σ = some ((), σ1) ∧ (∀ c i, (c ≠ L + 1 ∧ c ≠ L + 2 ∧ c ≠ L + 3) → σ1 c i = σ c i) ∧ σ1 (L + 1) 0 = σ (K + 1) 0 ∧ (∀ k, k < 7 → σ1 (L + 2) k = σ (K + 2) k) ∧ ∀ k, k < 6 → σ1 (L + 3) k = σ (K + 3) k := by
  have a := of_decide_eq_true (List.all_eq_true.mp lid0 L hL)
  have b := of_decide_eq_true (List.all_eq_true.mp lid0 K hK)
  have c := of_decide_eq_true (List.all_eq_true.mp lid1 L hL)
  have d := of_decide_eq_true (List.all_eq_true.mp lid1 K hK)
  unfold Apart at hA
  unfold fX8_takeFrom
  simp only [lt_v, a.2.1.1, a.2.1.2, b.2.1.1, b.2.1.2, c.1.1, c.1.2, d.1.1, d.1.2, cl0, cp_gd (show 7 < 1000 by decide), cp_gd (show 6 < 1000 by decide), nI_cl (show 7 < 2147483648 by decide), nI_cl (show 6 < 2147483648 by decide)]
  clear a b c d
  refine ⟨_, rfl, fun q i h => ?_, ?_, fun k hk => ?_, fun k hk => ?_⟩
  · rw [cpy_o h.2.2, cpy_o h.2.1, wr_c h.1]
  · rw [cpy_o (by omega), cpy_o (by omega), wr_eq]
  · rw [cpy_o (by omega), cpy_i hk, wr_c (by omega)]
  · rw [cpy_i hk, cpy_o (by omega), wr_c (by omega)]
set_option maxHeartbeats 2000000 in
theorem take9 {L K : Nat} (hL : L ∈ LIDS) (hK : K ∈ LIDS) (hA : Apart L K) (σ : Sg) : ∃ σ1, fX9_takeFrom (L + 4) (K + 4) σ = some ((), σ1) ∧ (∀ c i, (c < L + 4 ∨ L + 9 < c) → σ1 c i = σ c i) ∧ σ1 (L + 4) 0 = σ (K + 4) 0 ∧ ∀ t, t < 5 → (σ1 (L + 5) t = σ (K + 5) t ∧ σ1 (L + 6) t = σ (K + 6) t ∧ σ1 (L + 7) t = σ (K + 7) t) ∧ σ1 (L + 8) t = σ (K + 8) t ∧ σ1 (L + 9) t = σ (K + 9) t := by
  have a := (of_decide_eq_true (List.all_eq_true.mp lid0 L hL)).2.2.1
  have b := (of_decide_eq_true (List.all_eq_true.mp lid0 K hK)).2.2.1
  have c := (of_decide_eq_true (List.all_eq_true.mp lid1 L hL)).2.1
  have d := (of_decide_eq_true (List.all_eq_true.mp lid1 K hK)).2.1
  unfold Apart at hA
  unfold fX9_takeFrom
  simp only [lt_v, a.1, a.2.1, a.2.2.1, a.2.2.2.1, a.2.2.2.2, b.1, b.2.1, b.2.2.1, b.2.2.2.1, b.2.2.2.2, c.1, c.2.1, c.2.2.1, c.2.2.2.1, c.2.2.2.2, d.1, d.2.1, d.2.2.1, d.2.2.2.1, d.2.2.2.2, cl0, cp_gd (show 5 < 1000 by decide), nI_cl (show 5 < 2147483648 by decide)]
  clear a b c d
  refine ⟨_, rfl, fun q i h => ?_, ?_, fun t ht => ⟨⟨?_, ?_, ?_⟩, ?_, ?_⟩⟩
  · rw [cpy_o (by omega), cpy_o (by omega), cpy_o (by omega), cpy_o (by omega), cpy_o (by omega), wr_c (by omega)]
  · rw [cpy_o (by omega), cpy_o (by omega), cpy_o (by omega), cpy_o (by omega), cpy_o (by omega), wr_eq]
  · rw [cpy_o (by omega), cpy_o (by omega), cpy_o (by omega), cpy_o (by omega), cpy_i ht, wr_c (by omega)]
  · rw [cpy_o (by omega), cpy_o (by omega), cpy_o (by omega), cpy_i ht, cpy_o (by omega), wr_c (by omega)]
  · rw [cpy_o (by omega), cpy_o (by omega), cpy_i ht, cpy_o (by omega), cpy_o (by omega), wr_c (by omega)]
  · rw [cpy_o (by omega), cpy_i ht, cpy_o (by omega), cpy_o (by omega), cpy_o (by omega), wr_c (by omega)]
  · rw [cpy_i ht, cpy_o (by omega), cpy_o (by omega), cpy_o (by omega), cpy_o (by omega), wr_c (by omega)]
set_option maxHeartbeats 2000000 in
theorem take5 {L K : Nat} (hL : L ∈ LIDS) (hK : K ∈ LIDS) (hA : Apart L K) (σ : Sg) : ∃ σ1, fX5_takeFrom (L + 10) (K + 10) σ = some ((), σ1) ∧ (∀ c i, (c < L + 10 ∨ L + 16 < c) → σ1 c i = σ c i) ∧ σ1 (L + 10) 0 = σ (K + 10) 0 ∧ (∀ o, o < 12 → (σ1 (L + 11) o = σ (K + 11) o ∧ σ1 (L + 12) o = σ (K + 12) o ∧ σ1 (L + 13) o = σ (K + 13) o) ∧ σ1 (L + 14) o = σ (K + 14) o ∧ σ1 (L + 15) o = σ (K + 15) o) ∧ ∀ k, k < 60 → σ1 (L + 16) k = σ (K + 16) k := by
  have a := (of_decide_eq_true (List.all_eq_true.mp lid0 L hL)).2.2.2
  have b := (of_decide_eq_true (List.all_eq_true.mp lid0 K hK)).2.2.2
  have c := (of_decide_eq_true (List.all_eq_true.mp lid1 L hL)).2.2.1
  have d := (of_decide_eq_true (List.all_eq_true.mp lid1 K hK)).2.2.1
  unfold Apart at hA
  unfold fX5_takeFrom
  simp only [lt_v, a.1, a.2.1, a.2.2.1, a.2.2.2.1, a.2.2.2.2.1, a.2.2.2.2.2, b.1, b.2.1, b.2.2.1, b.2.2.2.1, b.2.2.2.2.1, b.2.2.2.2.2, c.1, c.2.1, c.2.2.1, c.2.2.2.1, c.2.2.2.2.1, c.2.2.2.2.2, d.1, d.2.1, d.2.2.1, d.2.2.2.1, d.2.2.2.2.1, d.2.2.2.2.2, cl0, cp_gd (show 12 < 1000 by decide), cp_gd (show 60 < 1000 by decide), nI_cl (show 12 < 2147483648 by decide), nI_cl (show 60 < 2147483648 by decide)]
  clear a b c d
  refine ⟨_, rfl, fun q i h => ?_, ?_, fun t ht => ⟨⟨?_, ?_, ?_⟩, ?_, ?_⟩, fun k hk => ?_⟩
  · rw [cpy_o (by omega), cpy_o (by omega), cpy_o (by omega), cpy_o (by omega), cpy_o (by omega), cpy_o (by omega), wr_c (by omega)]
  · rw [cpy_o (by omega), cpy_o (by omega), cpy_o (by omega), cpy_o (by omega), cpy_o (by omega), cpy_o (by omega), wr_eq]
  · rw [cpy_o (by omega), cpy_o (by omega), cpy_o (by omega), cpy_o (by omega), cpy_o (by omega), cpy_i ht, wr_c (by omega)]
  · rw [cpy_o (by omega), cpy_o (by omega), cpy_o (by omega), cpy_o (by omega), cpy_i ht, cpy_o (by omega), wr_c (by omega)]
  · rw [cpy_o (by omega), cpy_o (by omega), cpy_o (by omega), cpy_i ht, cpy_o (by omega), cpy_o (by omega), wr_c (by omega)]
  · rw [cpy_o (by omega), cpy_o (by omega), cpy_i ht, cpy_o (by omega), cpy_o (by omega), cpy_o (by omega), wr_c (by omega)]
  · rw [cpy_o (by omega), cpy_i ht, cpy_o (by omega), cpy_o (by omega), cpy_o (by omega), cpy_o (by omega), wr_c (by omega)]
  · rw [cpy_i hk, cpy_o (by omega), cpy_o (by omega), cpy_o (by omega), cpy_o (by omega), cpy_o (by omega), wr_c (by omega)]
/-- the line at L becomes that at K -/
theorem take3 {L K : Nat} (hL : L ∈ LIDS) (hK : K ∈ LIDS) (hA : Apart L K) (σ : Sg) : ∃ σ1, fX3_takeFrom L K σ = some ((), σ1) ∧ (∀ c i, (c < L ∨ L + 18 < c) → σ1 c i = σ c i) ∧ ∀ g, LR σ K g → LR σ1 L g := by
  have a := (of_decide_eq_true (List.all_eq_true.mp lid0 L hL)).1
  have b := (of_decide_eq_true (List.all_eq_true.mp lid0 K hK)).1
  have c := (of_decide_eq_true (List.all_eq_true.mp lid1 L hL)).2.2.2
  have d := (of_decide_eq_true (List.all_eq_true.mp lid1 K hK)).2.2.2
  obtain ⟨s1, e1, f1, g1, g2, g3⟩ := take8 hL hK hA σ
  obtain ⟨s2, e2, f2, g4, g5⟩ := take9 hL hK hA s1
  obtain ⟨s3, e3, f3, g6, g7, g8⟩ := take5 hL hK hA s2
  have hA2 := hA
  unfold Apart at hA2
  unfold fX3_takeFrom
  simp only [a.1, a.2.1, a.2.2.1, a.2.2.2.1, a.2.2.2.2, b.1, b.2.1, b.2.2.1, b.2.2.2.1, b.2.2.2.2, e1, e2, e3, bd_v, lt_v, c.1, c.2, d.1, d.2, cl0, cp_gd (show 6 < 1000 by decide), nI_cl (show 6 < 2147483648 by decide)]
  clear a b c d
  refine ⟨_, rfl, fun q i h => ?_, fun g hg => ?_⟩
  · rw [cpy_o (by omega), cpy_o (by omega), wr_c (by omega), f3 q i (by omega), f2 q i (by omega), f1 q i (by omega)]
  · obtain ⟨⟨h1, h2, h3, h4⟩, h5, h6, h7, h8, h9, h10⟩ := hg
    have low : ∀ q i, q ≠ L + 17 → q ≠ L + 18 → q ≠ L → cpy (cpy (wr s3 L 3 (s3 K 3)) (K + 17) (L + 17) 0 0 6) (K + 18) (L + 18) 0 0 6 q i = s3 q i := fun q i x y z => by rw [cpy_o y, cpy_o x, wr_c z]
    refine ⟨⟨?_, ?_, ?_, ?_⟩, fun k hk => ?_, fun k hk => ?_, fun t ht => ⟨⟨?_, ?_, ?_⟩, ?_, ?_⟩, fun o ho => ⟨⟨?_, ?_, ?_⟩, ?_, ?_⟩, fun o t ho ht hot => ?_, fun k hk => ⟨?_, ?_⟩⟩
    · rw [low _ _ (by omega) (by omega) (by omega), f3 _ _ (by omega), f2 _ _ (by omega), g1]; exact h1
    · rw [low _ _ (by omega) (by omega) (by omega), f3 _ _ (by omega), g4, f1 _ _ (by omega)]; exact h2
    · rw [low _ _ (by omega) (by omega) (by omega), g6, f2 _ _ (by omega), f1 _ _ (by omega)]; exact h3
    · rw [cpy_o (by omega), cpy_o (by omega), wr_eq, f3 _ _ (by omega), f2 _ _ (by omega), f1 _ _ (by omega)]; exact h4
    · rw [low _ _ (by omega) (by omega) (by omega), f3 _ _ (by omega), f2 _ _ (by omega), g2 k hk]; exact h5 k hk
    · rw [low _ _ (by omega) (by omega) (by omega), f3 _ _ (by omega), f2 _ _ (by omega), g3 k hk]; exact h6 k hk
    · rw [low _ _ (by omega) (by omega) (by omega), f3 _ _ (by omega), (g5 t ht).1.1, f1 _ _ (by omega)]; exact (h7 t ht).1.1
    · rw [low _ _ (by omega) (by omega) (by omega), f3 _ _ (by omega), (g5 t ht).1.2.1, f1 _ _ (by omega)]; exact (h7 t ht).1.2.1
    · rw [low _ _ (by omega) (by omega) (by omega), f3 _ _ (by omega), (g5 t ht).1.2.2, f1 _ _ (by omega)]; exact (h7 t ht).1.2.2
    · rw [low _ _ (by omega) (by omega) (by omega), f3 _ _ (by omega), (g5 t ht).2.1, f1 _ _ (by omega)]; exact (h7 t ht).2.1
    · rw [low _ _ (by omega) (by omega) (by omega), f3 _ _ (by omega), (g5 t ht).2.2, f1 _ _ (by omega)]; exact (h7 t ht).2.2
    · rw [low _ _ (by omega) (by omega) (by omega), (g7 o ho).1.1, f2 _ _ (by omega), f1 _ _ (by omega)]; exact (h8 o ho).1.1
    · rw [low _ _ (by omega) (by omega) (by omega), (g7 o ho).1.2.1, f2 _ _ (by omega), f1 _ _ (by omega)]; exact (h8 o ho).1.2.1
    · rw [low _ _ (by omega) (by omega) (by omega), (g7 o ho).1.2.2, f2 _ _ (by omega), f1 _ _ (by omega)]; exact (h8 o ho).1.2.2
    · rw [low _ _ (by omega) (by omega) (by omega), (g7 o ho).2.1, f2 _ _ (by omega), f1 _ _ (by omega)]; exact (h8 o ho).2.1
    · rw [low _ _ (by omega) (by omega) (by omega), (g7 o ho).2.2, f2 _ _ (by omega), f1 _ _ (by omega)]; exact (h8 o ho).2.2
    · rw [low _ _ (by omega) (by omega) (by omega), g8 _ (by omega), f2 _ _ (by omega), f1 _ _ (by omega)]; exact h9 o t ho ht hot
    · rw [cpy_o (by omega), cpy_i hk, wr_c (by omega), f3 _ _ (by omega), f2 _ _ (by omega), f1 _ _ (by omega)]; exact (h10 k hk).1
    · rw [cpy_i hk, cpy_o (by omega), wr_c (by omega), f3 _ _ (by omega), f2 _ _ (by omega), f1 _ _ (by omega)]; exact (h10 k hk).2
