/-! PURE: acts that write an order -/
theorem LR_new {σ : Sg} {g : Nat → Int32} {no : Nat} (ho : no < 12) (h40 : g 40 = nI no) (h : LR σ 3 g) : LR (wr (upR σ 19 (5 * no) (5 * no + 5) (fun _ => -1)) 13 0 (nI (no + 1))) 3 (upd (fun k => if 101 + 5 * no ≤ k ∧ k < 101 + 5 * no + 5 then -1 else g k) 40 (nI (no + 1))) := by
  refine LR_mk fun c i j hr hc => ?_
  by_cases A : c = 13
  · subst A
    obtain ⟨rfl, rfl⟩ : i = 0 ∧ j = 40 := by unfold Rel at hr; omega
    rw [wr_eq, upd_eq]
  rw [wr_c A, upd_ne (by unfold Rel at hr; omega)]
  by_cases B : c = 19
  · subst B
    obtain ⟨q, rfl⟩ : i < 60 ∧ j = 101 + i := by unfold Rel at hr; omega
    rw [upd_eq] at hc
    have hlt : i / 5 < no + 1 := by
      rcases Nat.lt_or_ge (i / 5) (no + 1) with x | x
      · exact x
      · exact absurd (hc.resolve_left (fun q => q rfl)) (nI_nlt x (by omega))
    by_cases C : 5 * no ≤ i ∧ i < 5 * no + 5
    · rw [upR_in C.1 C.2, if_pos (by omega)]
    · rw [upR_out (by omega), if_neg (by omega)]
      exact LR_rel h hr (Or.inr (by rw [h40]; exact nI_lt (by omega) (by omega)))
  · rw [upR_c B, if_neg (by unfold Rel at hr; omega)]
    exact LR_rel h hr (Or.inl B)
theorem Wf_new {g h : Nat → Int32} {n nt no nf : Nat} (ho : no < 12) (E : ∀ k, k < 174 → k ≠ 40 → (k < 41 + 5 * no ∨ 45 + 5 * no < k) → (k < 101 + 5 * no ∨ 105 + 5 * no < k) → h k = g k) (h40 : h 40 = nI (no + 1)) (hh : ∀ t, t < 5 → h (101 + 5 * no + t) = -1) (hO : WfO h n nt no) (hW : Wf g n nt no nf) : Wf h n nt (no + 1) nf := by
  obtain ⟨⟨h0, b1, b2, b3⟩, ⟨h1, h2, h3, h4⟩, h5, h6, h7, h8, h9, h10⟩ := hW
  refine ⟨⟨h0, b1, by omega, b3⟩, ⟨by rw [E _ (by omega) (by omega) (by omega) (by omega), h1], by rw [E _ (by omega) (by omega) (by omega) (by omega), h2], h40, by rw [E _ (by omega) (by omega) (by omega) (by omega), h4]⟩, fun k hk => by rw [E _ (by omega) (by omega) (by omega) (by omega)]; exact h5 k hk, fun k hk => by rw [E _ (by omega) (by omega) (by omega) (by omega)]; exact h6 k hk, fun t ht => WfT_upd (fun k q1 q2 => E k (by omega) (by omega) (by omega) (by omega)) (h7 t ht), fun o hoo => ?_, fun o t hoo ht => ?_, fun k hk => by rw [E _ (by omega) (by omega) (by omega) (by omega), E _ (by omega) (by omega) (by omega) (by omega)]; exact h10 k hk⟩
  · by_cases x : o = no
    · subst x; exact hO
    · exact WfO_upd (fun k q1 q2 => E k (by omega) (by omega) (by omega) (by omega)) (h8 o (by omega))
  · by_cases x : o = no
    · subst x; exact Or.inl (hh t ht)
    · rw [E _ (by omega) (by omega) (by omega) (by omega)]; exact h9 o t (by omega) ht
theorem u374 (τ : Sg) (j : Nat) (v : Int32) : (wr τ 374 j v) 374 = upd (τ 374) j v := funext fun k => by unfold wr upd; simp only [true_and]
theorem uR374 (τ : Sg) (lo hi : Nat) (f : Nat → Int32) : (upR τ 374 lo hi f) 374 = fun k => if lo ≤ k ∧ k < hi then f k else τ 374 k := funext fun k => by unfold upR; simp only [true_and]
/-- the numbers of a line with one more order -/
def nwO (g : Nat → Int32) (no : Nat) (f a b c d : Int32) : Nat → Int32 := upd (fun k => if 101 + 5 * no ≤ k ∧ k < 101 + 5 * no + 5 then -1 else upd (upd (upd (upd (upd g (41 + 5 * no) f) (42 + 5 * no) a) (43 + 5 * no) b) (44 + 5 * no) c) (45 + 5 * no) d k) 40 (nI (no + 1))
theorem nwO_1 {g : Nat → Int32} {no : Nat} (ho : no < 12) (f a b c d : Int32) : nwO g no f a b c d (41 + 5 * no) = f ∧ nwO g no f a b c d (42 + 5 * no) = a ∧ nwO g no f a b c d (43 + 5 * no) = b ∧ nwO g no f a b c d (44 + 5 * no) = c ∧ nwO g no f a b c d (45 + 5 * no) = d := by
  unfold nwO
  refine ⟨?_, ?_, ?_, ?_, ?_⟩
  · rw [upd_ne (by omega), if_neg (by omega), upd_ne (by omega), upd_ne (by omega), upd_ne (by omega), upd_ne (by omega), upd_eq]
  · rw [upd_ne (by omega), if_neg (by omega), upd_ne (by omega), upd_ne (by omega), upd_ne (by omega), upd_eq]
  · rw [upd_ne (by omega), if_neg (by omega), upd_ne (by omega), upd_ne (by omega), upd_eq]
  · rw [upd_ne (by omega), if_neg (by omega), upd_ne (by omega), upd_eq]
  · rw [upd_ne (by omega), if_neg (by omega), upd_eq]
theorem Wf_nwO {g : Nat → Int32} {n nt no nf : Nat} {f a b c d : Int32} (ho : no < 12) (hO : WfO (nwO g no f a b c d) n nt no) (hW : Wf g n nt no nf) : Wf (nwO g no f a b c d) n nt (no + 1) nf := by
  refine Wf_new ho (fun k q0 q1 q2 q3 => ?_) ?_ (fun t ht => ?_) hO hW
  · unfold nwO
    rw [upd_ne q1, if_neg (by omega), upd_ne (by omega), upd_ne (by omega), upd_ne (by omega), upd_ne (by omega), upd_ne (by omega)]
  · exact upd_eq
  · unfold nwO
    rw [upd_ne (by omega), if_pos (by omega)]
theorem two_write {σ : Sg} {F G : Sg → Option (Int32 × Sg)} {n nt no nf : Nat} (f a b c d : Int32) (hI : Inv σ) (hW : Wf (σ 374) n nt no nf) (hO : no < 12 → WfO (nwO (σ 374) no f a b c d) n nt no) (hF : F σ = bd (fX10_write 0 f a b c d σ) fun r s => some (r, s)) (hG : ∀ τ, τ 374 = σ 374 → G τ = bd (fX11_ordered 373 f a b c d τ) fun r s => some (r, s)) : Two F G σ := by
  have hL : LR σ 3 (σ 374) := by obtain ⟨_, _, _, _, h, -⟩ := hI; exact h
  have g40 := hW.2.1.2.2.1
  have h13 : σ 13 0 = nI no := by rw [← g40]; exact hL.1.2.2.1
  have hno : no ≤ 12 := hW.1.2.2.1
  have c40 : (40 : Int32).toNatClampNeg = 40 := by decide
  by_cases C : no = 12
  · subst C
    refine two_find (-100005) hI ?_ (fun τ hτ => ?_)
    · rw [hF]
      unfold fX10_write
      rw [rf_0_2, rf_3_2, h13, if_neg (by decide), e10_finding]; rfl
    · rw [hG τ (row374 hτ)]
      unfold fX11_ordered
      rw [rf_373_0, ln_374, gd_t (by decide), lt_v, c40, row374 hτ, g40, if_pos (show nI 12 = 12 from rfl), e11_finds]; rfl
  have ho : no < 12 := by omega
  refine two_act (r := nI no) (lc := wr (upR (wr (wr (wr (wr (wr σ 14 no f) 15 no a) 16 no b) 17 no c) 18 no d) 19 (5 * no) (5 * no + 5) (fun _ => -1)) 13 0 (nI (no + 1))) (lr := nwO (σ 374) no f a b c d) hI (fun τ e hl => ?_) (fun τ ρ hτ e hρ => ?_) ?_ (Wf_nwO ho (hO ho) hW)
  · refine ⟨wr (upR (wr (wr (wr (wr (wr τ 14 no f) 15 no a) 16 no b) 17 no c) 18 no d) 19 (5 * no) (5 * no + 5) (fun _ => -1)) 13 0 (nI (no + 1)), ?_, fun q i hq => ?_, fun q i q1 q2 => ?_⟩
    · rw [hF]
      unfold fX10_write
      rw [rf_0_2, rf_3_2, h13, if_pos (show nI no < 12 from nI_lt (b := 12) ho (by decide)), e, bd_v, e5_add ho (by rw [hl 13 0 (by decide) (by decide), h13]), bd_v, bd_v]
    · rw [wr_c (by omega), upR_c (by omega), wr_c (by omega), wr_c (by omega), wr_c (by omega), wr_c (by omega), wr_c (by omega)]
    · simp only [wr, upR, hl q i q1 q2]
  · refine ⟨wr (upR (wr (wr (wr (wr (wr ρ 374 (41 + 5 * no) f) 374 (42 + 5 * no) a) 374 (43 + 5 * no) b) 374 (44 + 5 * no) c) 374 (45 + 5 * no) d) 374 (101 + 5 * no) (101 + 5 * no + 5) (fun _ => -1)) 374 40 (nI (no + 1)), ?_, fun q i hq => ?_, fun k hk => ?_⟩
    · rw [hG τ hτ, e11_ordered ho (by rw [hτ, g40]) e (by rw [hρ, g40]), bd_v]
    · rw [wr_c hq, upR_c hq, wr_c hq, wr_c hq, wr_c hq, wr_c hq, wr_c hq]
    · rw [u374, uR374, u374, u374, u374, u374, u374, hρ]; rfl
  · unfold nwO
    refine LR_new ho ?_ (LR_wr (LR_wr (LR_wr (LR_wr (LR_wr hL (by unfold Rel; omega) (by omega)) (by unfold Rel; omega) (by omega)) (by unfold Rel; omega) (by omega)) (by unfold Rel; omega) (by omega)) (by unfold Rel; omega) (by omega))
    rw [upd_ne (by omega), upd_ne (by omega), upd_ne (by omega), upd_ne (by omega), upd_ne (by omega), g40]
