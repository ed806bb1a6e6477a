/-! PURE: the relation between two steps of a day; a train comes in -/
def SameC (σ σ' : Sg) (t : Nat) : Prop := (σ' 30 t = σ 30 t ∧ σ' 31 t = σ 31 t ∧ σ' 32 t = σ 32 t ∧ σ' 33 t = σ 33 t ∧ σ' 34 t = σ 34 t) ∧ bt (σ' 2 14) t = bt (σ 2 14) t ∧ ∀ j, j < 14 → bt (σ' 35 j) t = bt (σ 35 j) t
def SameR (τ τ' : Sg) (t : Nat) : Prop := (τ' 381 t = τ 381 t ∧ τ' 382 t = τ 382 t ∧ τ' 383 t = τ 383 t ∧ τ' 384 t = τ 384 t ∧ τ' 385 t = τ 385 t ∧ τ' 391 t = τ 391 t) ∧ ∀ q, q < 7 → τ' 392 (7 * t + q) = τ 392 (7 * t + q) ∧ τ' 393 (7 * t + q) = τ 393 (7 * t + q)
theorem Tr_congr {g : Nat → Int32} {n m1 m2 t : Nat} {σ σ' τ τ' : Sg} (hC : SameC σ σ' t) (hR : SameR τ τ' t) (h : Tr g n σ τ m1 m2 t) : Tr g n σ' τ' m1 m2 t := by
  obtain ⟨hh, p, w, b, l, a1, a2, a3, a4⟩ := h
  obtain ⟨⟨c1, c2, c3, c4, c5⟩, c6, c7⟩ := hC
  obtain ⟨⟨r1, r2, r3, r4, r5, r6⟩, r7⟩ := hR
  have hw := wTrG a3
  refine ⟨hh, p, w, b, l, ?_, ?_, a3, ?_⟩
  · unfold TrR at *
    rw [r1, r2, r3, r4, r5, r6]
    exact a1
  · unfold TrC at *
    rw [c1, c2, c3, c4, c5, c6]
    exact a2
  · unfold TrS at *
    refine ⟨fun h3 q hq => ?_, fun h0 q hq => ?_⟩
    · rw [(r7 q hq).1, (r7 q hq).2, c7 q (by omega), c7 (7 + q) (by omega), c7 (7 * w + q) (by omega)]
      exact a4.1 h3 q hq
    · rw [c7 _ (by omega)]
      exact a4.2 h0 q hq
theorem Tr_mono {g : Nat → Int32} {n m1 m2 m1' m2' t : Nat} {σ τ : Sg} (h1 : m1 ≤ m1') (h2 : m2' ≤ m2) (h : Tr g n σ τ m1 m2 t) : Tr g n σ τ m1' m2' t := by
  obtain ⟨hh, p, w, b, l, a1, a2, ⟨f, d, b1, b2, b3, b4, b5⟩, a4⟩ := h
  refine ⟨hh, p, w, b, l, a1, a2, ⟨f, d, b1, b2, b3, b4, fun q => ?_⟩, a4⟩
  obtain ⟨c1, v, c2, c3, c4, c5⟩ := b5 q
  exact ⟨⟨c1.1, c1.2.1, by omega⟩, v, c2, c3, c4, by omega⟩
def FrC (σ0 σ : Sg) : Prop := (∀ c i, ((c < 22 ∧ c ≠ 2) ∨ 57 ≤ c) → σ c i = σ0 c i) ∧ (∀ t, t < 5 → σ (37 + 4 * t) 0 = σ0 (37 + 4 * t) 0) ∧ σ 2 2 = 0
def FrR (τ0 τ : Sg) : Prop := (∀ c i, (c < 373 ∨ (374 ≤ c ∧ c < 380) ∨ 395 ≤ c) → τ c i = τ0 c i) ∧ ∀ i, (i < 25 ∨ 32 ≤ i) → τ 373 i = τ0 373 i
theorem FrR.on {τ0 τ : Sg} {g : Nat → Int32} (h : FrR τ0 τ) (hO : On τ0 g) : On τ g := fun k hk => by rw [h.1 _ _ (by omega)]; exact hO k hk
theorem FrR.mo {τ0 τ : Sg} {E : Option (Nat × Nat × Nat)} (h : FrR τ0 τ) (hM : MoE τ0 E) : MoE τ E := by
  unfold MoE Mo at *
  rw [h.2 _ (by omega), h.2 _ (by omega), h.2 _ (by omega)]
  exact hM
/-- minutes of coming or leaving -/
def MN (σ τ : Sg) (c c' : Nat) : Prop := ∀ i, i < 35 → σ c i = τ c' i ∧ (τ c' i = -1 ∨ ∃ v, v ≤ 500 ∧ τ c' i = nI v)
def HD (nt : Nat) (σ τ : Sg) : Prop := σ 22 6 = τ 373 25 ∧ (τ 373 25 ≠ 0 → (σ 22 7 = τ 373 26 ∧ σ 22 8 = τ 373 27 ∧ σ 22 9 = τ 373 28 ∧ σ 22 10 = τ 373 29) ∧ τ 373 30 = τ 373 26 ∧ (∃ m, m ≤ 500 ∧ τ 373 26 = nI m) ∧ ∃ a b, a < b ∧ b < nt ∧ τ 373 28 = nI a ∧ τ 373 29 = nI b)
def PR (nt : Nat) (σ τ : Sg) : Prop := ∀ a b, a < b → b < nt → (bt (σ 22 5) (5 * a + b) = true ↔ τ 394 (5 * a + b) ≠ 0)
def GN (nt : Nat) (σ : Sg) : Prop := ∀ k, nt ≤ k → k < 32 → bt (σ 2 14) k = false
def BK (g : Nat → Int32) (nt : Nat) (σ τ : Sg) : Prop := (MN σ τ 25 386 ∧ MN σ τ 26 387 ∧ LL σ τ) ∧ (PR nt σ τ ∧ HD nt σ τ) ∧ σ 22 11 = τ 373 31 ∧ σ 22 12 = dl g (τ 385) nt ∧ GN nt σ
def DY (g : Nat → Int32) (E : Option (Nat × Nat × Nat)) (n nt no : Nat) (σ0 τ0 : Sg) (m : Nat) (σ τ : Sg) (M1 M2 : Nat → Nat) : Prop := (FrC σ0 σ ∧ FrR τ0 τ) ∧ SC g E n nt σ ∧ BK g nt σ τ ∧ (∀ t, t < nt → PO σ g E no t m) ∧ ∀ t, t < nt → Tr g n σ τ (M1 t) (M2 t) t
theorem dlt_c {g f f' : Nat → Int32} {t : Nat} (h : f' t = f t) : dlt g f' t = dlt g f t := by
  unfold dlt
  rw [h]
theorem dl_upd {g f f' : Nat → Int32} {t : Nat} : ∀ N, (∀ o, o < N → o ≠ t → f' o = f o) → (N ≤ t → dl g f' N = dl g f N) ∧ (t < N → dl g f' N = dl g f N + (dlt g f' t - dlt g f t)) := by
  intro N
  induction N with
  | zero => intro _; exact ⟨fun _ => rfl, fun h => by omega⟩
  | succ N ih =>
    intro h
    obtain ⟨h1, h2⟩ := ih (fun o ho => h o (by omega))
    refine ⟨fun q => ?_, fun q => ?_⟩
    · show dl g f' N + dlt g f' N = dl g f N + dlt g f N
      rw [h1 (by omega), dlt_c (h N (by omega) (by omega))]
    · show dl g f' N + dlt g f' N = dl g f N + dlt g f N + _
      by_cases z : t = N
      · subst z
        rw [h1 (by omega), Int32.add_assoc, Int32.add_comm (dlt g f t), Int32.sub_add_cancel]
      · rw [h2 (by omega), dlt_c (h N (by omega) (by omega)), Int32.add_assoc, Int32.add_assoc, Int32.add_comm (dlt g f N)]
theorem SC_congr {g : Nat → Int32} {E : Option (Nat × Nat × Nat)} {n nt : Nat} {σ σ' : Sg} (hnt : nt ≤ 5) (h1 : ∀ c i, 3 ≤ c → c < 22 → σ' c i = σ c i) (h2 : ∀ i, σ' 28 i = σ 28 i ∧ σ' 29 i = σ 29 i) (h3 : σ' 2 13 = σ 2 13) (h4 : ∀ t i, t < 5 → i < 3 → σ' (37 + 4 * t) i = σ (37 + 4 * t) i) (h : SC g E n nt σ) : SC g E n nt σ' := by
  refine ⟨LR_congr (fun c q1 q2 => funext fun i => (h1 c i (by omega) (by omega)).symm) h.1, fun t ht => ?_⟩
  obtain ⟨⟨a1, a2⟩, a3, a4⟩ := h.2 t ht
  refine ⟨⟨fun q hq => by rw [(h2 _).1]; exact a1 q hq, fun k hk => by rw [(h2 _).2]; exact a2 k hk⟩, by rw [h3]; exact a3, ?_⟩
  unfold PX
  rw [h4 t 0 (by omega) (by decide), h4 t 1 (by omega) (by decide), h4 t 2 (by omega) (by decide)]
  exact a4
theorem PO_congr {g : Nat → Int32} {E : Option (Nat × Nat × Nat)} {no t m : Nat} {σ σ' : Sg} (h : ∀ c, 37 + 4 * t ≤ c → c ≤ 40 + 4 * t → σ' c = σ c) (hP : PO σ g E no t m) : PO σ' g E no t m := by
  unfold PO Pap at *
  rw [h (37 + 4 * t) (by omega) (by omega), h (38 + 4 * t) (by omega) (by omega), h (39 + 4 * t) (by omega) (by omega), h (40 + 4 * t) (by omega) (by omega)]
  exact hP
theorem PO_next {g : Nat → Int32} {E : Option (Nat × Nat × Nat)} {no t m : Nat} {σ : Sg} (hP : PO σ g E no t m) : PO σ g E no t (m + 1) := by
  obtain ⟨u, h1, h2, h3⟩ := hP
  exact ⟨u, h1, h2, fun m' q1 q2 => h3 m' (by omega) q2⟩
/-- what coming in and standing leaves alone -/
def CI (σ σ' : Sg) : Prop := (∀ c i, c ≠ 2 → c ≠ 22 → c ≠ 25 → c ≠ 30 → c ≠ 31 → c ≠ 32 → c ≠ 33 → c ≠ 35 → σ' c i = σ c i) ∧ (∀ i, i ≠ 14 → σ' 2 i = σ 2 i) ∧ ∀ i, i ≠ 11 → i ≠ 12 → σ' 22 i = σ 22 i
def RI (τ τ' : Sg) : Prop := (∀ c i, c ≠ 373 → c ≠ 381 → c ≠ 382 → c ≠ 383 → c ≠ 385 → c ≠ 386 → c ≠ 391 → c ≠ 392 → c ≠ 393 → τ' c i = τ c i) ∧ ∀ i, i ≠ 31 → τ' 373 i = τ 373 i
/-- after coming in or standing -/
theorem DY_in {g : Nat → Int32} {E : Option (Nat × Nat × Nat)} {n nt no m t : Nat} {σ0 τ0 σ τ σ' τ' : Sg} {M1 M2 M1' M2' : Nat → Nat} (hnt : nt ≤ 5) (hD : DY g E n nt no σ0 τ0 m σ τ M1 M2) (hC : CI σ σ') (hR : RI τ τ') (hM : MN σ' τ' 25 386) (hf : σ' 22 11 = τ' 373 31) (hd : σ' 22 12 = dl g (τ' 385) nt) (hg : GN nt σ') (ho : ∀ o, o < nt → o ≠ t → (SameC σ σ' o ∧ SameR τ τ' o) ∧ M1' o = M1 o ∧ M2' o = M2 o) (ht : Tr g n σ' τ' (M1' t) (M2' t) t) : DY g E n nt no σ0 τ0 m σ' τ' M1' M2' := by
  obtain ⟨⟨⟨f1, f2, f3⟩, ⟨f4, f5⟩⟩, hS, ⟨⟨b1, b2, b3⟩, ⟨b4, b5⟩, b6, b7, b8⟩, hP, hT⟩ := hD
  obtain ⟨c1, c2, c3⟩ := hC
  obtain ⟨r1, r2⟩ := hR
  refine ⟨⟨⟨fun c i hc => ?_, fun x hx => ?_, ?_⟩, fun c i hc => ?_, fun i hi => ?_⟩, ?_, ⟨⟨hM, fun i hi => ?_, fun j hj => ?_⟩, ⟨fun a b h1 h2 => ?_, ?_⟩, hf, hd, hg⟩, fun x hx => ?_, fun x hx => ?_⟩
  · rw [c1 c i (by omega) (by omega) (by omega) (by omega) (by omega) (by omega) (by omega) (by omega), f1 c i hc]
  · rw [c1 _ _ (by omega) (by omega) (by omega) (by omega) (by omega) (by omega) (by omega) (by omega), f2 x hx]
  · rw [c2 2 (by decide), f3]
  · rw [r1 c i (by omega) (by omega) (by omega) (by omega) (by omega) (by omega) (by omega) (by omega) (by omega), f4 c i hc]
  · rw [r2 i (by omega), f5 i hi]
  · exact SC_congr hnt (fun c i q1 q2 => c1 c i (by omega) (by omega) (by omega) (by omega) (by omega) (by omega) (by omega) (by omega)) (fun i => ⟨c1 _ _ (by decide) (by decide) (by decide) (by decide) (by decide) (by decide) (by decide) (by decide), c1 _ _ (by decide) (by decide) (by decide) (by decide) (by decide) (by decide) (by decide) (by decide)⟩) (c2 13 (by decide)) (fun x i hx hi => c1 _ _ (by omega) (by omega) (by omega) (by omega) (by omega) (by omega) (by omega) (by omega)) hS
  · rw [c1 _ _ (by decide) (by decide) (by decide) (by decide) (by decide) (by decide) (by decide) (by decide), r1 _ _ (by decide) (by decide) (by decide) (by decide) (by decide) (by decide) (by decide) (by decide) (by decide)]
    exact b2 i hi
  · rw [c1 _ _ (by decide) (by decide) (by decide) (by decide) (by decide) (by decide) (by decide) (by decide), r1 _ _ (by decide) (by decide) (by decide) (by decide) (by decide) (by decide) (by decide) (by decide) (by decide)]
    exact b3 j hj
  · rw [c3 5 (by decide) (by decide), r1 394 _ (by decide) (by decide) (by decide) (by decide) (by decide) (by decide) (by decide) (by decide) (by decide)]
    exact b4 a b h1 h2
  · unfold HD at *
    rw [c3 6 (by decide) (by decide), c3 7 (by decide) (by decide), c3 8 (by decide) (by decide), c3 9 (by decide) (by decide), c3 10 (by decide) (by decide), r2 25 (by decide), r2 26 (by decide), r2 27 (by decide), r2 28 (by decide), r2 29 (by decide), r2 30 (by decide)]
    exact b5
  · exact PO_congr (fun c q1 q2 => funext fun i => c1 c i (by omega) (by omega) (by omega) (by omega) (by omega) (by omega) (by omega) (by omega)) (hP x hx)
  · by_cases z : x = t
    · subst z; exact ht
    · obtain ⟨⟨a1, a2⟩, a3, a4⟩ := ho x hx z
      rw [a3, a4]
      exact Tr_congr a1 a2 (hT x hx)
/-- standing at a station, and the foul that it may be -/
theorem settle {g : Nat → Int32} {n nt no nf t s w : Nat} {σ τ : Sg} (hW : Wf g n nt no nf) (hL : LR σ 3 g) (hO : On τ g) (ht : t < nt) (hs : s < 7) (hw : w < 2) (h31 : σ 31 t = nI w) (ha : ∀ o, o < nt → o ≠ t → (σ 30 o = nI s ↔ τ 381 o = 1 ∧ τ 382 o = nI s)) : ∃ r σ', fX0_comeIn_64 2 (nI t) (nI s) σ = some ((), σ') ∧ fX11_comesIn_170 373 (nI t) (nI s) τ = some ((), wr τ 373 31 (τ 373 31 + r)) ∧ σ' 22 11 = σ 22 11 + r ∧ σ' 30 t = nI s ∧ σ' 35 (7 * w + s) = σ 35 (7 * w + s) ||| ((1 : Int32) <<< (nI t &&& 31)) ∧ ∀ c i, ¬ (c = 22 ∧ i = 11) → ¬ (c = 30 ∧ i = t) → ¬ (c = 35 ∧ i = 7 * w + s) → σ' c i = σ c i := by
  have hnt := hW.nt
  refine ⟨fv (fo (fun o => decide (σ 30 o = nI s)) (ft g s) t (if ft g s t = true then 1 else 0) nt), ?_⟩
  have e2 := r_170 (fun o => decide (σ 30 o = nI s)) hW hO ht hs (fun o ho hot => by rw [decide_eq_true_eq]; exact ha o ho hot)
  have e1 := c_isFoul hW hL ht hs
  generalize hr : fv (fo (fun o => decide (σ 30 o = nI s)) (ft g s) t (if ft g s t = true then 1 else 0) nt) = r at e1 e2 ⊢
  have hr01 : r = 0 ∨ r = 1 := by
    rw [← hr]
    unfold fv
    repeat' split
    all_goals first | exact Or.inl rfl | exact Or.inr rfl
  unfold fX0_comeIn_64
  rw [e1, bd_v]
  rcases hr01 with rfl | rfl
  · rw [if_pos rfl, c_stand (by omega) hs hw h31, bd_v]
    refine ⟨_, rfl, e2, ?_, ?_, ?_, fun c i h1 h2 h3 => ?_⟩
    · rw [wr_c (by decide), wr_c (by decide), Int32.add_zero]
    · rw [wr_c (by decide), wr_eq]
    · rw [wr_eq]
    · unfold wr
      rw [if_neg h3, if_neg h2]
  · rw [if_neg (by decide), rf_2_1, lt_v, c_stand (by omega) hs hw (by rw [wr_c (by decide), h31]), bd_v]
    refine ⟨_, rfl, e2, ?_, ?_, ?_, fun c i h1 h2 h3 => ?_⟩
    · rw [wr_c (by decide), wr_c (by decide), wr_eq]
    · rw [wr_c (by decide), wr_eq]
    · rw [wr_eq, wr_c (by decide)]
    · unfold wr
      rw [if_neg h3, if_neg h2, if_neg h1]
