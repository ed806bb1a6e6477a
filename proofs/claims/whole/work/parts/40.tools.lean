/-! ===== Int32 by its bits: bt x i ===== -/
def bt (x : Int32) (i : Nat) : Bool := x.toBitVec.getLsbD i
theorem b_ext {x y : Int32} (h : ∀ i, i < 32 → bt x i = bt y i) : x = y := Int32.toBitVec_inj.mp (BitVec.eq_of_getLsbD_eq (fun i hi => h i hi))
theorem b_or (x y : Int32) (i : Nat) : bt (x ||| y) i = (bt x i || bt y i) := by unfold bt; rw [Int32.toBitVec_or, BitVec.getLsbD_or]
theorem b_and (x y : Int32) (i : Nat) : bt (x &&& y) i = (bt x i && bt y i) := by unfold bt; rw [Int32.toBitVec_and, BitVec.getLsbD_and]
theorem b_xor (x y : Int32) (i : Nat) : bt (x ^^^ y) i = (bt x i ^^ bt y i) := by unfold bt; rw [Int32.toBitVec_xor, BitVec.getLsbD_xor]
theorem b_big {x : Int32} {i : Nat} (h : 32 ≤ i) : bt x i = false := BitVec.getLsbD_of_ge _ _ h
theorem b_255 (i : Nat) : bt 255 i = decide (i < 8) := by
  rcases Nat.lt_or_ge i 32 with h | h
  · exact (by decide +kernel : ∀ i, i < 32 → bt 255 i = decide (i < 8)) i h
  · rw [b_big h, decide_eq_false (by omega)]
theorem b_65535 (i : Nat) : bt 65535 i = decide (i < 16) := by
  rcases Nat.lt_or_ge i 32 with h | h
  · exact (by decide +kernel : ∀ i, i < 32 → bt 65535 i = decide (i < 16)) i h
  · rw [b_big h, decide_eq_false (by omega)]
theorem b_m1 : ∀ i, i < 32 → bt (-1) i = true := by decide +kernel
theorem b_0 (i : Nat) : bt 0 i = false := BitVec.getLsbD_zero
theorem s_l : ∀ n, n < 32 → ((nI n &&& 31).toBitVec.smod 32).toNat = n := by decide +kernel
theorem s_u : ∀ n, n < 32 → (((nI n).toUInt32 &&& Int32.toUInt32 31).toBitVec % 32).toNat = n := by decide +kernel
theorem b_shl (n : Nat) (hn : n < 32) (x : Int32) {i : Nat} (hi : i < 32) : bt (x <<< (nI n &&& 31)) i = (decide (n ≤ i) && bt x (i - n)) := by
  unfold bt
  rw [Int32.toBitVec_shiftLeft]
  show (x.toBitVec <<< ((nI n &&& 31).toBitVec.smod 32).toNat).getLsbD i = _
  rw [s_l n hn, BitVec.getLsbD_shiftLeft]
  rcases Nat.lt_or_ge i n with h | h
  · simp [h, Nat.not_le.mpr h]
  · simp [hi, h, Nat.not_lt.mpr h]
theorem b_ushr (n : Nat) (hn : n < 32) (x : Int32) (i : Nat) : bt ((x.toUInt32 >>> ((nI n).toUInt32 &&& Int32.toUInt32 31)).toInt32) i = bt x (n + i) := by
  show (x.toUInt32 >>> ((nI n).toUInt32 &&& Int32.toUInt32 31)).toBitVec.getLsbD i = x.toUInt32.toBitVec.getLsbD (n + i)
  rw [UInt32.toBitVec_shiftRight]
  show (x.toUInt32.toBitVec >>> (((nI n).toUInt32 &&& Int32.toUInt32 31).toBitVec % 32).toNat).getLsbD i = _
  rw [s_u n hn, BitVec.getLsbD_ushiftRight]
theorem b_sshr (n : Nat) (hn : n < 32) (x : Int32) {i : Nat} (hi : i < 32) : bt (x >>> (nI n &&& 31)) i = if n + i < 32 then bt x (n + i) else bt x 31 := by
  unfold bt
  rw [Int32.toBitVec_shiftRight]
  show (x.toBitVec.sshiftRight ((nI n &&& 31).toBitVec.smod 32).toNat).getLsbD i = _
  rw [s_l n hn, BitVec.getLsbD_sshiftRight, BitVec.msb_eq_getLsbD_last]
  simp [hi]
/-! PURE: bits, loops of both sides -/
theorem b_1 : ∀ i, i < 32 → bt 1 i = decide (i = 0) := by decide +kernel
theorem bt_test (x : Int32) (k : Nat) (hk : k < 32) : ((x >>> (nI k &&& 31)) &&& 1) = 0 ↔ bt x k = false := by
  constructor
  · intro h
    have := congrArg (fun y => bt y 0) h
    simp only [b_and, b_0] at this
    rw [b_sshr k hk x (by decide), b_1 0 (by decide), if_pos (by omega)] at this
    simpa using this
  · intro h
    refine b_ext fun i hi => ?_
    rw [b_and, b_0, b_1 i hi]
    by_cases z : i = 0
    · subst z
      rw [b_sshr k hk x (by decide), if_pos (by omega), show k + 0 = k from rfl, h]
      rfl
    · rw [decide_eq_false z, Bool.and_false]
theorem bt_one (j k : Nat) (hj : j < 32) (hk : k < 32) : bt ((1 : Int32) <<< (nI j &&& 31)) k = decide (j = k) := by
  rw [b_shl j hj 1 hk, b_1 _ (by omega)]
  by_cases z : j = k
  · subst z; simp
  · rw [decide_eq_false z]
    rcases Nat.lt_or_ge k j with q | q
    · rw [decide_eq_false (by omega), Bool.false_and]
    · rw [decide_eq_false (show ¬ k - j = 0 by omega), Bool.and_false]
theorem bt_set (x : Int32) (j k : Nat) (hj : j < 32) (hk : k < 32) : bt (x ||| ((1 : Int32) <<< (nI j &&& 31))) k = (bt x k || decide (j = k)) := by rw [b_or, bt_one j k hj hk]
theorem bt_andnot (x y : Int32) : (x &&& (y ^^^ (-1))) = 0 ↔ ∀ i, i < 32 → bt x i = true → bt y i = true := by
  constructor
  · intro h i hi hx
    have := congrArg (fun z => bt z i) h
    simp only [b_and, b_xor, b_0, b_m1 i hi, hx] at this
    simpa using this
  · intro h
    refine b_ext fun i hi => ?_
    rw [b_and, b_xor, b_0, b_m1 i hi]
    by_cases q : bt x i = true
    · rw [h i hi q]; simp
    · rw [Bool.eq_false_iff.mpr q]; rfl
theorem bt_and1 (x : Int32) (j : Nat) (hj : j < 32) : (x &&& ((1 : Int32) <<< (nI j &&& 31))) = 0 ↔ bt x j = false := by
  constructor
  · intro h
    have := congrArg (fun y => bt y j) h
    simp only [b_and, b_0, bt_one j j hj hj] at this
    simpa using this
  · intro h
    refine b_ext fun i hi => ?_
    rw [b_and, b_0, bt_one j i hj hi]
    by_cases z : j = i
    · subst z; rw [h]; rfl
    · rw [decide_eq_false z, Bool.and_false]
theorem bt_full : ∀ nt, nt < 6 → ∀ i, i < 32 → bt (((1 : Int32) <<< (nI nt &&& 31)) - 1) i = decide (i < nt) := by decide +kernel
theorem bt_route : ∀ hi, hi < 7 → ∀ lo, lo < 7 → ∀ k, k < 7 → lo ≤ hi → bt (((1 : Int32) <<< (nI hi &&& 31)) - ((1 : Int32) <<< (nI lo &&& 31))) k = decide (lo ≤ k ∧ k < hi) := by decide +kernel
/-- two loops, step by step -/
theorem jl1 {α β : Type} {bc : (Int32 → Sg → Option α) → Int32 → Sg → Option α} {br : (Int32 → Sg → Option β) → Int32 → Sg → Option β} (N : Nat) (P : Nat → Sg → Sg → Prop)
    (hs : ∀ i σ τ, i < N → P i σ τ → ∃ σ' τ', (∀ k, bc k (nI i) σ = k (nI (i + 1)) σ') ∧ (∀ k, br k (nI i) τ = k (nI (i + 1)) τ') ∧ P (i + 1) σ' τ') :
    ∀ d i fc fr σ τ, i + d = N → d < fc → d < fr → P i σ τ → ∃ σ' τ' fc' fr', lq1 bc fc (nI i) σ = bc (lq1 bc fc') (nI N) σ' ∧ lq1 br fr (nI i) τ = br (lq1 br fr') (nI N) τ' ∧ P N σ' τ' := by
  intro d
  induction d with
  | zero =>
    intro i fc fr σ τ h h1 h2 hP
    obtain ⟨fc, rfl⟩ : ∃ k, fc = k + 1 := ⟨fc - 1, by omega⟩
    obtain ⟨fr, rfl⟩ : ∃ k, fr = k + 1 := ⟨fr - 1, by omega⟩
    obtain rfl : i = N := by omega
    exact ⟨σ, τ, fc, fr, rfl, rfl, hP⟩
  | succ d ih =>
    intro i fc fr σ τ h h1 h2 hP
    obtain ⟨fc, rfl⟩ : ∃ k, fc = k + 1 := ⟨fc - 1, by omega⟩
    obtain ⟨fr, rfl⟩ : ∃ k, fr = k + 1 := ⟨fr - 1, by omega⟩
    obtain ⟨σ1, τ1, e1, e2, hP1⟩ := hs i σ τ (by omega) hP
    obtain ⟨σ2, τ2, fc', fr', e3, e4, hP2⟩ := ih (i + 1) fc fr σ1 τ1 (by omega) (by omega) (by omega) hP1
    exact ⟨σ2, τ2, fc', fr', (e1 _).trans e3, (e2 _).trans e4, hP2⟩
theorem jl2 {α β : Type} {bc : (Int32 → Int32 → Sg → Option α) → Int32 → Int32 → Sg → Option α} {br : (Int32 → Sg → Option β) → Int32 → Sg → Option β} (N : Nat) (P : Nat → Int32 → Sg → Sg → Prop)
    (hs : ∀ i v σ τ, i < N → P i v σ τ → ∃ v' σ' τ', (∀ k, bc k v (nI i) σ = k v' (nI (i + 1)) σ') ∧ (∀ k, br k (nI i) τ = k (nI (i + 1)) τ') ∧ P (i + 1) v' σ' τ') :
    ∀ d i fc fr v σ τ, i + d = N → d < fc → d < fr → P i v σ τ → ∃ v' σ' τ' fc' fr', lq2 bc fc v (nI i) σ = bc (lq2 bc fc') v' (nI N) σ' ∧ lq1 br fr (nI i) τ = br (lq1 br fr') (nI N) τ' ∧ P N v' σ' τ' := by
  intro d
  induction d with
  | zero =>
    intro i fc fr v σ τ h h1 h2 hP
    obtain ⟨fc, rfl⟩ : ∃ k, fc = k + 1 := ⟨fc - 1, by omega⟩
    obtain ⟨fr, rfl⟩ : ∃ k, fr = k + 1 := ⟨fr - 1, by omega⟩
    obtain rfl : i = N := by omega
    exact ⟨v, σ, τ, fc, fr, rfl, rfl, hP⟩
  | succ d ih =>
    intro i fc fr v σ τ h h1 h2 hP
    obtain ⟨fc, rfl⟩ : ∃ k, fc = k + 1 := ⟨fc - 1, by omega⟩
    obtain ⟨fr, rfl⟩ : ∃ k, fr = k + 1 := ⟨fr - 1, by omega⟩
    obtain ⟨v1, σ1, τ1, e1, e2, hP1⟩ := hs i v σ τ (by omega) hP
    obtain ⟨v2, σ2, τ2, fc', fr', e3, e4, hP2⟩ := ih (i + 1) fc fr v1 σ1 τ1 (by omega) (by omega) (by omega) hP1
    exact ⟨v2, σ2, τ2, fc', fr', (e1 _).trans e3, (e2 _).trans e4, hP2⟩
/-- one loop -/
theorem sl1 {α : Type} {b : (Int32 → Sg → Option α) → Int32 → Sg → Option α} (N : Nat) (P : Nat → Sg → Prop)
    (hs : ∀ i σ, i < N → P i σ → ∃ σ', (∀ k, b k (nI i) σ = k (nI (i + 1)) σ') ∧ P (i + 1) σ') :
    ∀ d i fu σ, i + d = N → d < fu → P i σ → ∃ σ' fu', lq1 b fu (nI i) σ = b (lq1 b fu') (nI N) σ' ∧ P N σ' := by
  intro d
  induction d with
  | zero =>
    intro i fu σ h h1 hP
    obtain ⟨fu, rfl⟩ : ∃ k, fu = k + 1 := ⟨fu - 1, by omega⟩
    obtain rfl : i = N := by omega
    exact ⟨σ, fu, rfl, hP⟩
  | succ d ih =>
    intro i fu σ h h1 hP
    obtain ⟨fu, rfl⟩ : ∃ k, fu = k + 1 := ⟨fu - 1, by omega⟩
    obtain ⟨σ1, e1, hP1⟩ := hs i σ (by omega) hP
    obtain ⟨σ2, fu', e3, hP2⟩ := ih (i + 1) fu σ1 (by omega) (by omega) hP1
    exact ⟨σ2, fu', (e1 _).trans e3, hP2⟩
theorem sl2 {α A : Type} {b : (A → Int32 → Sg → Option α) → A → Int32 → Sg → Option α} (N : Nat) (P : Nat → A → Sg → Prop)
    (hs : ∀ i v σ, i < N → P i v σ → ∃ v' σ', (∀ k, b k v (nI i) σ = k v' (nI (i + 1)) σ') ∧ P (i + 1) v' σ') :
    ∀ d i fu v σ, i + d = N → d < fu → P i v σ → ∃ v' σ' fu', lq2 b fu v (nI i) σ = b (lq2 b fu') v' (nI N) σ' ∧ P N v' σ' := by
  intro d
  induction d with
  | zero =>
    intro i fu v σ h h1 hP
    obtain ⟨fu, rfl⟩ : ∃ k, fu = k + 1 := ⟨fu - 1, by omega⟩
    obtain rfl : i = N := by omega
    exact ⟨v, σ, fu, rfl, hP⟩
  | succ d ih =>
    intro i fu v σ h h1 hP
    obtain ⟨fu, rfl⟩ : ∃ k, fu = k + 1 := ⟨fu - 1, by omega⟩
    obtain ⟨v1, σ1, e1, hP1⟩ := hs i v σ (by omega) hP
    obtain ⟨v2, σ2, fu', e3, hP2⟩ := ih (i + 1) fu v1 σ1 (by omega) (by omega) hP1
    exact ⟨v2, σ2, fu', (e1 _).trans e3, hP2⟩
theorem sl3 {α A B : Type} {b : (A → B → Int32 → Sg → Option α) → A → B → Int32 → Sg → Option α} (N : Nat) (P : Nat → A → B → Sg → Prop)
    (hs : ∀ i v w σ, i < N → P i v w σ → ∃ v' w' σ', (∀ k, b k v w (nI i) σ = k v' w' (nI (i + 1)) σ') ∧ P (i + 1) v' w' σ') :
    ∀ d i fu v w σ, i + d = N → d < fu → P i v w σ → ∃ v' w' σ' fu', lq3 b fu v w (nI i) σ = b (lq3 b fu') v' w' (nI N) σ' ∧ P N v' w' σ' := by
  intro d
  induction d with
  | zero =>
    intro i fu v w σ h h1 hP
    obtain ⟨fu, rfl⟩ : ∃ k, fu = k + 1 := ⟨fu - 1, by omega⟩
    obtain rfl : i = N := by omega
    exact ⟨v, w, σ, fu, rfl, hP⟩
  | succ d ih =>
    intro i fu v w σ h h1 hP
    obtain ⟨fu, rfl⟩ : ∃ k, fu = k + 1 := ⟨fu - 1, by omega⟩
    obtain ⟨v1, w1, σ1, e1, hP1⟩ := hs i v w σ (by omega) hP
    obtain ⟨v2, w2, σ2, fu', e3, hP2⟩ := ih (i + 1) fu v1 w1 σ1 (by omega) (by omega) hP1
    exact ⟨v2, w2, σ2, fu', (e1 _).trans e3, hP2⟩
/-- a loop that looks for the first of a kind -/
theorem fl1 {α : Type} {b : (Int32 → Sg → Option α) → Int32 → Sg → Option α} {σ : Sg} (N : Nat) (c : Nat → Prop) (r : Nat → Option α)
    (h1 : ∀ i, i < N → ¬ c i → ∀ k, b k (nI i) σ = k (nI (i + 1)) σ) (h2 : ∀ i, i < N → c i → ∀ k, b k (nI i) σ = r i) :
    ∀ d i fu, i + d = N → d < fu → (∃ j, i ≤ j ∧ j < N ∧ c j ∧ (∀ q, i ≤ q → q < j → ¬ c q) ∧ lq1 b fu (nI i) σ = r j) ∨ (∀ j, i ≤ j → j < N → ¬ c j) ∧ ∃ fu', lq1 b fu (nI i) σ = b (lq1 b fu') (nI N) σ := by
  intro d
  induction d with
  | zero =>
    intro i fu h hf
    obtain ⟨fu, rfl⟩ : ∃ k, fu = k + 1 := ⟨fu - 1, by omega⟩
    obtain rfl : i = N := by omega
    exact Or.inr ⟨fun j a b => by omega, fu, rfl⟩
  | succ d ih =>
    intro i fu h hf
    obtain ⟨fu, rfl⟩ : ∃ k, fu = k + 1 := ⟨fu - 1, by omega⟩
    by_cases q : c i
    · exact Or.inl ⟨i, Nat.le_refl i, by omega, q, fun z a b => by omega, h2 i (by omega) q _⟩
    · have e := h1 i (by omega) q (lq1 b fu)
      rcases ih (i + 1) fu (by omega) (by omega) with ⟨j, a1, a2, a3, a4, a5⟩ | ⟨a1, fu', a2⟩
      · refine Or.inl ⟨j, by omega, a2, a3, fun z z1 z2 => ?_, e.trans a5⟩
        by_cases y : z = i
        · subst y; exact q
        · exact a4 z (by omega) z2
      · refine Or.inr ⟨fun z z1 z2 => ?_, fu', e.trans a2⟩
        by_cases y : z = i
        · subst y; exact q
        · exact a1 z (by omega) z2
theorem fl1' {α : Type} {b : (Int32 → Sg → Option α) → Int32 → Sg → Option α} {σ : Sg} (N : Nat) (hN : N < 1000) (c : Nat → Prop) (r e : Option α)
    (h1 : ∀ i, i < N → ¬ c i → ∀ k, b k (nI i) σ = k (nI (i + 1)) σ) (h2 : ∀ i, i < N → c i → ∀ k, b k (nI i) σ = r) (h3 : ∀ k, b k (nI N) σ = e) :
    (∃ j, j < N ∧ c j) ∧ lq1 b FU 0 σ = r ∨ (∀ j, j < N → ¬ c j) ∧ lq1 b FU 0 σ = e := by
  rcases fl1 N c (fun _ => r) h1 h2 N 0 FU (by omega) (by rw [FU_s]; omega) with ⟨j, -, a2, a3, -, a5⟩ | ⟨a1, fu', a2⟩
  · exact Or.inl ⟨⟨j, a2, a3⟩, a5⟩
  · exact Or.inr ⟨fun j hj => a1 j (by omega) hj, a2.trans (h3 _)⟩
