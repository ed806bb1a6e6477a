def obT : List (List Int32) := [[0, 0, 0, 0, 0, 0], [0, 0, 0, 0], [0, 0, 0, 0, 0, 0, 0, 0, 0, 0, 0, 0, 0, 0, 0], [0, 0, 0, 0, 0, 0], [3, 0, 0], [], [], [0, 0, 0, 0, 0, 0], [], [], [], [], [], [0, 0, 0, 0, 0, 0, 0], [], [], [], [], [], [], [], [], [0, 0, 0, 0, 0, 0, 0, -1, -1, -1, -1, 0, 0], [], [], [], [], [], [], [], [], [], [], [], [], [], [], [0, -1, -1, 0, 501, 0, 0, 0], [], [], [], [1, -1, -1, 0, 501, 0, 0, 0], [], [], [], [2, -1, -1, 0, 501, 0, 0, 0], [], [], [], [3, -1, -1, 0, 501, 0, 0, 0], [], [], [], [4, -1, -1, 0, 501, 0, 0, 0], [], [], [], [], [0, 0, 0], [], [0, 0, 0, 0, 0, 0], [3, 0, 0], [], [], [0, 0, 0, 0, 0, 0], [], [], [], [], [], [0, 0, 0, 0, 0, 0, 0], [], [], [], [], [], [], [], [], [0, 0, 0, 0, 0, 0], [3, 0, 0], [], [], [0, 0, 0, 0, 0, 0], [], [], [], [], [], [0, 0, 0, 0, 0, 0, 0], [], [], [], [], [], [], [], [], [0, 0, 0, 0, 0, 0], [3, 0, 0], [], [], [0, 0, 0, 0, 0, 0], [], [], [], [], [], [0, 0, 0, 0, 0, 0, 0], [], [], [], [], [], [], [], [], [0, 0, 0, 0, 0, 0], [3, 0, 0], [], [], [0, 0, 0, 0, 0, 0], [], [], [], [], [], [0, 0, 0, 0, 0, 0, 0], [], [], [], [], [], [], [], [], [0, 0, 0, 0, 0, 0], [3, 0, 0], [], [], [0, 0, 0, 0, 0, 0], [], [], [], [], [], [0, 0, 0, 0, 0, 0, 0], [], [], [], [], [], [], [], [], [0, 0, 0, 0, 0, 0], [3, 0, 0], [], [], [0, 0, 0, 0, 0, 0], [], [], [], [], [], [0, 0, 0, 0, 0, 0, 0], [], [], [], [], [], [], [], [], [0, 0, 0, 0, 0, 0], [3, 0, 0], [], [], [0, 0, 0, 0, 0, 0], [], [], [], [], [], [0, 0, 0, 0, 0, 0, 0], [], [], [], [], [], [], [], [], [0, 0, 0, 0, 0, 0], [3, 0, 0], [], [], [0, 0, 0, 0, 0, 0], [], [], [], [], [], [0, 0, 0, 0, 0, 0, 0], [], [], [], [], [], [], [], [], [0, 0, 0, 0, 0, 0], [3, 0, 0], [], [], [0, 0, 0, 0, 0, 0], [], [], [], [], [], [0, 0, 0, 0, 0, 0, 0], [], [], [], [], [], [], [], [], [0, 0, 0, 0, 0, 0], [3, 0, 0], [], [], [0, 0, 0, 0, 0, 0], [], [], [], [], [], [0, 0, 0, 0, 0, 0, 0], [], [], [], [], [], [], [], [], [0, 0, 0, 0, 0, 0], [3, 0, 0], [], [], [0, 0, 0, 0, 0, 0], [], [], [], [], [], [0, 0, 0, 0, 0, 0, 0], [], [], [], [], [], [], [], [], [0, 0, 0, 0, 0, 0], [3, 0, 0], [], [], [0, 0, 0, 0, 0, 0], [], [], [], [], [], [0, 0, 0, 0, 0, 0, 0], [], [], [], [], [], [], [], [], [0, 0, 0, 0, 0, 0], [3, 0, 0], [], [], [0, 0, 0, 0, 0, 0], [], [], [], [], [], [0, 0, 0, 0, 0, 0, 0], [], [], [], [], [], [], [], [], [0, 0, 0, 0, 0, 0], [3, 0, 0], [], [], [0, 0, 0, 0, 0, 0], [], [], [], [], [], [0, 0, 0, 0, 0, 0, 0], [], [], [], [], [], [], [], [], [0, 0, 0, 0, 0, 0], [3, 0, 0], [], [], [0, 0, 0, 0, 0, 0], [], [], [], [], [], [0, 0, 0, 0, 0, 0, 0], [], [], [], [], [], [], [], [], [0, 0, 0, 0, 0, 0], [3, 0, 0], [], [], [0, 0, 0, 0, 0, 0], [], [], [], [], [], [0, 0, 0, 0, 0, 0, 0], [], [], [], [], [], [], [], [], [], [0, 0, 0], [], [0, 0, 0], [], [0, 0, 0], [], [0, 0, 0], [], [0, 0, 0, 0, 0, 0, 0, 0, 0, 0, 0, 0, 0, 0, 0, 0, 0, 0, 0, 0, 0, 0, 0, 0, 0, 0, 0, 0, 0, 0, 0, 0, 0, 0, 0, 0, 0, 0, 0, 0, 0], [], [], [], [], [], [], [], [], [], [], [], [], [], [], [], [], [], [], [], [], [], [], [], [], []]
def frT : List Nat := [0, 0, 0, 0, 0, 1, 1, 0, 0, 0, 0, 0, 0, 0, 0, 0, 0, 0, 0, 0, 0, 0, 0, 0, 0, 0, 0, 0, 0, 0, 0, 0, 0, 0, 0, 0, 0, 0, 0, 0, 0, 0, 0, 0, 0, 0, 0, 0, 0, 0, 0, 0, 0, 0, 0, 0, 0, 0, 0, 0, 0, 0, 1, 1, 0, 0, 0, 0, 0, 0, 0, 0, 0, 0, 0, 0, 0, 0, 0, 0, 0, 1, 1, 0, 0, 0, 0, 0, 0, 0, 0, 0, 0, 0, 0, 0, 0, 0, 0, 0, 1, 1, 0, 0, 0, 0, 0, 0, 0, 0, 0, 0, 0, 0, 0, 0, 0, 0, 0, 1, 1, 0, 0, 0, 0, 0, 0, 0, 0, 0, 0, 0, 0, 0, 0, 0, 0, 0, 1, 1, 0, 0, 0, 0, 0, 0, 0, 0, 0, 0, 0, 0, 0, 0, 0, 0, 0, 1, 1, 0, 0, 0, 0, 0, 0, 0, 0, 0, 0, 0, 0, 0, 0, 0, 0, 0, 1, 1, 0, 0, 0, 0, 0, 0, 0, 0, 0, 0, 0, 0, 0, 0, 0, 0, 0, 1, 1, 0, 0, 0, 0, 0, 0, 0, 0, 0, 0, 0, 0, 0, 0, 0, 0, 0, 1, 1, 0, 0, 0, 0, 0, 0, 0, 0, 0, 0, 0, 0, 0, 0, 0, 0, 0, 1, 1, 0, 0, 0, 0, 0, 0, 0, 0, 0, 0, 0, 0, 0, 0, 0, 0, 0, 1, 1, 0, 0, 0, 0, 0, 0, 0, 0, 0, 0, 0, 0, 0, 0, 0, 0, 0, 1, 1, 0, 0, 0, 0, 0, 0, 0, 0, 0, 0, 0, 0, 0, 0, 0, 0, 0, 1, 1, 0, 0, 0, 0, 0, 0, 0, 0, 0, 0, 0, 0, 0, 0, 0, 0, 0, 1, 1, 0, 0, 0, 0, 0, 0, 0, 0, 0, 0, 0, 0, 0, 0, 0, 0, 0, 1, 1, 0, 0, 0, 0, 0, 0, 0, 0, 0, 0, 0, 0, 0, 0, 0, 0, 0, 1, 1, 0, 0, 0, 0, 0, 0, 0, 0, 0, 0, 0, 0, 0, 0, 0, 0, 0, 0, 0, 0, 0, 0, 0, 0, 0, 2, 0, 0, 0, 0, 0, 0, 0, 0, 0, 0, 0, 0, 0, 0, 0, 0, 0, 0, 0, 0, 0, 0, 0, 0]
def nowI (j : Nat) : Int32 := if 101 ≤ j ∧ j < 161 then -1 else if 8 ≤ j ∧ j < 14 then 10 else if 1 ≤ j ∧ j < 8 then 10 else if j = 0 then 3 else 0
/-- the first numbers of all cells -/
def sg0 : Sg := fun k j => if kd k < 12 then (obT.getD k []).getD j 0 else if frT.getD k 0 = 1 then (if j < ln k then 10 else 0) else if frT.getD k 0 = 2 then nowI j else 0
/-- as cel; of an array of references only what lies in it -/
def celX (M : Mc) (σ : Sg) (k : Nat) : va_E :=
  if kd k < 12 then .inr (kd k, (tm (kd k)).mapIdx fun j b => if b = true then .ref (adr M (rf k j)) else .int (σ k j))
  else if kd k < 16 then .inl (M.2.1 (kd k), ln k, .inl (σ k))
  else .inl (M.2.1 (kd k), ln k, .inr (.inr (.inr (.inr fun i => if i < ln k then some (adr M (rf k i)) else none))))
theorem celX_obj {M : Mc} {σ : Sg} {c k : Nat} (h : kd c = k) (hk : k < 12) : celX M σ c = .inr (k, (tm k).mapIdx fun j b => if b = true then .ref (adr M (rf c j)) else .int (σ c j)) := by
  unfold celX
  rw [h, if_pos hk]
theorem celX_arr0 {M : Mc} {c k N : Nat} (h : kd c = k ∧ ln c = N ∧ frT.getD c 0 = 0) (h1 : 12 ≤ k) (h2 : k < 16) : celX M sg0 c = .inl (M.2.1 k, N, .inl fun _ => 0) := by
  unfold celX
  rw [h.1, if_neg (by omega), if_pos h2, h.2.1]
  refine congrArg (fun z => Sum.inl (M.2.1 k, N, Sum.inl z)) (funext fun j => ?_)
  unfold sg0
  rw [h.1, if_neg (by omega), h.2.2, if_neg (by decide), if_neg (by decide)]
theorem celX_arr1 {M : Mc} {c N : Nat} (h : kd c = 13 ∧ ln c = N ∧ frT.getD c 0 = 1) : celX M sg0 c = .inl (M.2.1 13, N, .inl fun j => if j < N then 10 else 0) := by
  unfold celX
  rw [h.1, if_neg (by decide), if_pos (by decide), h.2.1]
  refine congrArg (fun z => Sum.inl (M.2.1 13, N, Sum.inl z)) (funext fun j => ?_)
  unfold sg0
  rw [h.1, if_neg (by decide), h.2.2, if_pos rfl, h.2.1]
theorem celX_arr2 {M : Mc} {c N : Nat} (h : kd c = 13 ∧ ln c = N ∧ frT.getD c 0 = 2) : celX M sg0 c = .inl (M.2.1 13, N, .inl nowI) := by
  unfold celX
  rw [h.1, if_neg (by decide), if_pos (by decide), h.2.1]
  refine congrArg (fun z => Sum.inl (M.2.1 13, N, Sum.inl z)) (funext fun j => ?_)
  unfold sg0
  rw [h.1, if_neg (by decide), h.2.2, if_neg (by decide), if_pos rfl]
theorem celX_rarr {M : Mc} {σ : Sg} {c k N : Nat} (h : kd c = k ∧ ln c = N) (h1 : 16 ≤ k) : celX M σ c = .inl (M.2.1 k, N, .inr (.inr (.inr (.inr fun i => if i < N then some (adr M (rf c i)) else none)))) := by
  unfold celX
  rw [h.1, if_neg (by omega), if_neg (by omega), h.2]
theorem sg0_obj {c k : Nat} {L : List Int32} (h : kd c = k) (hk : k < 12) (hL : obT.getD c [] = L) (j : Nat) : sg0 c j = L.getD j 0 := by
  unfold sg0
  rw [h, if_pos hk, hL]
/-- what a constructor of cell c leaves -/
def mix (M : Mc) (c : Nat) (cf : Nat → va_E) : Nat → va_E := fun q => if q < c then cf q else celX M sg0 q
theorem fin0 {M : Mc} {c m k : Nat} {fs : List Value} {g cf : Nat → va_E} (h1 : celX M sg0 c = .inr (k, fs)) (h2 : ∀ q, c < q → q < m → g q = celX M sg0 q) : ∀ q, q < m → W0 c cf k fs g q = mix M c cf q := by
  intro q hq
  unfold W0 mix
  by_cases a : q < c
  · rw [if_pos a, if_pos a]
  · rw [if_neg a, if_neg a]
    by_cases b : q = c
    · rw [if_pos b, b, h1]
    · rw [if_neg b, h2 q (by omega) hq]
theorem ent0 {c k : Nat} {fs : List Value} {g cf : Nat → va_E} (h : cf c = .inr (k, fs)) : ∀ q, q < c + 1 → cf q = W0 c cf k fs g q := by
  intro q hq
  unfold W0
  by_cases a : q < c
  · rw [if_pos a]
  · have : q = c := by omega
    subst this
    rw [if_neg a, if_pos rfl, h]
theorem up_a {o n k : Nat} {fs : List Value} {g cf : Nat → va_E} {ev : va_E} (h : o < n) (hg : g n = ev) (m : Nat) : ∀ q, q < m → va_up (W0 o cf k fs g) n ev q = W0 o cf k fs g q := by
  intro q _
  unfold va_up
  by_cases a : q = n
  · subst a
    rw [if_pos rfl, W0_hi h, hg]
  · rw [if_neg a]
theorem up_b {o n k : Nat} {fs : List Value} {g cf : Nat → va_E} {ev : va_E} (h : o < n) (m : Nat) : ∀ q, q < m → va_up (W0 o cf k fs g) n ev q = W0 o cf k fs (va_up g n ev) q := by
  intro q _
  unfold va_up W0
  by_cases a : q = n
  · subst a
    rw [if_pos rfl, if_neg (by omega), if_neg (by omega)]
    exact (if_pos rfl).symm
  · rw [if_neg a]
    by_cases b : q < o
    · rw [if_pos b, if_pos b]
    · rw [if_neg b, if_neg b]
      by_cases d : q = o
      · rw [if_pos d, if_pos d]
      · rw [if_neg d, if_neg d]
        exact (if_neg a).symm
theorem up_c {M : Mc} {o n k m : Nat} {fs : List Value} {g cf : Nat → va_E} {ev : va_E} (h : o < n) (hg : ∀ q, n ≤ q → q < m → g q = celX M sg0 q) : ∀ q, q < m → mix M n (W0 o cf k fs (va_up g n ev)) q = W0 o cf k fs g q := by
  intro q hq
  unfold mix
  by_cases a : q < n
  · rw [if_pos a]
    unfold W0 va_up
    rw [if_neg (show ¬ q = n by omega)]
  · rw [if_neg a, W0_hi (by omega), hg q (by omega) hq]
theorem up_d {o k a : Nat} {fs : List Value} {g cf : Nat → va_E} {ev ew : va_E} (h : o < a) (m : Nat) : ∀ q, q < m → va_up (W0 o cf k fs (va_up g a ev)) a ew q = W0 o cf k fs (va_up g a ew) q := by
  intro q hq
  rw [up_b h m q hq]
  unfold W0
  by_cases b : q < o
  · rw [if_pos b, if_pos b]
  · rw [if_neg b, if_neg b]
    by_cases d : q = o
    · rw [if_pos d, if_pos d]
    · rw [if_neg d, if_neg d]
      unfold va_up
      by_cases x : q = a
      · rw [if_pos x, if_pos x]
      · rw [if_neg x, if_neg x, if_neg x]
theorem ov_ok {g : Nat → va_E} {a : Nat} {ev : va_E} (h : ev = g a) (q : Nat) : va_up g a ev q = g q := by
  unfold va_up
  split
  · rename_i b
    rw [b, h]
  · rfl
def mpx {α β : Type} (f : Nat → α → β) : Nat → List α → List β
  | _, [] => []
  | i, a :: l => f i a :: mpx f (i + 1) l
theorem mpx_eq {α β : Type} (f : Nat → α → β) (l : List α) : ∀ i, mpx f i l = l.mapIdx (fun j a => f (i + j) a) := by
  induction l with
  | nil => intro i; simp [mpx]
  | cons a l ih =>
    intro i
    rw [mpx, ih, List.mapIdx_cons]
    simp [Nat.add_assoc, Nat.add_comm 1]
theorem mp_eq {α β : Type} (f : Nat → α → β) (l : List α) : l.mapIdx f = mpx f 0 l := by
  rw [mpx_eq]
  simp
theorem Ex.add {M : Mc} (h : Ex M) (a k : Nat) : adr M (a + k) = adr M a + k := by
  induction k with
  | zero => rfl
  | succ k ih => rw [← Nat.add_assoc, h, ih]; omega
theorem Ex.at {M : Mc} (h : Ex M) {S a k n : Nat} (hS : S = adr M a) (hk : a + k = n) : S + k = adr M n := by
  rw [hS, ← hk, h.add]
def flx (off i : Nat) (v : Int32) (f : Nat → Int32) : Nat → Int32 := fun j => if off ≤ j ∧ j < off + i then v else f j
theorem flx_0 (off : Nat) (v : Int32) (f : Nat → Int32) : flx off 0 v f = f := by
  funext j
  unfold flx
  rw [if_neg (by omega)]
theorem flx_s (off i : Nat) (v : Int32) (f : Nat → Int32) : upd (flx off i v f) (off + i) v = flx off (i + 1) v f := by
  funext j
  unfold upd flx
  by_cases a : j = off + i
  · rw [if_pos a, if_pos (by omega)]
  · rw [if_neg a]
    by_cases b : off ≤ j ∧ j < off + i
    · rw [if_pos b, if_pos (by omega)]
    · rw [if_neg b, if_neg (by omega)]
theorem now_ok : flx 101 60 (-1) (flx 8 6 10 (flx 1 7 10 (upd (fun _ => 0) 0 3))) = nowI := rfl
