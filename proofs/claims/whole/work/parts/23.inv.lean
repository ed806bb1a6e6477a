/-! PURE: what holds between calls -/
/-- the class's line whose Line is cell L is the reference's line g (what was handed of orders that are not there may differ) -/
def LR (σ : Sg) (L : Nat) (g : Nat → Int32) : Prop :=
  (σ (L + 1) 0 = g 0 ∧ σ (L + 4) 0 = g 14 ∧ σ (L + 10) 0 = g 40 ∧ σ L 3 = g 161) ∧
  (∀ k, k < 7 → σ (L + 2) k = g (1 + k)) ∧ (∀ k, k < 6 → σ (L + 3) k = g (8 + k)) ∧
  (∀ t, t < 5 → (σ (L + 5) t = g (15 + 5 * t) ∧ σ (L + 6) t = g (16 + 5 * t) ∧ σ (L + 7) t = g (17 + 5 * t)) ∧ σ (L + 8) t = g (18 + 5 * t) ∧ σ (L + 9) t = g (19 + 5 * t)) ∧
  (∀ o, o < 12 → (σ (L + 11) o = g (41 + 5 * o) ∧ σ (L + 12) o = g (42 + 5 * o) ∧ σ (L + 13) o = g (43 + 5 * o)) ∧ σ (L + 14) o = g (44 + 5 * o) ∧ σ (L + 15) o = g (45 + 5 * o)) ∧
  (∀ o t, o < 12 → t < 5 → nI o < g 40 → σ (L + 16) (5 * o + t) = g (101 + 5 * o + t)) ∧
  (∀ k, k < 6 → σ (L + 17) k = g (162 + 2 * k) ∧ σ (L + 18) k = g (163 + 2 * k))
/-- order o is as the acts make it -/
def WfO (g : Nat → Int32) (n nt o : Nat) : Prop :=
  (∃ a b s, a < nt ∧ b < nt ∧ a ≠ b ∧ s < n ∧ g (41 + 5 * o) = 0 ∧ g (42 + 5 * o) = nI a ∧ g (43 + 5 * o) = nI b ∧ g (44 + 5 * o) = nI s ∧ g (45 + 5 * o) = 0) ∨
  (∃ a v, a < nt ∧ 1 ≤ v ∧ v ≤ 120 ∧ g (41 + 5 * o) = 1 ∧ g (42 + 5 * o) = nI a ∧ g (43 + 5 * o) = -1 ∧ g (44 + 5 * o) = -1 ∧ g (45 + 5 * o) = nI v) ∨
  (∃ a s v, a < nt ∧ s < n ∧ v ≤ 400 ∧ g (41 + 5 * o) = 2 ∧ g (42 + 5 * o) = nI a ∧ g (43 + 5 * o) = -1 ∧ g (44 + 5 * o) = nI s ∧ g (45 + 5 * o) = nI v) ∨
  (∃ a v, a < nt ∧ v ≤ 400 ∧ g (41 + 5 * o) = 3 ∧ g (42 + 5 * o) = nI a ∧ g (43 + 5 * o) = -1 ∧ g (44 + 5 * o) = -1 ∧ g (45 + 5 * o) = nI v) ∨
  (∃ a, a < o ∧ g (41 + 5 * o) = 4 ∧ g (42 + 5 * o) = nI a ∧ g (43 + 5 * o) = -1 ∧ g (44 + 5 * o) = -1 ∧ g (45 + 5 * o) = 0)
/-- a train of the line -/
def WfT (g : Nat → Int32) (n t : Nat) : Prop :=
  ∃ k f d len tm, k < 4 ∧ f < n ∧ d < n ∧ f ≠ d ∧ 1 ≤ len ∧ len ≤ 30 ∧ tm ≤ 300 ∧ g (15 + 5 * t) = nI k ∧ g (16 + 5 * t) = nI f ∧ g (17 + 5 * t) = nI d ∧ g (18 + 5 * t) = nI len ∧ g (19 + 5 * t) = nI tm
/-- a line as the acts make it: n stations, nt trains, no orders, nf forced -/
def Wf (g : Nat → Int32) (n nt no nf : Nat) : Prop :=
  ((2 ≤ n ∧ n ≤ 7) ∧ nt ≤ 5 ∧ no ≤ 12 ∧ nf ≤ 6) ∧ (g 0 = nI n ∧ g 14 = nI nt ∧ g 40 = nI no ∧ g 161 = nI nf) ∧
  (∀ k, k < 7 → ∃ v, v ≤ 30 ∧ g (1 + k) = nI v) ∧ (∀ k, k < 6 → ∃ v, 1 ≤ v ∧ v ≤ 30 ∧ g (8 + k) = nI v) ∧
  (∀ t, t < nt → WfT g n t) ∧ (∀ o, o < no → WfO g n nt o) ∧
  (∀ o t, o < no → t < 5 → g (101 + 5 * o + t) = -1 ∨ ∃ m, m ≤ 400 ∧ g (101 + 5 * o + t) = nI m) ∧
  (∀ k, k < nf → ∃ t m, t < nt ∧ m ≤ 500 ∧ g (162 + 2 * k) = nI t ∧ g (163 + 2 * k) = nI m)
/-- what of earlier lines is kept -/
def Hist (σ : Sg) : Prop := ∃ nx ct : Nat, nx < 16 ∧ ct ≤ 16 ∧ (σ 58 1 = nI nx ∧ σ 58 2 = nI ct ∧ σ 373 2 = nI nx ∧ σ 373 3 = nI ct) ∧
  ∀ d, 1 ≤ d → d ≤ ct → LR σ (60 + 19 * ((nx + 16 - d) % 16)) (fun k => σ 375 (174 * ((nx + 16 - d) % 16) + k)) ∧ ∃ n nt no nf, Wf (fun k => σ 375 (174 * ((nx + 16 - d) % 16) + k)) n nt no nf
/-- the class's sheet s is cell shX s, its numbers cell shX s + 1 -/
def shX (s : Nat) : Nat := 365 + 2 * s
def mk8 (b : Int32) (v : Int32) : Int32 := if b = 8 then v &&& 255 else if b = 16 then v &&& 65535 else v
def nw8 (b : Int32) (v : Int32) : Int32 := if b = 8 then v.toInt8.toInt32 else if b = 16 then v.toInt16.toInt32 else v
def Shs (σ : Sg) : Prop := ∀ s, s < 4 → (σ 376 s = 0 ∨ σ 376 s = 8 ∨ σ 376 s = 16 ∨ σ 376 s = 32) ∧ σ (shX s) 0 = σ 376 s ∧ (∃ c, c ≤ 60 ∧ σ 377 s = nI c ∧ σ (shX s) 1 = nI c) ∧
  ∀ i, i < 60 → nw8 (σ 376 s) (σ 378 (60 * s + i)) = σ 378 (60 * s + i) ∧ σ (shX s + 1) i = mk8 (σ 376 s) (σ 378 (60 * s + i))
def Own (σ : Sg) : Prop := ∀ t, t < 5 → σ (37 + 4 * t) 0 = nI t
