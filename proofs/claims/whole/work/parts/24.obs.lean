/-! PURE: what a day shows, and when what is kept of one is right -/
/-- what train t of the line g adds to the delay; f: when each went off -/
def dlt (g f : Nat → Int32) (t : Nat) : Int32 := if f t < 0 then 1000 else f t - g (19 + 5 * t) - (if g (15 + 5 * t) = 3 then 2 * cb (fun k => g (8 + k)) (g (16 + 5 * t)).toNatClampNeg (g (17 + 5 * t)).toNatClampNeg else cb (fun k => g (8 + k)) (g (16 + 5 * t)).toNatClampNeg (g (17 + 5 * t)).toNatClampNeg)
def dl (g f : Nat → Int32) : Nat → Int32
  | 0 => 0
  | t + 1 => dl g f t + dlt g f t
def Mo (τ : Sg) (a b s : Int32) : Prop := τ 373 32 = a ∧ τ 373 33 = b ∧ τ 373 34 = s
def On (τ : Sg) (g : Nat → Int32) : Prop := ∀ k, k < 174 → τ 374 k = g k
/-- the class's book in σ shows what the reference's day in τ shows; nt trains -/
def Obs (nt : Nat) (σ τ : Sg) : Prop :=
  (∀ t m, t < nt → m ≤ 500 → (if σ 22 0 ≤ nI m then (300 : Int32) else σ 23 (501 * t + m)) = τ 389 (501 * t + m)) ∧
  (∀ t m, t < nt → m ≤ 500 → (if σ 22 0 ≤ nI m then (-1 : Int32) else σ 24 (501 * t + m)) = (if τ 390 (501 * t + m) = -100006 then -1 else τ 390 (501 * t + m)) ∧ τ 390 (501 * t + m) ≠ -1) ∧
  (∀ t q, t < nt → q < 7 → σ 25 (7 * t + q) = τ 386 (7 * t + q) ∧ (τ 386 (7 * t + q) = -1 ∨ ¬ τ 386 (7 * t + q) < 0)) ∧
  (∀ t q, t < nt → q < 7 → σ 26 (7 * t + q) = τ 387 (7 * t + q) ∧ (τ 387 (7 * t + q) = -1 ∨ ¬ τ 387 (7 * t + q) < 0)) ∧
  σ 22 6 = τ 373 25 ∧
  (τ 373 25 ≠ 0 → (σ 22 7 = τ 373 26 ∧ σ 22 8 = τ 373 27 ∧ σ 22 9 = τ 373 28 ∧ σ 22 10 = τ 373 29) ∧ τ 373 30 = τ 373 26 ∧ (∃ m, m ≤ 500 ∧ τ 373 26 = nI m) ∧ ∃ a b, a < b ∧ b < nt ∧ τ 373 28 = nI a ∧ τ 373 29 = nI b) ∧
  σ 22 11 = τ 373 31 ∧ σ 22 12 = dl (τ 374) (τ 385) nt ∧ σ 22 0 ≤ nI 501
/-- the class's day is kept: it is right for the line g -/
def GoodC (nt : Nat) (g : Nat → Int32) (σ : Sg) : Prop := σ 2 2 = 0 ∨ (σ 2 2 = 1 ∧ ∀ τ τ1, On τ g → Mo τ (-1) (-1) (-1) → fX11_runs 373 τ = some ((), τ1) → Obs nt σ τ1)
def GoodR (nt : Nat) (g : Nat → Int32) (τ : Sg) : Prop := τ 373 9 = 0 ∨ (τ 373 9 = 1 ∧ ∀ σ σ1, LR σ 3 g → Own σ → fX0_play 2 (-1) (-1) (-1) σ = some ((), σ1) → Obs nt σ1 τ)
def PrIs (nt : Nat) (g : Nat → Int32) (a b s : Nat) (v : Int32) : Prop := ∀ τ τ1, On τ g → (Mo τ (nI a) (nI b) (nI s) ∨ Mo τ (nI b) (nI a) (nI s)) → fX11_runs 373 τ = some ((), τ1) → v = 100000 * τ1 373 25 + dl (τ1 374) (τ1 385) nt
def GoodP (n nt : Nat) (g : Nat → Int32) (σ : Sg) : Prop := σ 1 3 = 0 ∨ (σ 1 3 = 1 ∧ ∀ a b s, a < b → b < nt → s < n → σ 57 ((a * 5 + b) * 7 + s) = -1 ∨ PrIs nt g a b s (σ 57 ((a * 5 + b) * 7 + s)))
def Inv (σ : Sg) : Prop := ∃ n nt no nf, LR σ 3 (σ 374) ∧ Wf (σ 374) n nt no nf ∧ Hist σ ∧ Shs σ ∧ σ 0 5 = σ 373 4 ∧ Own σ ∧ GoodC nt (σ 374) σ ∧ GoodR nt (σ 374) σ ∧ GoodP n nt (σ 374) σ
/-- class and reference answer alike, and all holds again -/
def Two (F G : Sg → Option (Int32 × Sg)) (σ : Sg) : Prop := ∃ r σ1 σ2, F σ = some (r, σ1) ∧ G σ1 = some (r, σ2) ∧ Inv σ2
