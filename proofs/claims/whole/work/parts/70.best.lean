/-! PURE: best, proves -/
theorem nw_mk8 {x y : Int32} (h : x &&& 255 = y &&& 255) : x.toInt8 = y.toInt8 := by
  apply Int8.toBitVec_inj.mp
  rw [Int32.toBitVec_toInt8, Int32.toBitVec_toInt8]
  apply BitVec.eq_of_getLsbD_eq
  intro i hi
  have hb : bt x i = bt y i := by
    have := congrArg (fun z => bt z i) h
    simp only [b_and, b_255, decide_eq_true hi, Bool.and_true] at this
    exact this
  have e : ∀ z : Int32, (z.toBitVec.signExtend 8).getLsbD i = bt z i := by
    intro z
    rw [BitVec.getLsbD_signExtend]
    simp [hi, show i < 32 by omega, bt]
  rw [e, e, hb]
theorem nw_mk16 {x y : Int32} (h : x &&& 65535 = y &&& 65535) : x.toInt16 = y.toInt16 := by
  apply Int16.toBitVec_inj.mp
  rw [Int32.toBitVec_toInt16, Int32.toBitVec_toInt16]
  apply BitVec.eq_of_getLsbD_eq
  intro i hi
  have hb : bt x i = bt y i := by
    have := congrArg (fun z => bt z i) h
    simp only [b_and, b_65535, decide_eq_true hi, Bool.and_true] at this
    exact this
  have e : ∀ z : Int32, (z.toBitVec.signExtend 16).getLsbD i = bt z i := by
    intro z
    rw [BitVec.getLsbD_signExtend]
    simp [hi, show i < 32 by omega, bt]
  rw [e, e, hb]
theorem mk_iff {b x y : Int32} : mk8 b x = mk8 b y ↔ nw8 b x = nw8 b y := by
  constructor
  · unfold mk8 nw8
    by_cases h : b = 8
    · simp only [if_pos h]; exact fun q => by rw [nw_mk8 q]
    · simp only [if_neg h]
      by_cases h2 : b = 16
      · simp only [if_pos h2]; exact fun q => by rw [nw_mk16 q]
      · simp only [if_neg h2]; exact id
  · intro q
    rw [← mk_nw b x, ← mk_nw b y, q]
theorem GoodR_05 {nt : Nat} {g : Nat → Int32} {σ : Sg} {v : Int32} (h : GoodR nt g σ) : GoodR nt g (wr σ 0 5 v) := GoodR_congr (τ := σ) (fun c hc => funext fun i => (wr_c (by omega)).symm) (fun i _ _ => (wr_c (by decide)).symm) (wr_c (by decide)).symm h
theorem GoodR_MC {nt n : Nat} {g : Nat → Int32} {σ σ1 : Sg} (h : GoodR nt g σ) (hM : MC g n nt σ σ1) : GoodR nt g σ1 := GoodR_congr (τ := σ) (fun c hc => funext fun i => (hM.1 c i (by omega)).symm) (fun i _ _ => (hM.1 _ _ (by omega)).symm) (hM.1 _ _ (by omega)).symm h
/-- after mending, both sides: with a finding, and without -/
theorem mend_two {σ σ1 : Sg} {n nt no nf : Nat} {pv : Nat → Int32} (hI : Inv σ) (hW : Wf (σ 374) n nt no nf) (hV : PV (σ 374) n nt pv) (hM : MC (σ 374) n nt σ σ1) : (∃ σ2, fX11_findMeets 373 σ1 = some ((), σ2) ∧ RQ (σ 374) n nt pv σ1 175 σ2 ∧ Inv σ2) ∧ ∃ σ2, fX11_findMeets 373 (wr σ1 0 5 (σ1 0 5 + 1)) = some ((), σ2) ∧ RQ (σ 374) n nt pv (wr σ1 0 5 (σ1 0 5 + 1)) 175 σ2 ∧ Inv (wr σ2 373 4 (σ2 373 4 + 1)) := by
  have hGR := (hI.mc hW).2
  have h374 : σ1 374 = σ 374 := funext fun k => hM.1 _ _ (by omega)
  have h5 : σ1 0 5 = σ1 373 4 := by rw [hM.1 _ _ (by omega), hM.1 _ _ (by omega)]; exact hI.fd
  constructor
  · obtain ⟨σ2, e, hQ⟩ := r_findMeets (τ0 := σ1) hW (fun k _ => by rw [h374]) hV (GoodR_MC hGR hM)
    refine ⟨σ2, e, hQ, ?_⟩
    have hI2 : Inv (wr σ2 373 4 (σ1 0 5)) := Inv_mend hI hW hM (by rw [wr_self]; exact hQ.1)
    rwa [h5, ← hQ.1.2.1 4 (by decide) (by decide), wr_self] at hI2
  · obtain ⟨σ2, e, hQ⟩ := r_findMeets (τ0 := wr σ1 0 5 (σ1 0 5 + 1)) hW (fun k _ => by rw [wr_c (by decide), h374]) hV (GoodR_05 (GoodR_MC hGR hM))
    refine ⟨σ2, e, hQ, ?_⟩
    have hI2 : Inv (wr σ2 373 4 (σ1 0 5 + 1)) := Inv_mend hI hW hM hQ.1
    have h4 := hQ.1.2.1 4 (by decide) (by decide)
    rw [wr_c (by decide)] at h4
    rwa [h5, ← h4] at hI2
theorem s_best {σ : Sg} (hI : Inv σ) (a1 : Int32) : Two (fX10_best 0 a1) (fX11_best 373 a1) σ := by
  obtain ⟨n, nt, no, nf, hL, hW, h4, h7, h13, h3⟩ := hI.k
  obtain ⟨pv, hV⟩ := PV_ex hW hL hI.own (fun k _ => rfl)
  obtain ⟨hMC, hGR⟩ := hI.mc hW
  have h42 := cm_42 (σ 374) n nt
  have g42 : ∀ {x : Nat} {F : Option (Int32 × Sg)}, x < 42 → gd (inR (nI x) 42) F = F := fun h => gd_in h (by decide)
  obtain ⟨-, σ2', e2', hQ', hI2'⟩ := mend_two hI hW hV hMC
  unfold fX10_best fX11_best
  simp only [rf_0_0, e10_finding, e11_finds, e10_isWithin, bd_v, lt_v]
  by_cases A : cn (cm (σ 374) n nt) 175 = 0
  · refine two_mk (r := -100006) (σ1 := wr σ 0 5 (σ 0 5 + 1)) (σ2 := wr σ2' 373 4 (σ2' 373 4 + 1)) ?_ ?_ hI2'
    · simp only [c_count hW hL, bd_v]
      rw [if_pos (show nI (cn (cm (σ 374) n nt) 175) = 0 by rw [A]; rfl)]
    · simp only [e2', bd_v]
      rw [if_pos (by rw [hQ'.2.1, A]; rfl)]
  have nA : ¬ nI (cn (cm (σ 374) n nt) 175) = 0 := nI_ne0 (by omega) (by omega)
  by_cases B : iw a1 0 3 = 0
  · have nb : a1 ≠ 0 ∧ a1 ≠ 1 ∧ a1 ≠ 2 ∧ a1 ≠ 3 := by
      refine ⟨?_, ?_, ?_, ?_⟩ <;> (rintro rfl; exact absurd B (by decide))
    refine two_mk (r := -100001) (σ1 := wr σ 0 5 (σ 0 5 + 1)) (σ2 := wr σ2' 373 4 (σ2' 373 4 + 1)) ?_ ?_ hI2'
    · simp only [c_count hW hL, bd_v, if_neg nA, if_pos B]
    · simp only [e2', bd_v]
      rw [if_neg (by rw [hQ'.2.1]; exact nA), if_neg nb.1, if_neg nb.2.1, if_neg nb.2.2.1, if_neg nb.2.2.2]
  obtain ⟨w, -, hw, rfl⟩ := iw_nat (a := 0) (b := 3) (iw_of B).1 (iw_of B).2 (by decide) (by decide)
  obtain ⟨r, σ1, eb, hM1, hr⟩ := c_findBest hW hL (fun k _ => rfl) hV hMC
  obtain ⟨j, hj, rfl⟩ := hr.resolve_left (fun q => A q.1)
  obtain ⟨i1, i2, i3⟩ := c_lesser j hj.1
  -- the answer
  have fin : ∀ (x : Int32) (σ1' : Sg), MC (σ 374) n nt σ σ1' → (if nI w = 0 then bd (fX4_lesserOf (nI j) σ1) fun r s => some (r, s) else if nI w = 1 then bd (fX4_greaterOf (nI j) σ1) fun r s => some (r, s) else if nI w = 2 then bd (fX4_stationOf (nI j) σ1) fun r s => some (r, s) else bd (fX4_priceAt 1 (nI j) σ1) fun r s => some (r, s)) = some (x, σ1') → (∀ τ : Sg, RQ (σ 374) n nt pv σ1' 175 τ → (if nI w = 0 then gd (inR (τ 373 40) 42) (some (τ 395 (τ 373 40).toNatClampNeg, τ)) else if nI w = 1 then gd (inR (τ 373 40) 42) (some (τ 396 (τ 373 40).toNatClampNeg, τ)) else if nI w = 2 then gd (inR (τ 373 40) 42) (some (τ 397 (τ 373 40).toNatClampNeg, τ)) else if nI w = 3 then gd (inR (τ 373 40) 42) (some (τ 398 (τ 373 40).toNatClampNeg, τ)) else some (-100001, wr τ 373 4 (τ 373 4 + 1))) = some (x, τ)) → Two (fX10_best 0 (nI w)) (fX11_best 373 (nI w)) σ := by
    intro x σ1' hM' hx hy
    obtain ⟨⟨σ2, e2, hQ, hI2⟩, -⟩ := mend_two hI hW hV hM'
    refine two_mk (r := x) (σ1 := σ1') (σ2 := σ2) ?_ ?_ hI2
    · unfold fX10_best
      simp only [rf_0_0, e10_finding, e10_isWithin, c_count hW hL, bd_v, lt_v, if_neg nA, if_neg B, eb]
      exact hx
    · unfold fX11_best
      rw [e2, bd_v, if_neg (by rw [hQ.2.1]; exact nA), rf_373_35, rf_373_36, rf_373_37, rf_373_38, ln_395, ln_396, ln_397, ln_398]
      exact hy σ2 hQ
  have rd : ∀ (σ1' τ : Sg), RQ (σ 374) n nt pv σ1' 175 τ → cn (cm (σ 374) n nt) j < 42 ∧ τ 373 40 = nI (cn (cm (σ 374) n nt) j) ∧ (τ 395 (cn (cm (σ 374) n nt) j) = nI (j / 7 / 5) ∧ τ 396 (cn (cm (σ 374) n nt) j) = nI (j / 7 % 5)) ∧ τ 397 (cn (cm (σ 374) n nt) j) = nI (j % 7) ∧ τ 398 (cn (cm (σ 374) n nt) j) = pv j := by
    intro σ1' τ hQ
    obtain ⟨i, hi, e40⟩ := hQ.2.2.2.resolve_left (fun q => A q.1)
    obtain rfl := bst_u hi hj
    have := cn_lt (f := cm (σ 374) n nt) hj.1 hj.2.1
    exact ⟨by omega, e40, hQ.2.2.1 i hj.1 hj.2.1⟩
  rcases (by omega : w = 0 ∨ w = 1 ∨ w = 2 ∨ w = 3) with rfl | rfl | rfl | rfl
  · refine fin (nI (j / 7 / 5)) σ1 hM1 ?_ (fun τ hQ => ?_)
    · rw [if_pos (show nI 0 = 0 from rfl)]
      unfold fX4_lesserOf
      rw [bd_v, i1]
    · obtain ⟨l1, l2, ⟨l3, l4⟩, l5, l6⟩ := rd σ1 τ hQ
      rw [if_pos (show nI 0 = 0 from rfl), l2, g42 l1, nI_cl (by omega), l3]
  · refine fin (nI (j / 7 % 5)) σ1 hM1 ?_ (fun τ hQ => ?_)
    · rw [if_neg (show ¬ nI 1 = 0 by decide), if_pos (show nI 1 = 1 from rfl)]
      unfold fX4_greaterOf
      rw [bd_v, i2]
    · obtain ⟨l1, l2, ⟨l3, l4⟩, l5, l6⟩ := rd σ1 τ hQ
      rw [if_neg (show ¬ nI 1 = 0 by decide), if_pos (show nI 1 = 1 from rfl), l2, g42 l1, nI_cl (by omega), l4]
  · refine fin (nI (j % 7)) σ1 hM1 ?_ (fun τ hQ => ?_)
    · rw [if_neg (show ¬ nI 2 = 0 by decide), if_neg (show ¬ nI 2 = 1 by decide), if_pos (show nI 2 = 2 from rfl)]
      unfold fX4_stationOf
      rw [bd_v, i3]
    · obtain ⟨l1, l2, ⟨l3, l4⟩, l5, l6⟩ := rd σ1 τ hQ
      rw [if_neg (show ¬ nI 2 = 0 by decide), if_neg (show ¬ nI 2 = 1 by decide), if_pos (show nI 2 = 2 from rfl), l2, g42 l1, nI_cl (by omega), l5]
  · obtain ⟨σ1', ep, hM1'⟩ := c_priceK hW hL (fun k _ => rfl) hV hM1 hj.1 hj.2.1
    refine fin (pv j) σ1' hM1' ?_ (fun τ hQ => ?_)
    · rw [if_neg (show ¬ nI 3 = 0 by decide), if_neg (show ¬ nI 3 = 1 by decide), if_neg (show ¬ nI 3 = 2 by decide), ep, bd_v]
    · obtain ⟨l1, l2, ⟨l3, l4⟩, l5, l6⟩ := rd σ1' τ hQ
      rw [if_neg (show ¬ nI 3 = 0 by decide), if_neg (show ¬ nI 3 = 1 by decide), if_neg (show ¬ nI 3 = 2 by decide), if_pos (show nI 3 = 3 from rfl), l2, g42 l1, nI_cl (by omega), l6]
/-- the class looks for the first wrong number -/
theorem c_firstWrong {σ0 : Sg} {g : Nat → Int32} {n nt no nf x : Nat} {pv : Nat → Int32} {B : Int32} {S : Nat → Int32} (hW : Wf g n nt no nf) (hL0 : LR σ0 3 g) (hO0 : On σ0 g) (hV : PV g n nt pv) (hx : x < 4) (hB : B = 8 ∨ B = 16 ∨ B = 32) (hb : σ0 (shX x) 0 = B) (hc : σ0 (shX x) 1 = nI (cn (cm g n nt) 175)) (hS : ∀ i, i < 60 → nw8 B (S i) = S i ∧ σ0 (shX x + 1) i = mk8 B (S i)) : ∀ d k fu σ, k + d = 175 → d < fu → MC g n nt σ0 σ → (∀ i, i < k → cm g n nt i = true → S (cn (cm g n nt) i) = nw8 B (pv i)) → ∃ r σ', lq2 (fX4_firstWrong_4 1 (shX x)) fu (nI (cn (cm g n nt) k)) (nI k) σ = some (r, σ') ∧ MC g n nt σ0 σ' ∧ ((∃ j, j < 175 ∧ cm g n nt j = true ∧ ¬ S (cn (cm g n nt) j) = nw8 B (pv j) ∧ (∀ i, i < j → cm g n nt i = true → S (cn (cm g n nt) i) = nw8 B (pv i)) ∧ r = nI (cn (cm g n nt) j)) ∨ ((∀ i, i < 175 → cm g n nt i = true → S (cn (cm g n nt) i) = nw8 B (pv i)) ∧ r = -1)) := by
  have h42 := cm_42 g n nt
  obtain ⟨-, s2, s3⟩ := rf_sh x hx
  have hsx : 58 ≤ shX x := by unfold shX; omega
  intro d
  induction d with
  | zero =>
    intro k fu σ h hf hM hok
    obtain ⟨fu, rfl⟩ : ∃ q, fu = q + 1 := ⟨fu - 1, by omega⟩
    obtain rfl : k = 175 := by omega
    refine ⟨-1, σ, ?_, hM, Or.inr ⟨hok, rfl⟩⟩
    change fX4_firstWrong_4 1 (shX x) (lq2 (fX4_firstWrong_4 1 (shX x)) fu) _ _ _ = _
    generalize lq2 (fX4_firstWrong_4 1 (shX x)) fu = KK
    unfold fX4_firstWrong_4
    rw [if_pos (by decide)]
  | succ d ih =>
    intro k fu σ h hf hM hok
    obtain ⟨fu, rfl⟩ : ∃ q, fu = q + 1 := ⟨fu - 1, by omega⟩
    have n175 : ¬ (175 : Int32) ≤ nI k := nle_of (a := 175) (by omega) (by decide)
    have hck : cn (cm g n nt) k ≤ cn (cm g n nt) 175 := cn_le (by omega)
    have hc1 : σ (shX x) 1 = nI (cn (cm g n nt) 175) := by rw [hM.1 _ _ (by omega), hc]
    change ∃ r σ', fX4_firstWrong_4 1 (shX x) (lq2 (fX4_firstWrong_4 1 (shX x)) fu) _ _ _ = _ ∧ _
    by_cases E : cn (cm g n nt) 175 ≤ cn (cm g n nt) k
    · refine ⟨-1, σ, ?_, hM, Or.inr ⟨fun i hi hci => ?_, rfl⟩⟩
      · generalize lq2 (fX4_firstWrong_4 1 (shX x)) fu = KK
        unfold fX4_firstWrong_4
        rw [if_neg n175, hc1, if_pos (nI_le E (by omega))]
      · by_cases z : i < k
        · exact hok i z hci
        · have q1 := cn_le (f := cm g n nt) (show k ≤ i by omega)
          have q2 := cn_lt (f := cm g n nt) hi hci
          omega
    · have n2 : ¬ nI (cn (cm g n nt) 175) ≤ nI (cn (cm g n nt) k) := nle_of (by omega) (by omega)
      have ec := c_canMeet hW (hM.lr hL0) (show k < 175 by omega)
      by_cases A : cm g n nt k = true
      · rw [if_pos A] at ec
        obtain ⟨σ1, p1, m1⟩ := c_priceK hW hL0 hO0 hV hM (show k < 175 by omega) A
        obtain ⟨t1, t2⟩ := hS (cn (cm g n nt) k) (by omega)
        have hmask : fX7_mask (shX x) σ1 = some (mkm B, σ1) := by rw [e7_mask, m1.1 _ _ (by omega), hb]
        have hnum : σ (shX x + 1) (cn (cm g n nt) k) = mk8 B (S (cn (cm g n nt) k)) := by rw [hM.1 _ _ (by omega), t2]
        have hiff : (σ (shX x + 1) (cn (cm g n nt) k) = pv k &&& mkm B) ↔ S (cn (cm g n nt) k) = nw8 B (pv k) := by
          rw [hnum, mkm_mk hB, mk_iff, t1]
        have eb : ∀ K, fX4_firstWrong_4 1 (shX x) K (nI (cn (cm g n nt) k)) (nI k) σ = if S (cn (cm g n nt) k) = nw8 B (pv k) then K (nI (cn (cm g n nt) k + 1)) (nI (k + 1)) σ1 else some (nI (cn (cm g n nt) k), σ1) := by
          intro K
          unfold fX4_firstWrong_4 fX4_firstWrong_54
          rw [if_neg n175, hc1, if_neg n2, ec, bd_v, if_neg (by decide), s2, s3, gd_in (n := 60) (by omega) (by decide), p1, bd_v, hmask, bd_v, nI_cl (by omega)]
          simp only [lt_v, nI_1]
          by_cases z : S (cn (cm g n nt) k) = nw8 B (pv k)
          · rw [if_pos (hiff.mpr z), if_pos z]
          · rw [if_neg (fun q => z (hiff.mp q)), if_neg z]
        by_cases z : S (cn (cm g n nt) k) = nw8 B (pv k)
        · obtain ⟨r, σ', e, m2, hr⟩ := ih (k + 1) fu σ1 (by omega) (by omega) m1 (fun i hi hci => by
            by_cases y : i = k
            · subst y; exact z
            · exact hok i (by omega) hci)
          refine ⟨r, σ', ?_, m2, hr⟩
          rw [eb, if_pos z, ← cn_s1 A]
          exact e
        · refine ⟨_, σ1, ?_, m1, Or.inl ⟨k, by omega, A, z, hok, rfl⟩⟩
          rw [eb, if_neg z]
      · have A' : cm g n nt k = false := by simpa using A
        rw [if_neg A] at ec
        obtain ⟨r, σ', e, m2, hr⟩ := ih (k + 1) fu σ (by omega) (by omega) hM (fun i hi hci => by
          by_cases y : i = k
          · subst y; exact absurd hci A
          · exact hok i (by omega) hci)
        refine ⟨r, σ', ?_, m2, hr⟩
        rw [cn_s0 A'] at e
        generalize lq2 (fX4_firstWrong_4 1 (shX x)) fu = KK at e ⊢
        unfold fX4_firstWrong_4 fX4_firstWrong_54
        rw [if_neg n175, hc1, if_neg n2, ec, bd_v, if_pos rfl, lt_v, nI_1]
        exact e
