theorem r_begin {τ : Sg} {g : Nat → Int32} {n nt no nf : Nat} (hW : Wf g n nt no nf) (hO : On τ g) : ∃ τ', fX11_begin 373 τ = some ((), τ') ∧ FrR τ τ' ∧ BR g nt τ' := by
  have hnt := hW.nt
  have t14 := hO.nt hW
  -- trains
  obtain ⟨τ1, f1, e1, a1, a2⟩ := sl1 (b := fX11_begin_2 373) 5 _ (rb_1 hW hO) 5 0 FU τ (by omega) (by rw [FU_s]; omega) ⟨fun c j _ _ _ _ _ => rfl, fun t ht => by omega⟩
  have x1 : fX11_begin 373 τ = lq1 (fX11_begin_88 373) FU 0 τ1 := by
    unfold fX11_begin
    rw [lt_v]
    refine Eq.trans e1 ?_
    generalize lq1 (fX11_begin_2 373) f1 = KK
    unfold fX11_begin_2
    rw [if_pos (by decide), lt_v]
  obtain ⟨τ2, f2, e2, b1, b2⟩ := sl1 (b := fX11_begin_88 373) 35 _ rb_2 35 0 FU τ1 (by omega) (by rw [FU_s]; omega) ⟨fun c j _ _ _ _ => rfl, fun t ht => by omega⟩
  have x2 : lq1 (fX11_begin_88 373) FU 0 τ1 = lq1 (fX11_begin_130 373) FU 0 τ2 := by
    refine Eq.trans e2 ?_
    generalize lq1 (fX11_begin_88 373) f2 = KK
    unfold fX11_begin_88
    rw [if_pos (by decide), lt_v]
  obtain ⟨τ3, f3, e3, c1, c2⟩ := sl1 (b := fX11_begin_130 373) 14 _ rb_3 14 0 FU τ2 (by omega) (by rw [FU_s]; omega) ⟨fun c j _ => rfl, fun t ht => by omega⟩
  have x3 : lq1 (fX11_begin_130 373) FU 0 τ2 = lq1 (fX11_begin_152 373) FU 0 τ3 := by
    refine Eq.trans e3 ?_
    generalize lq1 (fX11_begin_130 373) f3 = KK
    unfold fX11_begin_130
    rw [if_pos (by decide), lt_v]
  obtain ⟨τ4, f4, e4, d1, d2⟩ := sl1 (b := fX11_begin_152 373) 25 _ rb_4 25 0 FU τ3 (by omega) (by rw [FU_s]; omega) ⟨fun c j _ => rfl, fun t ht => by omega⟩
  refine ⟨wr (wr τ4 373 25 0) 373 31 0, ?_, ⟨fun c i hc => ?_, fun i hi => ?_⟩, fun t ht => ?_, fun j hj => ?_, fun j hj => ?_, fun j hj => ?_, ?_, ?_⟩
  · rw [x1, x2, x3]
    refine Eq.trans e4 ?_
    generalize lq1 (fX11_begin_152 373) f4 = KK
    unfold fX11_begin_152
    rw [if_pos (by decide), lt_v, lt_v]
  · rw [wr_c (by omega), wr_c (by omega), d1 _ _ (by omega), c1 _ _ (by omega), b1 _ _ (by omega) (by omega) (by omega) (by omega), a1 _ _ (by omega) (by omega) (by omega) (by omega) (by omega)]
  · rw [wr_i (by omega), wr_i (by omega), d1 _ _ (by omega), c1 _ _ (by omega), b1 _ _ (by omega) (by omega) (by omega) (by omega), a1 _ _ (by omega) (by omega) (by omega) (by omega) (by omega)]
  · obtain ⟨q1, q2, q3, q4⟩ := a2 t (by omega) ht
    have z : ∀ c, (c = 381 ∨ c = 383 ∨ c = 391 ∨ c = 385) → wr (wr τ4 373 25 0) 373 31 0 c t = τ1 c t := fun c hc => by
      rw [wr_c (by omega), wr_c (by omega), d1 _ _ (by omega), c1 _ _ (by omega), b1 _ _ (by omega) (by omega) (by omega) (by omega)]
    exact ⟨by rw [z _ (by omega), q1], by rw [z _ (by omega), q2], by rw [z _ (by omega), q3], by rw [z _ (by omega), q4]⟩
  · obtain ⟨q1, q2, q3, q4⟩ := b2 j hj
    have z : ∀ c, (c = 386 ∨ c = 387 ∨ c = 392 ∨ c = 393) → wr (wr τ4 373 25 0) 373 31 0 c j = τ2 c j := fun c hc => by
      rw [wr_c (by omega), wr_c (by omega), d1 _ _ (by omega), c1 _ _ (by omega)]
    exact ⟨by rw [z _ (by omega), q1], by rw [z _ (by omega), q2], by rw [z _ (by omega), q3], by rw [z _ (by omega), q4]⟩
  · rw [wr_c (by omega), wr_c (by omega), d1 _ _ (by omega), c2 j hj]
  · rw [wr_c (by omega), wr_c (by omega), d2 j hj]
  · rw [wr_i (by decide), wr_eq]
  · rw [wr_eq]
