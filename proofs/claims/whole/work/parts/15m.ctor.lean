theorem nw_RX10_9 : NW RX10 9 4 4 [.null, .null, .null, .int 0] := ⟨RX4, TX4, tyX4, rfl, cw_X4, ⟨(mem_g 98 (by decide +kernel) (by decide)), (mem_g 99 (by decide +kernel) (by decide)), (mem_g 76 (by decide +kernel) (by decide))⟩, tyX4_ok, by decide +kernel⟩
theorem vi_RX10_11 : VB RX10 11 yX4_init cX4_init 1 none 0 := ⟨⟨(mem_g 102 (by decide +kernel) (by decide)), (mem_g 76 (by decide +kernel) (by decide)), (mem_g 100 (by decide +kernel) (by decide))⟩, by decide, by decide, by decide +kernel⟩
theorem ff_10_0 : FSF RX10 10 0 (tyX10 0) := ⟨RX10, TX10, 6, tyX10, rfl, tyX10_ok, nmX10, rfl, by decide +kernel, rfl⟩
theorem fl_RX10_16 : FL RX10 16 4 0 := ⟨RX4, TX4, 4, rfl, by decide, cw_X4, (mem_g 386 (by decide +kernel) (by decide))⟩
theorem ff_10_1 : FSF RX10 10 1 (tyX10 1) := ⟨RX10, TX10, 6, tyX10, rfl, tyX10_ok, nmX10, rfl, by decide +kernel, rfl⟩
theorem fl_RX10_21 : FL RX10 21 0 0 := ⟨RX0, TX0, 15, rfl, by decide, cw_X0, (mem_g 338 (by decide +kernel) (by decide))⟩
theorem ff_10_2 : FSF RX10 10 2 (tyX10 2) := ⟨RX10, TX10, 6, tyX10, rfl, tyX10_ok, nmX10, rfl, by decide +kernel, rfl⟩
theorem nw_RX10_28 : NW RX10 28 2 3 [.null, .int 0, .int 0] := ⟨RX2, TX2, tyX2, rfl, cw_X2, ⟨(mem_g 399 (by decide +kernel) (by decide)), (mem_g 400 (by decide +kernel) (by decide)), (mem_g 85 (by decide +kernel) (by decide))⟩, tyX2_ok, by decide +kernel⟩
theorem vi_RX10_30 : VB RX10 30 yX2_init cX2_init 2 none 0 := ⟨⟨(mem_g 403 (by decide +kernel) (by decide)), (mem_g 85 (by decide +kernel) (by decide)), (mem_g 401 (by decide +kernel) (by decide))⟩, by decide, by decide, by decide +kernel⟩
theorem ff_10_3 : FSF RX10 10 3 (tyX10 3) := ⟨RX10, TX10, 6, tyX10, rfl, tyX10_ok, nmX10, rfl, by decide +kernel, rfl⟩
theorem ff_10_4 : FSF RX10 10 4 (tyX10 4) := ⟨RX10, TX10, 6, tyX10, rfl, tyX10_ok, nmX10, rfl, by decide +kernel, rfl⟩
theorem nw_RX10_35 : NW RX10 35 7 3 [.int 0, .int 0, .null] := ⟨RX7, TX7, tyX7, rfl, cw_X7, ⟨(mem_g 419 (by decide +kernel) (by decide)), (mem_g 421 (by decide +kernel) (by decide)), (mem_g 86 (by decide +kernel) (by decide))⟩, tyX7_ok, by decide +kernel⟩
theorem vi_RX10_45 : VB RX10 45 yX7_init cX7_init 1 none 0 := ⟨⟨(mem_g 424 (by decide +kernel) (by decide)), (mem_g 86 (by decide +kernel) (by decide)), (mem_g 422 (by decide +kernel) (by decide))⟩, by decide, by decide, by decide +kernel⟩
theorem shb_10_0 : ((List.range NC).all fun c => decide (kd c = 10 → (c + 373 ≤ NC ∧ kd (c + 1) = 4 ∧ rf (c + 1) 0 = c + 2 ∧ kd (c + 2) = 0 ∧ rf (c + 2) 0 = c + 3 ∧ kd (c + 58) = 2 ∧ kd (c + 365) = 7 ∧ kd (c + 367) = 7 ∧ kd (c + 369) = 7 ∧ kd (c + 371) = 7 ∧ rf c 0 = c + 1 ∧ rf c 1 = c + 2))) = true := by decide +kernel
theorem shc_10_0 {c : Nat} (h : isK c 10) : c + 373 ≤ NC ∧ kd (c + 1) = 4 ∧ rf (c + 1) 0 = c + 2 ∧ kd (c + 2) = 0 ∧ rf (c + 2) 0 = c + 3 ∧ kd (c + 58) = 2 ∧ kd (c + 365) = 7 ∧ kd (c + 367) = 7 ∧ kd (c + 369) = 7 ∧ kd (c + 371) = 7 ∧ rf c 0 = c + 1 ∧ rf c 1 = c + 2 := of_decide_eq_true (List.all_eq_true.mp shb_10_0 c (List.mem_range.mpr h.1)) h.2
theorem shb_10_12 : ((List.range NC).all fun c => decide (kd c = 10 → (rf c 2 = c + 3 ∧ rf c 3 = c + 58 ∧ rf c 4 = c + 364 ∧ obT.getD c [] = [0, 0, 0, 0, 0, 0] ∧ (kd (c + 364) = 18 ∧ ln (c + 364) = 4) ∧ rf (c + 364) 0 = c + 365 ∧ rf (c + 364) 1 = c + 367 ∧ rf (c + 364) 2 = c + 369 ∧ rf (c + 364) 3 = c + 371))) = true := by decide +kernel
theorem shc_10_12 {c : Nat} (h : isK c 10) : rf c 2 = c + 3 ∧ rf c 3 = c + 58 ∧ rf c 4 = c + 364 ∧ obT.getD c [] = [0, 0, 0, 0, 0, 0] ∧ (kd (c + 364) = 18 ∧ ln (c + 364) = 4) ∧ rf (c + 364) 0 = c + 365 ∧ rf (c + 364) 1 = c + 367 ∧ rf (c + 364) 2 = c + 369 ∧ rf (c + 364) 3 = c + 371 := of_decide_eq_true (List.all_eq_true.mp shb_10_12 c (List.mem_range.mpr h.1)) h.2
theorem sh_10_0 {c : Nat} (h : isK c 10) : c + 373 ≤ NC := (shc_10_0 h).1
theorem sh_10_1 {c : Nat} (h : isK c 10) : kd (c + 1) = 4 := (shc_10_0 h).2.1
theorem sh_10_2 {c : Nat} (h : isK c 10) : rf (c + 1) 0 = c + 2 := (shc_10_0 h).2.2.1
theorem sh_10_3 {c : Nat} (h : isK c 10) : kd (c + 2) = 0 := (shc_10_0 h).2.2.2.1
theorem sh_10_4 {c : Nat} (h : isK c 10) : rf (c + 2) 0 = c + 3 := (shc_10_0 h).2.2.2.2.1
theorem sh_10_5 {c : Nat} (h : isK c 10) : kd (c + 58) = 2 := (shc_10_0 h).2.2.2.2.2.1
theorem sh_10_6 {c : Nat} (h : isK c 10) : kd (c + 365) = 7 := (shc_10_0 h).2.2.2.2.2.2.1
theorem sh_10_7 {c : Nat} (h : isK c 10) : kd (c + 367) = 7 := (shc_10_0 h).2.2.2.2.2.2.2.1
theorem sh_10_8 {c : Nat} (h : isK c 10) : kd (c + 369) = 7 := (shc_10_0 h).2.2.2.2.2.2.2.2.1
theorem sh_10_9 {c : Nat} (h : isK c 10) : kd (c + 371) = 7 := (shc_10_0 h).2.2.2.2.2.2.2.2.2.1
theorem sh_10_10 {c : Nat} (h : isK c 10) : rf c 0 = c + 1 := (shc_10_0 h).2.2.2.2.2.2.2.2.2.2.1
theorem sh_10_11 {c : Nat} (h : isK c 10) : rf c 1 = c + 2 := (shc_10_0 h).2.2.2.2.2.2.2.2.2.2.2
theorem sh_10_12 {c : Nat} (h : isK c 10) : rf c 2 = c + 3 := (shc_10_12 h).1
theorem sh_10_13 {c : Nat} (h : isK c 10) : rf c 3 = c + 58 := (shc_10_12 h).2.1
theorem sh_10_14 {c : Nat} (h : isK c 10) : rf c 4 = c + 364 := (shc_10_12 h).2.2.1
theorem sh_10_15 {c : Nat} (h : isK c 10) : obT.getD c [] = [0, 0, 0, 0, 0, 0] := (shc_10_12 h).2.2.2.1
theorem sh_10_16 {c : Nat} (h : isK c 10) : (kd (c + 364) = 18 ∧ ln (c + 364) = 4) := (shc_10_12 h).2.2.2.2.1
theorem sh_10_17 {c : Nat} (h : isK c 10) : rf (c + 364) 0 = c + 365 := (shc_10_12 h).2.2.2.2.2.1
theorem sh_10_18 {c : Nat} (h : isK c 10) : rf (c + 364) 1 = c + 367 := (shc_10_12 h).2.2.2.2.2.2.1
theorem sh_10_19 {c : Nat} (h : isK c 10) : rf (c + 364) 2 = c + 369 := (shc_10_12 h).2.2.2.2.2.2.2.1
theorem sh_10_20 {c : Nat} (h : isK c 10) : rf (c + 364) 3 = c + 371 := (shc_10_12 h).2.2.2.2.2.2.2.2
set_option maxRecDepth 100000 in
set_option maxHeartbeats 4000000 in
theorem KX10_init (l : Launch) (M : Mc) (hE : Ex M) (c : Nat) (hc : isK c 10) (cf : Nat → va_E) (hz : cf c = .inr (10, [.null, .null, .null, .null, .null, .int 0])) : CtC l M yX10_init cX10_init 2 { frames := 5, cells := 372, slots := 9059, locals := 111 } 372 9059 [.ref (adr M c)] (c + 1) cf (c + 373) (mix M c cf) := by
  have hh0 := sh_10_0 hc
  have hi5 : sg0 c 5 = (0 : Int32) := by rw [sg0_obj hc.2 (by decide) (sh_10_15 hc)]; rfl
  have hself : celX M sg0 c = .inr (10, [.ref (adr M (c + 1)), .ref (adr M (c + 2)), .ref (adr M (c + 3)), .ref (adr M (c + 58)), .ref (adr M (c + 364)), .int (0 : Int32)]) := by
    rw [celX_obj hc.2 (by decide), mp_eq]
    show (Sum.inr (10, [.ref (adr M (rf c 0)), .ref (adr M (rf c 1)), .ref (adr M (rf c 2)), .ref (adr M (rf c 3)), .ref (adr M (rf c 4)), .int (sg0 c 5)]) : va_E) = _
    rw [hi5, (sh_10_10 hc), (sh_10_11 hc), (sh_10_12 hc), (sh_10_13 hc), (sh_10_14 hc)]
  have hov : (.inl (M.2.1 18, 4, .inr (.inr (.inr (.inr (va_up (va_up (va_up (va_up (fun _ => none) 0 (some (adr M (c + 365)))) 1 (some (adr M (c + 367)))) 2 (some (adr M (c + 369)))) 3 (some (adr M (c + 371)))))))) : va_E) = celX M sg0 (c + 364) := (by
    rw [celX_rarr (sh_10_16 hc) (by decide)]
    refine congrArg (fun z => Sum.inl (M.2.1 18, 4, Sum.inr (Sum.inr (Sum.inr (Sum.inr z))))) (funext fun i => ?_)
    rcases Nat.lt_or_ge i 4 with hi | hi
    · rw [if_pos hi]
      match i, hi with
      | 0, _ => rw [(sh_10_17 hc)]; simp [va_up]
      | 1, _ => rw [(sh_10_18 hc)]; simp [va_up]
      | 2, _ => rw [(sh_10_19 hc)]; simp [va_up]
      | 3, _ => rw [(sh_10_20 hc)]; simp [va_up]
      | i + 4, hi => omega
    · rw [if_neg (by omega)]
      simp only [va_up]
      rw [if_neg (by omega), if_neg (by omega), if_neg (by omega), if_neg (by omega)])
  refine ctc_of (l := l) hE.Dj (by decide) (Nat.le_of_ble_eq_true rfl) ?_
  intro p e s m args below meth cd C hin hsz hAO
  refine jc_congr (cg := W0 c cf 10 [.null, .null, .null, .null, .null, .int 0] (celX M sg0)) (ent0 hz) ?_
  refine jc_aload_n C dX10_init_0 rfl ?_
  refine jc_obj C dX10_init_1 (mem_g 95 (by decide +kernel) (by decide)) lo_1 lo_2 (by decide) (Nat.le_of_ble_eq_true rfl) ?_
  refine jc_aload_n C dX10_init_4 rfl ?_
  refine jc_new C hE dX10_init_5 nw_RX10_9 (by omega) (hE.at hsz (by omega)) ⟨by decide, by decide⟩ ?_
  refine jc_n (n2 := c + 2) (by omega) ?_
  refine jc_congr (cg := W0 c cf 10 [.null, .null, .null, .null, .null, .int 0] (va_up (celX M sg0) (c + 1) (.inr (4, [.null, .null, .null, .int 0])))) (up_b (by omega) _) ?_
  refine jc_dup C dX10_init_8 rfl ?_
  refine jc_init C hE hAO (As := []) dX10_init_9 (KX4_init l M hE (c + 1) ⟨by omega, (sh_10_1 hc)⟩ _ (by rw [W0_hi (by omega)]; simp [va_up])) vi_RX10_11 ⟨rfl, (mem_g 101 (by decide +kernel) (by decide))⟩ rfl rfl ⟨rfl, rfl⟩ (by decide) (Nat.le_of_ble_eq_true rfl) ⟨by decide, by decide⟩ (by omega) (hE.at hsz (by omega)) ?_
  refine jc_n (n2 := c + 58) (by omega) ?_
  refine jc_congr (cg := W0 c cf 10 [.null, .null, .null, .null, .null, .int 0] (celX M sg0)) (up_c (by omega) (fun q h1 h2 => rfl)) ?_
  refine jc_putF C (fs2 := [.ref (adr M (c + 1)), .null, .null, .null, .null, .int 0]) dX10_init_12 fl_RX10_12 ff_10_0 hin (by omega) (by omega) (Nat.le_of_ble_eq_true rfl) rfl rfl rfl ?_
  refine jc_aload_n C dX10_init_15 rfl ?_
  refine jc_aload_n C dX10_init_16 rfl ?_
  refine jc_get C (v := .ref (adr M (c + 1))) dX10_init_17 fl_RX10_12 (by omega) W0_self rfl ?_
  refine jc_get C (v := .ref (adr M (c + 2))) dX10_init_20 fl_RX10_16 (by omega) ((W0_hi (by omega)).trans (celX_obj (sh_10_1 hc) (by decide))) (by show some (Value.ref (adr M (rf (c + 1) 0))) = _; rw [(sh_10_2 hc)]) ?_
  refine jc_putF C (fs2 := [.ref (adr M (c + 1)), .ref (adr M (c + 2)), .null, .null, .null, .int 0]) dX10_init_23 fl_RX10_20 ff_10_1 hin (by omega) (by omega) (Nat.le_of_ble_eq_true rfl) rfl rfl rfl ?_
  refine jc_aload_n C dX10_init_26 rfl ?_
  refine jc_aload_n C dX10_init_27 rfl ?_
  refine jc_get C (v := .ref (adr M (c + 2))) dX10_init_28 fl_RX10_20 (by omega) W0_self rfl ?_
  refine jc_get C (v := .ref (adr M (c + 3))) dX10_init_31 fl_RX10_21 (by omega) ((W0_hi (by omega)).trans (celX_obj (sh_10_3 hc) (by decide))) (by show some (Value.ref (adr M (rf (c + 2) 0))) = _; rw [(sh_10_4 hc)]) ?_
  refine jc_putF C (fs2 := [.ref (adr M (c + 1)), .ref (adr M (c + 2)), .ref (adr M (c + 3)), .null, .null, .int 0]) dX10_init_34 fl_RX10_27 ff_10_2 hin (by omega) (by omega) (Nat.le_of_ble_eq_true rfl) rfl rfl rfl ?_
  refine jc_aload_n C dX10_init_37 rfl ?_
  refine jc_new C hE dX10_init_38 nw_RX10_28 (by omega) (hE.at hsz (by omega)) ⟨by decide, by decide⟩ ?_
  refine jc_n (n2 := c + 59) (by omega) ?_
  refine jc_congr (cg := W0 c cf 10 [.ref (adr M (c + 1)), .ref (adr M (c + 2)), .ref (adr M (c + 3)), .null, .null, .int 0] (va_up (celX M sg0) (c + 58) (.inr (2, [.null, .int 0, .int 0])))) (up_b (by omega) _) ?_
  refine jc_dup C dX10_init_41 rfl ?_
  refine jc_init C hE hAO (As := []) dX10_init_42 (KX2_init l M hE (c + 58) ⟨by omega, (sh_10_5 hc)⟩ _ (by rw [W0_hi (by omega)]; simp [va_up])) vi_RX10_30 ⟨rfl, (mem_g 402 (by decide +kernel) (by decide))⟩ rfl rfl ⟨rfl, rfl⟩ (by decide) (Nat.le_of_ble_eq_true rfl) ⟨by decide, by decide⟩ (by omega) (hE.at hsz (by omega)) ?_
  refine jc_n (n2 := c + 364) (by omega) ?_
  refine jc_congr (cg := W0 c cf 10 [.ref (adr M (c + 1)), .ref (adr M (c + 2)), .ref (adr M (c + 3)), .null, .null, .int 0] (celX M sg0)) (up_c (by omega) (fun q h1 h2 => rfl)) ?_
  refine jc_putF C (fs2 := [.ref (adr M (c + 1)), .ref (adr M (c + 2)), .ref (adr M (c + 3)), .ref (adr M (c + 58)), .null, .int 0]) dX10_init_45 fl_RX10_31 ff_10_3 hin (by omega) (by omega) (Nat.le_of_ble_eq_true rfl) rfl rfl rfl ?_
  refine jc_aload_n C dX10_init_48 rfl ?_
  refine jc_iconst C (v := (4 : Int32)) dX10_init_49 (by decide) ?_
  refine jc_anew C hE (k := 18) (N := 4) (t0 := 6) dX10_init_50 (mem_g 419 (by decide +kernel) (by decide)) hAO.2.2 rfl (by omega) (hE.at hsz (by omega)) (by decide) (by decide) (by decide) ⟨by decide, by decide⟩ ?_
  refine jc_n (n2 := c + 365) (by omega) ?_
  refine jc_congr (cg := W0 c cf 10 [.ref (adr M (c + 1)), .ref (adr M (c + 2)), .ref (adr M (c + 3)), .ref (adr M (c + 58)), .null, .int 0] (va_up (celX M sg0) (c + 364) (.inl (M.2.1 18, 4, .inr (.inr (.inr (.inr fun _ => none))))))) (up_b (by omega) _) ?_
  refine jc_putF C (fs2 := [.ref (adr M (c + 1)), .ref (adr M (c + 2)), .ref (adr M (c + 3)), .ref (adr M (c + 58)), .ref (adr M (c + 364)), .int 0]) dX10_init_53 fl_RX10_37 ff_10_4 hin (by omega) (by omega) (Nat.le_of_ble_eq_true rfl) rfl rfl rfl ?_
  refine jc_aload_n C dX10_init_56 rfl ?_
  refine jc_iconst C (v := (0 : Int32)) dX10_init_57 (by decide) ?_
  refine jc_put C (fs2 := [.ref (adr M (c + 1)), .ref (adr M (c + 2)), .ref (adr M (c + 3)), .ref (adr M (c + 58)), .ref (adr M (c + 364)), .int (0 : Int32)]) dX10_init_58 fl_RX10_41 fs_10_5 (by omega) (by omega) (Nat.le_of_ble_eq_true rfl) rfl rfl rfl ?_
  refine jc_iconst C (v := (0 : Int32)) dX10_init_61 (by decide) ?_
  refine jc_istore_n C (Ls' := [(1, .int (0 : Int32)), (0, .ref (adr M c))]) dX10_init_62 (by decide) rfl ?_
  refine jc_iload_n C dX10_init_63 rfl ?_
  refine jc_iconst C (v := (4 : Int32)) dX10_init_64 (by decide) ?_
  refine jc_ge_f C (tgt := 87) dX10_init_65 (by decide) (by decide) ?_
  refine jc_aload_n C dX10_init_68 rfl ?_
  refine jc_get C (v := .ref (adr M (c + 364))) dX10_init_69 fl_RX10_37 (by omega) W0_self rfl ?_
  refine jc_iload_n C dX10_init_72 rfl ?_
  refine jc_new C hE dX10_init_73 nw_RX10_35 (by omega) (hE.at hsz (by omega)) ⟨by decide, by decide⟩ ?_
  refine jc_n (n2 := c + 366) (by omega) ?_
  refine jc_congr (cg := W0 c cf 10 [.ref (adr M (c + 1)), .ref (adr M (c + 2)), .ref (adr M (c + 3)), .ref (adr M (c + 58)), .ref (adr M (c + 364)), .int (0 : Int32)] (va_up (va_up (celX M sg0) (c + 364) (.inl (M.2.1 18, 4, .inr (.inr (.inr (.inr fun _ => none)))))) (c + 365) (.inr (7, [.int 0, .int 0, .null])))) (up_b (by omega) _) ?_
  refine jc_dup C dX10_init_76 rfl ?_
  refine jc_init C hE hAO (As := []) dX10_init_77 (KX7_init l M hE (c + 365) ⟨by omega, (sh_10_6 hc)⟩ _ (by rw [W0_hi (by omega)]; simp [va_up])) vi_RX10_45 ⟨rfl, (mem_g 423 (by decide +kernel) (by decide))⟩ rfl rfl ⟨rfl, rfl⟩ (by decide) (Nat.le_of_ble_eq_true rfl) ⟨by decide, by decide⟩ (by omega) (hE.at hsz (by omega)) ?_
  refine jc_n (n2 := c + 367) (by omega) ?_
  refine jc_congr (cg := W0 c cf 10 [.ref (adr M (c + 1)), .ref (adr M (c + 2)), .ref (adr M (c + 3)), .ref (adr M (c + 58)), .ref (adr M (c + 364)), .int (0 : Int32)] (va_up (celX M sg0) (c + 364) (.inl (M.2.1 18, 4, .inr (.inr (.inr (.inr fun _ => none))))))) (up_c (by omega) (fun q h1 h2 => by rw [va_up_ne _ _ (by omega)])) ?_
  refine jc_aast C (a := c + 364) (o := c + 365) (k := 18) (kk := 7) (N := 4) (f := fun _ => none) (t0 := 6) dX10_init_80 (by omega) (by omega) (by omega) ((W0_hi (by omega)).trans (by simp [va_up])) ((W0_hi (by omega)).trans ((va_up_ne _ _ (by omega)).trans (celX_obj (sh_10_6 hc) (by decide)))) rfl rfl (by decide) ?_
  refine jc_congr (cg := W0 c cf 10 [.ref (adr M (c + 1)), .ref (adr M (c + 2)), .ref (adr M (c + 3)), .ref (adr M (c + 58)), .ref (adr M (c + 364)), .int (0 : Int32)] (va_up (celX M sg0) (c + 364) (.inl (M.2.1 18, 4, .inr (.inr (.inr (.inr (va_up (fun _ => none) 0 (some (adr M (c + 365))))))))))) (up_d (by omega) _) ?_
  refine jc_iinc C (v := (1 : Int32)) (Ls' := [(1, .int (1 : Int32)), (0, .ref (adr M c))]) dX10_init_81 0 rfl (by decide) (by decide) rfl ?_
  refine jc_goto C (tgt := 63) dX10_init_84 (by decide) ?_
  refine jc_iload_n C dX10_init_63 rfl ?_
  refine jc_iconst C (v := (4 : Int32)) dX10_init_64 (by decide) ?_
  refine jc_ge_f C (tgt := 87) dX10_init_65 (by decide) (by decide) ?_
  refine jc_aload_n C dX10_init_68 rfl ?_
  refine jc_get C (v := .ref (adr M (c + 364))) dX10_init_69 fl_RX10_37 (by omega) W0_self rfl ?_
  refine jc_iload_n C dX10_init_72 rfl ?_
  refine jc_new C hE dX10_init_73 nw_RX10_35 (by omega) (hE.at hsz (by omega)) ⟨by decide, by decide⟩ ?_
  refine jc_n (n2 := c + 368) (by omega) ?_
  refine jc_congr (cg := W0 c cf 10 [.ref (adr M (c + 1)), .ref (adr M (c + 2)), .ref (adr M (c + 3)), .ref (adr M (c + 58)), .ref (adr M (c + 364)), .int (0 : Int32)] (va_up (va_up (celX M sg0) (c + 364) (.inl (M.2.1 18, 4, .inr (.inr (.inr (.inr (va_up (fun _ => none) 0 (some (adr M (c + 365)))))))))) (c + 367) (.inr (7, [.int 0, .int 0, .null])))) (up_b (by omega) _) ?_
  refine jc_dup C dX10_init_76 rfl ?_
  refine jc_init C hE hAO (As := []) dX10_init_77 (KX7_init l M hE (c + 367) ⟨by omega, (sh_10_7 hc)⟩ _ (by rw [W0_hi (by omega)]; simp [va_up])) vi_RX10_45 ⟨rfl, (mem_g 423 (by decide +kernel) (by decide))⟩ rfl rfl ⟨rfl, rfl⟩ (by decide) (Nat.le_of_ble_eq_true rfl) ⟨by decide, by decide⟩ (by omega) (hE.at hsz (by omega)) ?_
  refine jc_n (n2 := c + 369) (by omega) ?_
  refine jc_congr (cg := W0 c cf 10 [.ref (adr M (c + 1)), .ref (adr M (c + 2)), .ref (adr M (c + 3)), .ref (adr M (c + 58)), .ref (adr M (c + 364)), .int (0 : Int32)] (va_up (celX M sg0) (c + 364) (.inl (M.2.1 18, 4, .inr (.inr (.inr (.inr (va_up (fun _ => none) 0 (some (adr M (c + 365))))))))))) (up_c (by omega) (fun q h1 h2 => by rw [va_up_ne _ _ (by omega)])) ?_
  refine jc_aast C (a := c + 364) (o := c + 367) (k := 18) (kk := 7) (N := 4) (f := va_up (fun _ => none) 0 (some (adr M (c + 365)))) (t0 := 6) dX10_init_80 (by omega) (by omega) (by omega) ((W0_hi (by omega)).trans (by simp [va_up])) ((W0_hi (by omega)).trans ((va_up_ne _ _ (by omega)).trans (celX_obj (sh_10_7 hc) (by decide)))) rfl rfl (by decide) ?_
  refine jc_congr (cg := W0 c cf 10 [.ref (adr M (c + 1)), .ref (adr M (c + 2)), .ref (adr M (c + 3)), .ref (adr M (c + 58)), .ref (adr M (c + 364)), .int (0 : Int32)] (va_up (celX M sg0) (c + 364) (.inl (M.2.1 18, 4, .inr (.inr (.inr (.inr (va_up (va_up (fun _ => none) 0 (some (adr M (c + 365)))) 1 (some (adr M (c + 367))))))))))) (up_d (by omega) _) ?_
  refine jc_iinc C (v := (2 : Int32)) (Ls' := [(1, .int (2 : Int32)), (0, .ref (adr M c))]) dX10_init_81 0 rfl (by decide) (by decide) rfl ?_
  refine jc_goto C (tgt := 63) dX10_init_84 (by decide) ?_
  refine jc_iload_n C dX10_init_63 rfl ?_
  refine jc_iconst C (v := (4 : Int32)) dX10_init_64 (by decide) ?_
  refine jc_ge_f C (tgt := 87) dX10_init_65 (by decide) (by decide) ?_
  refine jc_aload_n C dX10_init_68 rfl ?_
  refine jc_get C (v := .ref (adr M (c + 364))) dX10_init_69 fl_RX10_37 (by omega) W0_self rfl ?_
  refine jc_iload_n C dX10_init_72 rfl ?_
  refine jc_new C hE dX10_init_73 nw_RX10_35 (by omega) (hE.at hsz (by omega)) ⟨by decide, by decide⟩ ?_
  refine jc_n (n2 := c + 370) (by omega) ?_
  refine jc_congr (cg := W0 c cf 10 [.ref (adr M (c + 1)), .ref (adr M (c + 2)), .ref (adr M (c + 3)), .ref (adr M (c + 58)), .ref (adr M (c + 364)), .int (0 : Int32)] (va_up (va_up (celX M sg0) (c + 364) (.inl (M.2.1 18, 4, .inr (.inr (.inr (.inr (va_up (va_up (fun _ => none) 0 (some (adr M (c + 365)))) 1 (some (adr M (c + 367)))))))))) (c + 369) (.inr (7, [.int 0, .int 0, .null])))) (up_b (by omega) _) ?_
  refine jc_dup C dX10_init_76 rfl ?_
  refine jc_init C hE hAO (As := []) dX10_init_77 (KX7_init l M hE (c + 369) ⟨by omega, (sh_10_8 hc)⟩ _ (by rw [W0_hi (by omega)]; simp [va_up])) vi_RX10_45 ⟨rfl, (mem_g 423 (by decide +kernel) (by decide))⟩ rfl rfl ⟨rfl, rfl⟩ (by decide) (Nat.le_of_ble_eq_true rfl) ⟨by decide, by decide⟩ (by omega) (hE.at hsz (by omega)) ?_
  refine jc_n (n2 := c + 371) (by omega) ?_
  refine jc_congr (cg := W0 c cf 10 [.ref (adr M (c + 1)), .ref (adr M (c + 2)), .ref (adr M (c + 3)), .ref (adr M (c + 58)), .ref (adr M (c + 364)), .int (0 : Int32)] (va_up (celX M sg0) (c + 364) (.inl (M.2.1 18, 4, .inr (.inr (.inr (.inr (va_up (va_up (fun _ => none) 0 (some (adr M (c + 365)))) 1 (some (adr M (c + 367))))))))))) (up_c (by omega) (fun q h1 h2 => by rw [va_up_ne _ _ (by omega)])) ?_
  refine jc_aast C (a := c + 364) (o := c + 369) (k := 18) (kk := 7) (N := 4) (f := va_up (va_up (fun _ => none) 0 (some (adr M (c + 365)))) 1 (some (adr M (c + 367)))) (t0 := 6) dX10_init_80 (by omega) (by omega) (by omega) ((W0_hi (by omega)).trans (by simp [va_up])) ((W0_hi (by omega)).trans ((va_up_ne _ _ (by omega)).trans (celX_obj (sh_10_8 hc) (by decide)))) rfl rfl (by decide) ?_
  refine jc_congr (cg := W0 c cf 10 [.ref (adr M (c + 1)), .ref (adr M (c + 2)), .ref (adr M (c + 3)), .ref (adr M (c + 58)), .ref (adr M (c + 364)), .int (0 : Int32)] (va_up (celX M sg0) (c + 364) (.inl (M.2.1 18, 4, .inr (.inr (.inr (.inr (va_up (va_up (va_up (fun _ => none) 0 (some (adr M (c + 365)))) 1 (some (adr M (c + 367)))) 2 (some (adr M (c + 369))))))))))) (up_d (by omega) _) ?_
  refine jc_iinc C (v := (3 : Int32)) (Ls' := [(1, .int (3 : Int32)), (0, .ref (adr M c))]) dX10_init_81 0 rfl (by decide) (by decide) rfl ?_
  refine jc_goto C (tgt := 63) dX10_init_84 (by decide) ?_
  refine jc_iload_n C dX10_init_63 rfl ?_
  refine jc_iconst C (v := (4 : Int32)) dX10_init_64 (by decide) ?_
  refine jc_ge_f C (tgt := 87) dX10_init_65 (by decide) (by decide) ?_
  refine jc_aload_n C dX10_init_68 rfl ?_
  refine jc_get C (v := .ref (adr M (c + 364))) dX10_init_69 fl_RX10_37 (by omega) W0_self rfl ?_
  refine jc_iload_n C dX10_init_72 rfl ?_
  refine jc_new C hE dX10_init_73 nw_RX10_35 (by omega) (hE.at hsz (by omega)) ⟨by decide, by decide⟩ ?_
  refine jc_n (n2 := c + 372) (by omega) ?_
  refine jc_congr (cg := W0 c cf 10 [.ref (adr M (c + 1)), .ref (adr M (c + 2)), .ref (adr M (c + 3)), .ref (adr M (c + 58)), .ref (adr M (c + 364)), .int (0 : Int32)] (va_up (va_up (celX M sg0) (c + 364) (.inl (M.2.1 18, 4, .inr (.inr (.inr (.inr (va_up (va_up (va_up (fun _ => none) 0 (some (adr M (c + 365)))) 1 (some (adr M (c + 367)))) 2 (some (adr M (c + 369)))))))))) (c + 371) (.inr (7, [.int 0, .int 0, .null])))) (up_b (by omega) _) ?_
  refine jc_dup C dX10_init_76 rfl ?_
  refine jc_init C hE hAO (As := []) dX10_init_77 (KX7_init l M hE (c + 371) ⟨by omega, (sh_10_9 hc)⟩ _ (by rw [W0_hi (by omega)]; simp [va_up])) vi_RX10_45 ⟨rfl, (mem_g 423 (by decide +kernel) (by decide))⟩ rfl rfl ⟨rfl, rfl⟩ (by decide) (Nat.le_of_ble_eq_true rfl) ⟨by decide, by decide⟩ (by omega) (hE.at hsz (by omega)) ?_
  refine jc_n (n2 := c + 373) (by omega) ?_
  refine jc_congr (cg := W0 c cf 10 [.ref (adr M (c + 1)), .ref (adr M (c + 2)), .ref (adr M (c + 3)), .ref (adr M (c + 58)), .ref (adr M (c + 364)), .int (0 : Int32)] (va_up (celX M sg0) (c + 364) (.inl (M.2.1 18, 4, .inr (.inr (.inr (.inr (va_up (va_up (va_up (fun _ => none) 0 (some (adr M (c + 365)))) 1 (some (adr M (c + 367)))) 2 (some (adr M (c + 369))))))))))) (up_c (by omega) (fun q h1 h2 => by rw [va_up_ne _ _ (by omega)])) ?_
  refine jc_aast C (a := c + 364) (o := c + 371) (k := 18) (kk := 7) (N := 4) (f := va_up (va_up (va_up (fun _ => none) 0 (some (adr M (c + 365)))) 1 (some (adr M (c + 367)))) 2 (some (adr M (c + 369)))) (t0 := 6) dX10_init_80 (by omega) (by omega) (by omega) ((W0_hi (by omega)).trans (by simp [va_up])) ((W0_hi (by omega)).trans ((va_up_ne _ _ (by omega)).trans (celX_obj (sh_10_9 hc) (by decide)))) rfl rfl (by decide) ?_
  refine jc_congr (cg := W0 c cf 10 [.ref (adr M (c + 1)), .ref (adr M (c + 2)), .ref (adr M (c + 3)), .ref (adr M (c + 58)), .ref (adr M (c + 364)), .int (0 : Int32)] (va_up (celX M sg0) (c + 364) (.inl (M.2.1 18, 4, .inr (.inr (.inr (.inr (va_up (va_up (va_up (va_up (fun _ => none) 0 (some (adr M (c + 365)))) 1 (some (adr M (c + 367)))) 2 (some (adr M (c + 369)))) 3 (some (adr M (c + 371))))))))))) (up_d (by omega) _) ?_
  refine jc_iinc C (v := (4 : Int32)) (Ls' := [(1, .int (4 : Int32)), (0, .ref (adr M c))]) dX10_init_81 0 rfl (by decide) (by decide) rfl ?_
  refine jc_goto C (tgt := 63) dX10_init_84 (by decide) ?_
  refine jc_iload_n C dX10_init_63 rfl ?_
  refine jc_iconst C (v := (4 : Int32)) dX10_init_64 (by decide) ?_
  refine jc_ge_t C (tgt := 87) dX10_init_65 (by decide) (by decide) ?_
  exact jc_vret C hE dX10_init_87 (fin0 hself (fun q _ _ => ov_ok hov q)) (by omega) (hE.at hsz (by omega))
