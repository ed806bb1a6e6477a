theorem nw_RX4_9 : NW RX4 9 0 15 [.null, .null, .int 0, .null, .null, .null, .null, .null, .null, .null, .null, .null, .null, .int 0, .int 0] := ⟨RX0, TX0, tyX0, rfl, cw_X0, ⟨(mem_g 104 (by decide +kernel) (by decide)), (mem_g 105 (by decide +kernel) (by decide)), (mem_g 77 (by decide +kernel) (by decide))⟩, tyX0_ok, by decide +kernel⟩
theorem vi_RX4_11 : VB RX4 11 yX0_init cX0_init 2 none 0 := ⟨⟨(mem_g 108 (by decide +kernel) (by decide)), (mem_g 77 (by decide +kernel) (by decide)), (mem_g 106 (by decide +kernel) (by decide))⟩, by decide, by decide, by decide +kernel⟩
theorem ff_4_0 : FSF RX4 4 0 (tyX4 0) := ⟨RX4, TX4, 4, tyX4, rfl, tyX4_ok, nmX4, rfl, by decide +kernel, rfl⟩
theorem fl_RX4_18 : FL RX4 18 0 0 := ⟨RX0, TX0, 15, rfl, by decide, cw_X0, (mem_g 337 (by decide +kernel) (by decide))⟩
theorem ff_4_1 : FSF RX4 4 1 (tyX4 1) := ⟨RX4, TX4, 4, tyX4, rfl, tyX4_ok, nmX4, rfl, by decide +kernel, rfl⟩
theorem ff_4_2 : FSF RX4 4 2 (tyX4 2) := ⟨RX4, TX4, 4, tyX4, rfl, tyX4_ok, nmX4, rfl, by decide +kernel, rfl⟩
theorem shb_4_0 : ((List.range NC).all fun c => decide (kd c = 4 → (c + 57 ≤ NC ∧ kd (c + 1) = 0 ∧ rf (c + 1) 0 = c + 2 ∧ (kd (c + 56) = 13 ∧ ln (c + 56) = 175 ∧ frT.getD (c + 56) 0 = 0) ∧ rf c 0 = c + 1 ∧ rf c 1 = c + 2 ∧ rf c 2 = c + 56 ∧ obT.getD c [] = [0, 0, 0, 0]))) = true := by decide +kernel
theorem shc_4_0 {c : Nat} (h : isK c 4) : c + 57 ≤ NC ∧ kd (c + 1) = 0 ∧ rf (c + 1) 0 = c + 2 ∧ (kd (c + 56) = 13 ∧ ln (c + 56) = 175 ∧ frT.getD (c + 56) 0 = 0) ∧ rf c 0 = c + 1 ∧ rf c 1 = c + 2 ∧ rf c 2 = c + 56 ∧ obT.getD c [] = [0, 0, 0, 0] := of_decide_eq_true (List.all_eq_true.mp shb_4_0 c (List.mem_range.mpr h.1)) h.2
theorem sh_4_0 {c : Nat} (h : isK c 4) : c + 57 ≤ NC := (shc_4_0 h).1
theorem sh_4_1 {c : Nat} (h : isK c 4) : kd (c + 1) = 0 := (shc_4_0 h).2.1
theorem sh_4_2 {c : Nat} (h : isK c 4) : rf (c + 1) 0 = c + 2 := (shc_4_0 h).2.2.1
theorem sh_4_3 {c : Nat} (h : isK c 4) : (kd (c + 56) = 13 ∧ ln (c + 56) = 175 ∧ frT.getD (c + 56) 0 = 0) := (shc_4_0 h).2.2.2.1
theorem sh_4_4 {c : Nat} (h : isK c 4) : rf c 0 = c + 1 := (shc_4_0 h).2.2.2.2.1
theorem sh_4_5 {c : Nat} (h : isK c 4) : rf c 1 = c + 2 := (shc_4_0 h).2.2.2.2.2.1
theorem sh_4_6 {c : Nat} (h : isK c 4) : rf c 2 = c + 56 := (shc_4_0 h).2.2.2.2.2.2.1
theorem sh_4_7 {c : Nat} (h : isK c 4) : obT.getD c [] = [0, 0, 0, 0] := (shc_4_0 h).2.2.2.2.2.2.2
set_option maxRecDepth 100000 in
set_option maxHeartbeats 4000000 in
theorem KX4_init (l : Launch) (M : Mc) (hE : Ex M) (c : Nat) (hc : isK c 4) (cf : Nat → va_E) (hz : cf c = .inr (4, [.null, .null, .null, .int 0])) : CtC l M yX4_init cX4_init 1 { frames := 4, cells := 56, slots := 5708, locals := 91 } 56 5708 [.ref (adr M c)] (c + 1) cf (c + 57) (mix M c cf) := by
  have hh0 := sh_4_0 hc
  have hi3 : sg0 c 3 = (0 : Int32) := by rw [sg0_obj hc.2 (by decide) (sh_4_7 hc)]; rfl
  have hself : celX M sg0 c = .inr (4, [.ref (adr M (c + 1)), .ref (adr M (c + 2)), .ref (adr M (c + 56)), .int (0 : Int32)]) := by
    rw [celX_obj hc.2 (by decide), mp_eq]
    show (Sum.inr (4, [.ref (adr M (rf c 0)), .ref (adr M (rf c 1)), .ref (adr M (rf c 2)), .int (sg0 c 3)]) : va_E) = _
    rw [hi3, (sh_4_4 hc), (sh_4_5 hc), (sh_4_6 hc)]
  refine ctc_of (l := l) hE.Dj (by decide) (Nat.le_of_ble_eq_true rfl) ?_
  intro p e s m args below meth cd C hin hsz hAO
  refine jc_congr (cg := W0 c cf 4 [.null, .null, .null, .int 0] (celX M sg0)) (ent0 hz) ?_
  refine jc_aload_n C dX4_init_0 rfl ?_
  refine jc_obj C dX4_init_1 (mem_g 103 (by decide +kernel) (by decide)) lo_1 lo_2 (by decide) (Nat.le_of_ble_eq_true rfl) ?_
  refine jc_aload_n C dX4_init_4 rfl ?_
  refine jc_new C hE dX4_init_5 nw_RX4_9 (by omega) (hE.at hsz (by omega)) ⟨by decide, by decide⟩ ?_
  refine jc_n (n2 := c + 2) (by omega) ?_
  refine jc_congr (cg := W0 c cf 4 [.null, .null, .null, .int 0] (va_up (celX M sg0) (c + 1) (.inr (0, [.null, .null, .int 0, .null, .null, .null, .null, .null, .null, .null, .null, .null, .null, .int 0, .int 0])))) (up_b (by omega) _) ?_
  refine jc_dup C dX4_init_8 rfl ?_
  refine jc_init C hE hAO (As := []) dX4_init_9 (KX0_init l M hE (c + 1) ⟨by omega, (sh_4_1 hc)⟩ _ (by rw [W0_hi (by omega)]; simp [va_up])) vi_RX4_11 ⟨rfl, (mem_g 107 (by decide +kernel) (by decide))⟩ rfl rfl ⟨rfl, rfl⟩ (by decide) (Nat.le_of_ble_eq_true rfl) ⟨by decide, by decide⟩ (by omega) (hE.at hsz (by omega)) ?_
  refine jc_n (n2 := c + 56) (by omega) ?_
  refine jc_congr (cg := W0 c cf 4 [.null, .null, .null, .int 0] (celX M sg0)) (up_c (by omega) (fun q h1 h2 => rfl)) ?_
  refine jc_putF C (fs2 := [.ref (adr M (c + 1)), .null, .null, .int 0]) dX4_init_12 fl_RX4_12 ff_4_0 hin (by omega) (by omega) (Nat.le_of_ble_eq_true rfl) rfl rfl rfl ?_
  refine jc_aload_n C dX4_init_15 rfl ?_
  refine jc_aload_n C dX4_init_16 rfl ?_
  refine jc_get C (v := .ref (adr M (c + 1))) dX4_init_17 fl_RX4_12 (by omega) W0_self rfl ?_
  refine jc_get C (v := .ref (adr M (c + 2))) dX4_init_20 fl_RX4_18 (by omega) ((W0_hi (by omega)).trans (celX_obj (sh_4_1 hc) (by decide))) (by show some (Value.ref (adr M (rf (c + 1) 0))) = _; rw [(sh_4_2 hc)]) ?_
  refine jc_putF C (fs2 := [.ref (adr M (c + 1)), .ref (adr M (c + 2)), .null, .int 0]) dX4_init_23 fl_RX4_22 ff_4_1 hin (by omega) (by omega) (Nat.le_of_ble_eq_true rfl) rfl rfl rfl ?_
  refine jc_aload_n C dX4_init_26 rfl ?_
  refine jc_sipush C (v := (175 : Int32)) dX4_init_27 (by decide) ?_
  refine jc_newa_i C hE (N := 175) dX4_init_30 ac_int (by omega) (hE.at hsz (by omega)) (by decide) (by decide) (by decide) ⟨by decide, by decide⟩ ?_
  refine jc_n (n2 := c + 57) (by omega) ?_
  refine jc_congr (cg := W0 c cf 4 [.ref (adr M (c + 1)), .ref (adr M (c + 2)), .null, .int 0] (celX M sg0)) (up_a (by omega) (celX_arr0 (sh_4_3 hc) (by decide) (by decide)) _) ?_
  refine jc_putF C (fs2 := [.ref (adr M (c + 1)), .ref (adr M (c + 2)), .ref (adr M (c + 56)), .int 0]) dX4_init_32 fl_RX4_23 ff_4_2 hin (by omega) (by omega) (Nat.le_of_ble_eq_true rfl) rfl rfl rfl ?_
  refine jc_aload_n C dX4_init_35 rfl ?_
  refine jc_iconst C (v := (0 : Int32)) dX4_init_36 (by decide) ?_
  refine jc_put C (fs2 := [.ref (adr M (c + 1)), .ref (adr M (c + 2)), .ref (adr M (c + 56)), .int (0 : Int32)]) dX4_init_37 fl_RX4_27 fs_4_3 (by omega) (by omega) (Nat.le_of_ble_eq_true rfl) rfl rfl rfl ?_
  exact jc_vret C hE dX4_init_40 (fin0 hself (fun q _ _ => rfl)) (by omega) (hE.at hsz (by omega))
