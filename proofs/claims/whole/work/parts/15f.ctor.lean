theorem nw_RX3_9 : NW RX3 9 8 3 [.int 0, .null, .null] := ⟨RX8, TX8, tyX8, rfl, cw_X8, ⟨(mem_g 116 (by decide +kernel) (by decide)), (mem_g 117 (by decide +kernel) (by decide)), (mem_g 79 (by decide +kernel) (by decide))⟩, tyX8_ok, by decide +kernel⟩
theorem vi_RX3_11 : VB RX3 11 yX8_init cX8_init 1 none 0 := ⟨⟨(mem_g 120 (by decide +kernel) (by decide)), (mem_g 79 (by decide +kernel) (by decide)), (mem_g 118 (by decide +kernel) (by decide))⟩, by decide, by decide, by decide +kernel⟩
theorem ff_3_0 : FSF RX3 3 0 (tyX3 0) := ⟨RX3, TX3, 6, tyX3, rfl, tyX3_ok, nmX3, rfl, by decide +kernel, rfl⟩
theorem nw_RX3_18 : NW RX3 18 9 6 [.int 0, .null, .null, .null, .null, .null] := ⟨RX9, TX9, tyX9, rfl, cw_X9, ⟨(mem_g 142 (by decide +kernel) (by decide)), (mem_g 143 (by decide +kernel) (by decide)), (mem_g 81 (by decide +kernel) (by decide))⟩, tyX9_ok, by decide +kernel⟩
theorem vi_RX3_20 : VB RX3 20 yX9_init cX9_init 1 none 0 := ⟨⟨(mem_g 146 (by decide +kernel) (by decide)), (mem_g 81 (by decide +kernel) (by decide)), (mem_g 144 (by decide +kernel) (by decide))⟩, by decide, by decide, by decide +kernel⟩
theorem ff_3_1 : FSF RX3 3 1 (tyX3 1) := ⟨RX3, TX3, 6, tyX3, rfl, tyX3_ok, nmX3, rfl, by decide +kernel, rfl⟩
theorem nw_RX3_25 : NW RX3 25 5 7 [.int 0, .null, .null, .null, .null, .null, .null] := ⟨RX5, TX5, tyX5, rfl, cw_X5, ⟨(mem_g 177 (by decide +kernel) (by decide)), (mem_g 178 (by decide +kernel) (by decide)), (mem_g 82 (by decide +kernel) (by decide))⟩, tyX5_ok, by decide +kernel⟩
theorem vi_RX3_27 : VB RX3 27 yX5_init cX5_init 1 none 0 := ⟨⟨(mem_g 181 (by decide +kernel) (by decide)), (mem_g 82 (by decide +kernel) (by decide)), (mem_g 179 (by decide +kernel) (by decide))⟩, by decide, by decide, by decide +kernel⟩
theorem ff_3_2 : FSF RX3 3 2 (tyX3 2) := ⟨RX3, TX3, 6, tyX3, rfl, tyX3_ok, nmX3, rfl, by decide +kernel, rfl⟩
theorem ff_3_4 : FSF RX3 3 4 (tyX3 4) := ⟨RX3, TX3, 6, tyX3, rfl, tyX3_ok, nmX3, rfl, by decide +kernel, rfl⟩
theorem ff_3_5 : FSF RX3 3 5 (tyX3 5) := ⟨RX3, TX3, 6, tyX3, rfl, tyX3_ok, nmX3, rfl, by decide +kernel, rfl⟩
theorem shb_3_0 : ((List.range NC).all fun c => decide (kd c = 3 → (c + 19 ≤ NC ∧ kd (c + 1) = 8 ∧ kd (c + 4) = 9 ∧ kd (c + 10) = 5 ∧ (kd (c + 17) = 13 ∧ ln (c + 17) = 6 ∧ frT.getD (c + 17) 0 = 0) ∧ (kd (c + 18) = 13 ∧ ln (c + 18) = 6 ∧ frT.getD (c + 18) 0 = 0) ∧ rf c 0 = c + 1 ∧ rf c 1 = c + 4 ∧ rf c 2 = c + 10 ∧ rf c 4 = c + 17 ∧ rf c 5 = c + 18 ∧ obT.getD c [] = [0, 0, 0, 0, 0, 0]))) = true := by decide +kernel
theorem shc_3_0 {c : Nat} (h : isK c 3) : c + 19 ≤ NC ∧ kd (c + 1) = 8 ∧ kd (c + 4) = 9 ∧ kd (c + 10) = 5 ∧ (kd (c + 17) = 13 ∧ ln (c + 17) = 6 ∧ frT.getD (c + 17) 0 = 0) ∧ (kd (c + 18) = 13 ∧ ln (c + 18) = 6 ∧ frT.getD (c + 18) 0 = 0) ∧ rf c 0 = c + 1 ∧ rf c 1 = c + 4 ∧ rf c 2 = c + 10 ∧ rf c 4 = c + 17 ∧ rf c 5 = c + 18 ∧ obT.getD c [] = [0, 0, 0, 0, 0, 0] := of_decide_eq_true (List.all_eq_true.mp shb_3_0 c (List.mem_range.mpr h.1)) h.2
theorem sh_3_0 {c : Nat} (h : isK c 3) : c + 19 ≤ NC := (shc_3_0 h).1
theorem sh_3_1 {c : Nat} (h : isK c 3) : kd (c + 1) = 8 := (shc_3_0 h).2.1
theorem sh_3_2 {c : Nat} (h : isK c 3) : kd (c + 4) = 9 := (shc_3_0 h).2.2.1
theorem sh_3_3 {c : Nat} (h : isK c 3) : kd (c + 10) = 5 := (shc_3_0 h).2.2.2.1
theorem sh_3_4 {c : Nat} (h : isK c 3) : (kd (c + 17) = 13 ∧ ln (c + 17) = 6 ∧ frT.getD (c + 17) 0 = 0) := (shc_3_0 h).2.2.2.2.1
theorem sh_3_5 {c : Nat} (h : isK c 3) : (kd (c + 18) = 13 ∧ ln (c + 18) = 6 ∧ frT.getD (c + 18) 0 = 0) := (shc_3_0 h).2.2.2.2.2.1
theorem sh_3_6 {c : Nat} (h : isK c 3) : rf c 0 = c + 1 := (shc_3_0 h).2.2.2.2.2.2.1
theorem sh_3_7 {c : Nat} (h : isK c 3) : rf c 1 = c + 4 := (shc_3_0 h).2.2.2.2.2.2.2.1
theorem sh_3_8 {c : Nat} (h : isK c 3) : rf c 2 = c + 10 := (shc_3_0 h).2.2.2.2.2.2.2.2.1
theorem sh_3_9 {c : Nat} (h : isK c 3) : rf c 4 = c + 17 := (shc_3_0 h).2.2.2.2.2.2.2.2.2.1
theorem sh_3_10 {c : Nat} (h : isK c 3) : rf c 5 = c + 18 := (shc_3_0 h).2.2.2.2.2.2.2.2.2.2.1
theorem sh_3_11 {c : Nat} (h : isK c 3) : obT.getD c [] = [0, 0, 0, 0, 0, 0] := (shc_3_0 h).2.2.2.2.2.2.2.2.2.2.2
set_option maxRecDepth 100000 in
set_option maxHeartbeats 4000000 in
theorem KX3_init (l : Launch) (M : Mc) (hE : Ex M) (c : Nat) (hc : isK c 3) (cf : Nat → va_E) (hz : cf c = .inr (3, [.null, .null, .null, .int 0, .null, .null])) : CtC l M yX3_init cX3_init 1 { frames := 2, cells := 18, slots := 186, locals := 50 } 18 186 [.ref (adr M c)] (c + 1) cf (c + 19) (mix M c cf) := by
  have hh0 := sh_3_0 hc
  have hi3 : sg0 c 3 = (0 : Int32) := by rw [sg0_obj hc.2 (by decide) (sh_3_11 hc)]; rfl
  have hself : celX M sg0 c = .inr (3, [.ref (adr M (c + 1)), .ref (adr M (c + 4)), .ref (adr M (c + 10)), .int (0 : Int32), .ref (adr M (c + 17)), .ref (adr M (c + 18))]) := by
    rw [celX_obj hc.2 (by decide), mp_eq]
    show (Sum.inr (3, [.ref (adr M (rf c 0)), .ref (adr M (rf c 1)), .ref (adr M (rf c 2)), .int (sg0 c 3), .ref (adr M (rf c 4)), .ref (adr M (rf c 5))]) : va_E) = _
    rw [hi3, (sh_3_6 hc), (sh_3_7 hc), (sh_3_8 hc), (sh_3_9 hc), (sh_3_10 hc)]
  refine ctc_of (l := l) hE.Dj (by decide) (Nat.le_of_ble_eq_true rfl) ?_
  intro p e s m args below meth cd C hin hsz hAO
  refine jc_congr (cg := W0 c cf 3 [.null, .null, .null, .int 0, .null, .null] (celX M sg0)) (ent0 hz) ?_
  refine jc_aload_n C dX3_init_0 rfl ?_
  refine jc_obj C dX3_init_1 (mem_g 115 (by decide +kernel) (by decide)) lo_1 lo_2 (by decide) (Nat.le_of_ble_eq_true rfl) ?_
  refine jc_aload_n C dX3_init_4 rfl ?_
  refine jc_new C hE dX3_init_5 nw_RX3_9 (by omega) (hE.at hsz (by omega)) ⟨by decide, by decide⟩ ?_
  refine jc_n (n2 := c + 2) (by omega) ?_
  refine jc_congr (cg := W0 c cf 3 [.null, .null, .null, .int 0, .null, .null] (va_up (celX M sg0) (c + 1) (.inr (8, [.int 0, .null, .null])))) (up_b (by omega) _) ?_
  refine jc_dup C dX3_init_8 rfl ?_
  refine jc_init C hE hAO (As := []) dX3_init_9 (KX8_init l M hE (c + 1) ⟨by omega, (sh_3_1 hc)⟩ _ (by rw [W0_hi (by omega)]; simp [va_up])) vi_RX3_11 ⟨rfl, (mem_g 119 (by decide +kernel) (by decide))⟩ rfl rfl ⟨rfl, rfl⟩ (by decide) (Nat.le_of_ble_eq_true rfl) ⟨by decide, by decide⟩ (by omega) (hE.at hsz (by omega)) ?_
  refine jc_n (n2 := c + 4) (by omega) ?_
  refine jc_congr (cg := W0 c cf 3 [.null, .null, .null, .int 0, .null, .null] (celX M sg0)) (up_c (by omega) (fun q h1 h2 => rfl)) ?_
  refine jc_putF C (fs2 := [.ref (adr M (c + 1)), .null, .null, .int 0, .null, .null]) dX3_init_12 fl_RX3_12 ff_3_0 hin (by omega) (by omega) (Nat.le_of_ble_eq_true rfl) rfl rfl rfl ?_
  refine jc_aload_n C dX3_init_15 rfl ?_
  refine jc_new C hE dX3_init_16 nw_RX3_18 (by omega) (hE.at hsz (by omega)) ⟨by decide, by decide⟩ ?_
  refine jc_n (n2 := c + 5) (by omega) ?_
  refine jc_congr (cg := W0 c cf 3 [.ref (adr M (c + 1)), .null, .null, .int 0, .null, .null] (va_up (celX M sg0) (c + 4) (.inr (9, [.int 0, .null, .null, .null, .null, .null])))) (up_b (by omega) _) ?_
  refine jc_dup C dX3_init_19 rfl ?_
  refine jc_init C hE hAO (As := []) dX3_init_20 (KX9_init l M hE (c + 4) ⟨by omega, (sh_3_2 hc)⟩ _ (by rw [W0_hi (by omega)]; simp [va_up])) vi_RX3_20 ⟨rfl, (mem_g 145 (by decide +kernel) (by decide))⟩ rfl rfl ⟨rfl, rfl⟩ (by decide) (Nat.le_of_ble_eq_true rfl) ⟨by decide, by decide⟩ (by omega) (hE.at hsz (by omega)) ?_
  refine jc_n (n2 := c + 10) (by omega) ?_
  refine jc_congr (cg := W0 c cf 3 [.ref (adr M (c + 1)), .null, .null, .int 0, .null, .null] (celX M sg0)) (up_c (by omega) (fun q h1 h2 => rfl)) ?_
  refine jc_putF C (fs2 := [.ref (adr M (c + 1)), .ref (adr M (c + 4)), .null, .int 0, .null, .null]) dX3_init_23 fl_RX3_21 ff_3_1 hin (by omega) (by omega) (Nat.le_of_ble_eq_true rfl) rfl rfl rfl ?_
  refine jc_aload_n C dX3_init_26 rfl ?_
  refine jc_new C hE dX3_init_27 nw_RX3_25 (by omega) (hE.at hsz (by omega)) ⟨by decide, by decide⟩ ?_
  refine jc_n (n2 := c + 11) (by omega) ?_
  refine jc_congr (cg := W0 c cf 3 [.ref (adr M (c + 1)), .ref (adr M (c + 4)), .null, .int 0, .null, .null] (va_up (celX M sg0) (c + 10) (.inr (5, [.int 0, .null, .null, .null, .null, .null, .null])))) (up_b (by omega) _) ?_
  refine jc_dup C dX3_init_30 rfl ?_
  refine jc_init C hE hAO (As := []) dX3_init_31 (KX5_init l M hE (c + 10) ⟨by omega, (sh_3_3 hc)⟩ _ (by rw [W0_hi (by omega)]; simp [va_up])) vi_RX3_27 ⟨rfl, (mem_g 180 (by decide +kernel) (by decide))⟩ rfl rfl ⟨rfl, rfl⟩ (by decide) (Nat.le_of_ble_eq_true rfl) ⟨by decide, by decide⟩ (by omega) (hE.at hsz (by omega)) ?_
  refine jc_n (n2 := c + 17) (by omega) ?_
  refine jc_congr (cg := W0 c cf 3 [.ref (adr M (c + 1)), .ref (adr M (c + 4)), .null, .int 0, .null, .null] (celX M sg0)) (up_c (by omega) (fun q h1 h2 => rfl)) ?_
  refine jc_putF C (fs2 := [.ref (adr M (c + 1)), .ref (adr M (c + 4)), .ref (adr M (c + 10)), .int 0, .null, .null]) dX3_init_34 fl_RX3_28 ff_3_2 hin (by omega) (by omega) (Nat.le_of_ble_eq_true rfl) rfl rfl rfl ?_
  refine jc_aload_n C dX3_init_37 rfl ?_
  refine jc_iconst C (v := (0 : Int32)) dX3_init_38 (by decide) ?_
  refine jc_put C (fs2 := [.ref (adr M (c + 1)), .ref (adr M (c + 4)), .ref (adr M (c + 10)), .int (0 : Int32), .null, .null]) dX3_init_39 fl_RX3_32 fs_3_3 (by omega) (by omega) (Nat.le_of_ble_eq_true rfl) rfl rfl rfl ?_
  refine jc_aload_n C dX3_init_42 rfl ?_
  refine jc_bipush C (v := (6 : Int32)) dX3_init_43 (by decide) ?_
  refine jc_newa_i C hE (N := 6) dX3_init_45 ac_int (by omega) (hE.at hsz (by omega)) (by decide) (by decide) (by decide) ⟨by decide, by decide⟩ ?_
  refine jc_n (n2 := c + 18) (by omega) ?_
  refine jc_congr (cg := W0 c cf 3 [.ref (adr M (c + 1)), .ref (adr M (c + 4)), .ref (adr M (c + 10)), .int (0 : Int32), .null, .null] (celX M sg0)) (up_a (by omega) (celX_arr0 (sh_3_4 hc) (by decide) (by decide)) _) ?_
  refine jc_putF C (fs2 := [.ref (adr M (c + 1)), .ref (adr M (c + 4)), .ref (adr M (c + 10)), .int (0 : Int32), .ref (adr M (c + 17)), .null]) dX3_init_47 fl_RX3_36 ff_3_4 hin (by omega) (by omega) (Nat.le_of_ble_eq_true rfl) rfl rfl rfl ?_
  refine jc_aload_n C dX3_init_50 rfl ?_
  refine jc_bipush C (v := (6 : Int32)) dX3_init_51 (by decide) ?_
  refine jc_newa_i C hE (N := 6) dX3_init_53 ac_int (by omega) (hE.at hsz (by omega)) (by decide) (by decide) (by decide) ⟨by decide, by decide⟩ ?_
  refine jc_n (n2 := c + 19) (by omega) ?_
  refine jc_congr (cg := W0 c cf 3 [.ref (adr M (c + 1)), .ref (adr M (c + 4)), .ref (adr M (c + 10)), .int (0 : Int32), .ref (adr M (c + 17)), .null] (celX M sg0)) (up_a (by omega) (celX_arr0 (sh_3_5 hc) (by decide) (by decide)) _) ?_
  refine jc_putF C (fs2 := [.ref (adr M (c + 1)), .ref (adr M (c + 4)), .ref (adr M (c + 10)), .int (0 : Int32), .ref (adr M (c + 17)), .ref (adr M (c + 18))]) dX3_init_55 fl_RX3_40 ff_3_5 hin (by omega) (by omega) (Nat.le_of_ble_eq_true rfl) rfl rfl rfl ?_
  exact jc_vret C hE dX3_init_58 (fin0 hself (fun q _ _ => rfl)) (by omega) (hE.at hsz (by omega))
