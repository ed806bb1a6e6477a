theorem ff_5_1 : FSF RX5 5 1 (tyX5 1) := ⟨RX5, TX5, 7, tyX5, rfl, tyX5_ok, nmX5, rfl, by decide +kernel, rfl⟩
theorem ff_5_2 : FSF RX5 5 2 (tyX5 2) := ⟨RX5, TX5, 7, tyX5, rfl, tyX5_ok, nmX5, rfl, by decide +kernel, rfl⟩
theorem ff_5_3 : FSF RX5 5 3 (tyX5 3) := ⟨RX5, TX5, 7, tyX5, rfl, tyX5_ok, nmX5, rfl, by decide +kernel, rfl⟩
theorem ff_5_4 : FSF RX5 5 4 (tyX5 4) := ⟨RX5, TX5, 7, tyX5, rfl, tyX5_ok, nmX5, rfl, by decide +kernel, rfl⟩
theorem ff_5_5 : FSF RX5 5 5 (tyX5 5) := ⟨RX5, TX5, 7, tyX5, rfl, tyX5_ok, nmX5, rfl, by decide +kernel, rfl⟩
theorem ff_5_6 : FSF RX5 5 6 (tyX5 6) := ⟨RX5, TX5, 7, tyX5, rfl, tyX5_ok, nmX5, rfl, by decide +kernel, rfl⟩
theorem shb_5_0 : ((List.range NC).all fun c => decide (kd c = 5 → (c + 7 ≤ NC ∧ (kd (c + 1) = 13 ∧ ln (c + 1) = 12 ∧ frT.getD (c + 1) 0 = 0) ∧ (kd (c + 2) = 13 ∧ ln (c + 2) = 12 ∧ frT.getD (c + 2) 0 = 0) ∧ (kd (c + 3) = 13 ∧ ln (c + 3) = 12 ∧ frT.getD (c + 3) 0 = 0) ∧ (kd (c + 4) = 13 ∧ ln (c + 4) = 12 ∧ frT.getD (c + 4) 0 = 0) ∧ (kd (c + 5) = 13 ∧ ln (c + 5) = 12 ∧ frT.getD (c + 5) 0 = 0) ∧ (kd (c + 6) = 13 ∧ ln (c + 6) = 60 ∧ frT.getD (c + 6) 0 = 0) ∧ rf c 1 = c + 1 ∧ rf c 2 = c + 2 ∧ rf c 3 = c + 3 ∧ rf c 4 = c + 4 ∧ rf c 5 = c + 5))) = true := by decide +kernel
theorem shc_5_0 {c : Nat} (h : isK c 5) : c + 7 ≤ NC ∧ (kd (c + 1) = 13 ∧ ln (c + 1) = 12 ∧ frT.getD (c + 1) 0 = 0) ∧ (kd (c + 2) = 13 ∧ ln (c + 2) = 12 ∧ frT.getD (c + 2) 0 = 0) ∧ (kd (c + 3) = 13 ∧ ln (c + 3) = 12 ∧ frT.getD (c + 3) 0 = 0) ∧ (kd (c + 4) = 13 ∧ ln (c + 4) = 12 ∧ frT.getD (c + 4) 0 = 0) ∧ (kd (c + 5) = 13 ∧ ln (c + 5) = 12 ∧ frT.getD (c + 5) 0 = 0) ∧ (kd (c + 6) = 13 ∧ ln (c + 6) = 60 ∧ frT.getD (c + 6) 0 = 0) ∧ rf c 1 = c + 1 ∧ rf c 2 = c + 2 ∧ rf c 3 = c + 3 ∧ rf c 4 = c + 4 ∧ rf c 5 = c + 5 := of_decide_eq_true (List.all_eq_true.mp shb_5_0 c (List.mem_range.mpr h.1)) h.2
theorem shb_5_12 : ((List.range NC).all fun c => decide (kd c = 5 → (rf c 6 = c + 6 ∧ obT.getD c [] = [0, 0, 0, 0, 0, 0, 0]))) = true := by decide +kernel
theorem shc_5_12 {c : Nat} (h : isK c 5) : rf c 6 = c + 6 ∧ obT.getD c [] = [0, 0, 0, 0, 0, 0, 0] := of_decide_eq_true (List.all_eq_true.mp shb_5_12 c (List.mem_range.mpr h.1)) h.2
theorem sh_5_0 {c : Nat} (h : isK c 5) : c + 7 ≤ NC := (shc_5_0 h).1
theorem sh_5_1 {c : Nat} (h : isK c 5) : (kd (c + 1) = 13 ∧ ln (c + 1) = 12 ∧ frT.getD (c + 1) 0 = 0) := (shc_5_0 h).2.1
theorem sh_5_2 {c : Nat} (h : isK c 5) : (kd (c + 2) = 13 ∧ ln (c + 2) = 12 ∧ frT.getD (c + 2) 0 = 0) := (shc_5_0 h).2.2.1
theorem sh_5_3 {c : Nat} (h : isK c 5) : (kd (c + 3) = 13 ∧ ln (c + 3) = 12 ∧ frT.getD (c + 3) 0 = 0) := (shc_5_0 h).2.2.2.1
theorem sh_5_4 {c : Nat} (h : isK c 5) : (kd (c + 4) = 13 ∧ ln (c + 4) = 12 ∧ frT.getD (c + 4) 0 = 0) := (shc_5_0 h).2.2.2.2.1
theorem sh_5_5 {c : Nat} (h : isK c 5) : (kd (c + 5) = 13 ∧ ln (c + 5) = 12 ∧ frT.getD (c + 5) 0 = 0) := (shc_5_0 h).2.2.2.2.2.1
theorem sh_5_6 {c : Nat} (h : isK c 5) : (kd (c + 6) = 13 ∧ ln (c + 6) = 60 ∧ frT.getD (c + 6) 0 = 0) := (shc_5_0 h).2.2.2.2.2.2.1
theorem sh_5_7 {c : Nat} (h : isK c 5) : rf c 1 = c + 1 := (shc_5_0 h).2.2.2.2.2.2.2.1
theorem sh_5_8 {c : Nat} (h : isK c 5) : rf c 2 = c + 2 := (shc_5_0 h).2.2.2.2.2.2.2.2.1
theorem sh_5_9 {c : Nat} (h : isK c 5) : rf c 3 = c + 3 := (shc_5_0 h).2.2.2.2.2.2.2.2.2.1
theorem sh_5_10 {c : Nat} (h : isK c 5) : rf c 4 = c + 4 := (shc_5_0 h).2.2.2.2.2.2.2.2.2.2.1
theorem sh_5_11 {c : Nat} (h : isK c 5) : rf c 5 = c + 5 := (shc_5_0 h).2.2.2.2.2.2.2.2.2.2.2
theorem sh_5_12 {c : Nat} (h : isK c 5) : rf c 6 = c + 6 := (shc_5_12 h).1
theorem sh_5_13 {c : Nat} (h : isK c 5) : obT.getD c [] = [0, 0, 0, 0, 0, 0, 0] := (shc_5_12 h).2
set_option maxRecDepth 100000 in
set_option maxHeartbeats 4000000 in
theorem KX5_init (l : Launch) (M : Mc) (hE : Ex M) (c : Nat) (hc : isK c 5) (cf : Nat → va_E) (hz : cf c = .inr (5, [.int 0, .null, .null, .null, .null, .null, .null])) : CtC l M yX5_init cX5_init 1 { frames := 1, cells := 6, slots := 120, locals := 30 } 6 120 [.ref (adr M c)] (c + 1) cf (c + 7) (mix M c cf) := by
  have hh0 := sh_5_0 hc
  have hi0 : sg0 c 0 = (0 : Int32) := by rw [sg0_obj hc.2 (by decide) (sh_5_13 hc)]; rfl
  have hself : celX M sg0 c = .inr (5, [.int (0 : Int32), .ref (adr M (c + 1)), .ref (adr M (c + 2)), .ref (adr M (c + 3)), .ref (adr M (c + 4)), .ref (adr M (c + 5)), .ref (adr M (c + 6))]) := by
    rw [celX_obj hc.2 (by decide), mp_eq]
    show (Sum.inr (5, [.int (sg0 c 0), .ref (adr M (rf c 1)), .ref (adr M (rf c 2)), .ref (adr M (rf c 3)), .ref (adr M (rf c 4)), .ref (adr M (rf c 5)), .ref (adr M (rf c 6))]) : va_E) = _
    rw [hi0, (sh_5_7 hc), (sh_5_8 hc), (sh_5_9 hc), (sh_5_10 hc), (sh_5_11 hc), (sh_5_12 hc)]
  refine ctc_of (l := l) hE.Dj (by decide) (Nat.le_of_ble_eq_true rfl) ?_
  intro p e s m args below meth cd C hin hsz hAO
  refine jc_congr (cg := W0 c cf 5 [.int 0, .null, .null, .null, .null, .null, .null] (celX M sg0)) (ent0 hz) ?_
  refine jc_aload_n C dX5_init_0 rfl ?_
  refine jc_obj C dX5_init_1 (mem_g 182 (by decide +kernel) (by decide)) lo_1 lo_2 (by decide) (Nat.le_of_ble_eq_true rfl) ?_
  refine jc_aload_n C dX5_init_4 rfl ?_
  refine jc_iconst C (v := (0 : Int32)) dX5_init_5 (by decide) ?_
  refine jc_put C (fs2 := [.int (0 : Int32), .null, .null, .null, .null, .null, .null]) dX5_init_6 fl_RX5_9 fs_5_0 (by omega) (by omega) (Nat.le_of_ble_eq_true rfl) rfl rfl rfl ?_
  refine jc_aload_n C dX5_init_9 rfl ?_
  refine jc_bipush C (v := (12 : Int32)) dX5_init_10 (by decide) ?_
  refine jc_newa_i C hE (N := 12) dX5_init_12 ac_int (by omega) (hE.at hsz (by omega)) (by decide) (by decide) (by decide) ⟨by decide, by decide⟩ ?_
  refine jc_n (n2 := c + 2) (by omega) ?_
  refine jc_congr (cg := W0 c cf 5 [.int (0 : Int32), .null, .null, .null, .null, .null, .null] (celX M sg0)) (up_a (by omega) (celX_arr0 (sh_5_1 hc) (by decide) (by decide)) _) ?_
  refine jc_putF C (fs2 := [.int (0 : Int32), .ref (adr M (c + 1)), .null, .null, .null, .null, .null]) dX5_init_14 fl_RX5_15 ff_5_1 hin (by omega) (by omega) (Nat.le_of_ble_eq_true rfl) rfl rfl rfl ?_
  refine jc_aload_n C dX5_init_17 rfl ?_
  refine jc_bipush C (v := (12 : Int32)) dX5_init_18 (by decide) ?_
  refine jc_newa_i C hE (N := 12) dX5_init_20 ac_int (by omega) (hE.at hsz (by omega)) (by decide) (by decide) (by decide) ⟨by decide, by decide⟩ ?_
  refine jc_n (n2 := c + 3) (by omega) ?_
  refine jc_congr (cg := W0 c cf 5 [.int (0 : Int32), .ref (adr M (c + 1)), .null, .null, .null, .null, .null] (celX M sg0)) (up_a (by omega) (celX_arr0 (sh_5_2 hc) (by decide) (by decide)) _) ?_
  refine jc_putF C (fs2 := [.int (0 : Int32), .ref (adr M (c + 1)), .ref (adr M (c + 2)), .null, .null, .null, .null]) dX5_init_22 fl_RX5_19 ff_5_2 hin (by omega) (by omega) (Nat.le_of_ble_eq_true rfl) rfl rfl rfl ?_
  refine jc_aload_n C dX5_init_25 rfl ?_
  refine jc_bipush C (v := (12 : Int32)) dX5_init_26 (by decide) ?_
  refine jc_newa_i C hE (N := 12) dX5_init_28 ac_int (by omega) (hE.at hsz (by omega)) (by decide) (by decide) (by decide) ⟨by decide, by decide⟩ ?_
  refine jc_n (n2 := c + 4) (by omega) ?_
  refine jc_congr (cg := W0 c cf 5 [.int (0 : Int32), .ref (adr M (c + 1)), .ref (adr M (c + 2)), .null, .null, .null, .null] (celX M sg0)) (up_a (by omega) (celX_arr0 (sh_5_3 hc) (by decide) (by decide)) _) ?_
  refine jc_putF C (fs2 := [.int (0 : Int32), .ref (adr M (c + 1)), .ref (adr M (c + 2)), .ref (adr M (c + 3)), .null, .null, .null]) dX5_init_30 fl_RX5_22 ff_5_3 hin (by omega) (by omega) (Nat.le_of_ble_eq_true rfl) rfl rfl rfl ?_
  refine jc_aload_n C dX5_init_33 rfl ?_
  refine jc_bipush C (v := (12 : Int32)) dX5_init_34 (by decide) ?_
  refine jc_newa_i C hE (N := 12) dX5_init_36 ac_int (by omega) (hE.at hsz (by omega)) (by decide) (by decide) (by decide) ⟨by decide, by decide⟩ ?_
  refine jc_n (n2 := c + 5) (by omega) ?_
  refine jc_congr (cg := W0 c cf 5 [.int (0 : Int32), .ref (adr M (c + 1)), .ref (adr M (c + 2)), .ref (adr M (c + 3)), .null, .null, .null] (celX M sg0)) (up_a (by omega) (celX_arr0 (sh_5_4 hc) (by decide) (by decide)) _) ?_
  refine jc_putF C (fs2 := [.int (0 : Int32), .ref (adr M (c + 1)), .ref (adr M (c + 2)), .ref (adr M (c + 3)), .ref (adr M (c + 4)), .null, .null]) dX5_init_38 fl_RX5_25 ff_5_4 hin (by omega) (by omega) (Nat.le_of_ble_eq_true rfl) rfl rfl rfl ?_
  refine jc_aload_n C dX5_init_41 rfl ?_
  refine jc_bipush C (v := (12 : Int32)) dX5_init_42 (by decide) ?_
  refine jc_newa_i C hE (N := 12) dX5_init_44 ac_int (by omega) (hE.at hsz (by omega)) (by decide) (by decide) (by decide) ⟨by decide, by decide⟩ ?_
  refine jc_n (n2 := c + 6) (by omega) ?_
  refine jc_congr (cg := W0 c cf 5 [.int (0 : Int32), .ref (adr M (c + 1)), .ref (adr M (c + 2)), .ref (adr M (c + 3)), .ref (adr M (c + 4)), .null, .null] (celX M sg0)) (up_a (by omega) (celX_arr0 (sh_5_5 hc) (by decide) (by decide)) _) ?_
  refine jc_putF C (fs2 := [.int (0 : Int32), .ref (adr M (c + 1)), .ref (adr M (c + 2)), .ref (adr M (c + 3)), .ref (adr M (c + 4)), .ref (adr M (c + 5)), .null]) dX5_init_46 fl_RX5_28 ff_5_5 hin (by omega) (by omega) (Nat.le_of_ble_eq_true rfl) rfl rfl rfl ?_
  refine jc_aload_n C dX5_init_49 rfl ?_
  refine jc_bipush C (v := (60 : Int32)) dX5_init_50 (by decide) ?_
  refine jc_newa_i C hE (N := 60) dX5_init_52 ac_int (by omega) (hE.at hsz (by omega)) (by decide) (by decide) (by decide) ⟨by decide, by decide⟩ ?_
  refine jc_n (n2 := c + 7) (by omega) ?_
  refine jc_congr (cg := W0 c cf 5 [.int (0 : Int32), .ref (adr M (c + 1)), .ref (adr M (c + 2)), .ref (adr M (c + 3)), .ref (adr M (c + 4)), .ref (adr M (c + 5)), .null] (celX M sg0)) (up_a (by omega) (celX_arr0 (sh_5_6 hc) (by decide) (by decide)) _) ?_
  refine jc_putF C (fs2 := [.int (0 : Int32), .ref (adr M (c + 1)), .ref (adr M (c + 2)), .ref (adr M (c + 3)), .ref (adr M (c + 4)), .ref (adr M (c + 5)), .ref (adr M (c + 6))]) dX5_init_54 fl_RX5_31 ff_5_6 hin (by omega) (by omega) (Nat.le_of_ble_eq_true rfl) rfl rfl rfl ?_
  exact jc_vret C hE dX5_init_57 (fin0 hself (fun q _ _ => rfl)) (by omega) (hE.at hsz (by omega))
