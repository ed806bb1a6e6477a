theorem ff_1_1 : FSF RX1 1 1 (tyX1 1) := ⟨RX1, TX1, 13, tyX1, rfl, tyX1_ok, nmX1, rfl, by decide +kernel, rfl⟩
theorem ff_1_2 : FSF RX1 1 2 (tyX1 2) := ⟨RX1, TX1, 13, tyX1, rfl, tyX1_ok, nmX1, rfl, by decide +kernel, rfl⟩
theorem ff_1_3 : FSF RX1 1 3 (tyX1 3) := ⟨RX1, TX1, 13, tyX1, rfl, tyX1_ok, nmX1, rfl, by decide +kernel, rfl⟩
theorem ff_1_4 : FSF RX1 1 4 (tyX1 4) := ⟨RX1, TX1, 13, tyX1, rfl, tyX1_ok, nmX1, rfl, by decide +kernel, rfl⟩
theorem shb_1_0 : ((List.range NC).all fun c => decide (kd c = 1 → (c + 5 ≤ NC ∧ (kd (c + 1) = 14 ∧ ln (c + 1) = 2505 ∧ frT.getD (c + 1) 0 = 0) ∧ (kd (c + 2) = 12 ∧ ln (c + 2) = 2505 ∧ frT.getD (c + 2) 0 = 0) ∧ (kd (c + 3) = 13 ∧ ln (c + 3) = 35 ∧ frT.getD (c + 3) 0 = 0) ∧ (kd (c + 4) = 13 ∧ ln (c + 4) = 35 ∧ frT.getD (c + 4) 0 = 0) ∧ rf c 1 = c + 1 ∧ rf c 2 = c + 2 ∧ rf c 3 = c + 3 ∧ rf c 4 = c + 4 ∧ obT.getD c [] = [0, 0, 0, 0, 0, 0, 0, -1, -1, -1, -1, 0, 0]))) = true := by decide +kernel
theorem shc_1_0 {c : Nat} (h : isK c 1) : c + 5 ≤ NC ∧ (kd (c + 1) = 14 ∧ ln (c + 1) = 2505 ∧ frT.getD (c + 1) 0 = 0) ∧ (kd (c + 2) = 12 ∧ ln (c + 2) = 2505 ∧ frT.getD (c + 2) 0 = 0) ∧ (kd (c + 3) = 13 ∧ ln (c + 3) = 35 ∧ frT.getD (c + 3) 0 = 0) ∧ (kd (c + 4) = 13 ∧ ln (c + 4) = 35 ∧ frT.getD (c + 4) 0 = 0) ∧ rf c 1 = c + 1 ∧ rf c 2 = c + 2 ∧ rf c 3 = c + 3 ∧ rf c 4 = c + 4 ∧ obT.getD c [] = [0, 0, 0, 0, 0, 0, 0, -1, -1, -1, -1, 0, 0] := of_decide_eq_true (List.all_eq_true.mp shb_1_0 c (List.mem_range.mpr h.1)) h.2
theorem sh_1_0 {c : Nat} (h : isK c 1) : c + 5 ≤ NC := (shc_1_0 h).1
theorem sh_1_1 {c : Nat} (h : isK c 1) : (kd (c + 1) = 14 ∧ ln (c + 1) = 2505 ∧ frT.getD (c + 1) 0 = 0) := (shc_1_0 h).2.1
theorem sh_1_2 {c : Nat} (h : isK c 1) : (kd (c + 2) = 12 ∧ ln (c + 2) = 2505 ∧ frT.getD (c + 2) 0 = 0) := (shc_1_0 h).2.2.1
theorem sh_1_3 {c : Nat} (h : isK c 1) : (kd (c + 3) = 13 ∧ ln (c + 3) = 35 ∧ frT.getD (c + 3) 0 = 0) := (shc_1_0 h).2.2.2.1
theorem sh_1_4 {c : Nat} (h : isK c 1) : (kd (c + 4) = 13 ∧ ln (c + 4) = 35 ∧ frT.getD (c + 4) 0 = 0) := (shc_1_0 h).2.2.2.2.1
theorem sh_1_5 {c : Nat} (h : isK c 1) : rf c 1 = c + 1 := (shc_1_0 h).2.2.2.2.2.1
theorem sh_1_6 {c : Nat} (h : isK c 1) : rf c 2 = c + 2 := (shc_1_0 h).2.2.2.2.2.2.1
theorem sh_1_7 {c : Nat} (h : isK c 1) : rf c 3 = c + 3 := (shc_1_0 h).2.2.2.2.2.2.2.1
theorem sh_1_8 {c : Nat} (h : isK c 1) : rf c 4 = c + 4 := (shc_1_0 h).2.2.2.2.2.2.2.2.1
theorem sh_1_9 {c : Nat} (h : isK c 1) : obT.getD c [] = [0, 0, 0, 0, 0, 0, 0, -1, -1, -1, -1, 0, 0] := (shc_1_0 h).2.2.2.2.2.2.2.2.2
set_option maxRecDepth 100000 in
set_option maxHeartbeats 4000000 in
theorem KX1_init (l : Launch) (M : Mc) (hE : Ex M) (c : Nat) (hc : isK c 1) (cf : Nat → va_E) (hz : cf c = .inr (1, [.int 0, .null, .null, .null, .null, .int 0, .int 0, .int 0, .int 0, .int 0, .int 0, .int 0, .int 0])) : CtC l M yX1_init cX1_init 1 { frames := 1, cells := 4, slots := 5080, locals := 30 } 4 5080 [.ref (adr M c)] (c + 1) cf (c + 5) (mix M c cf) := by
  have hh0 := sh_1_0 hc
  have hi0 : sg0 c 0 = (0 : Int32) := by rw [sg0_obj hc.2 (by decide) (sh_1_9 hc)]; rfl
  have hi5 : sg0 c 5 = (0 : Int32) := by rw [sg0_obj hc.2 (by decide) (sh_1_9 hc)]; rfl
  have hi6 : sg0 c 6 = (0 : Int32) := by rw [sg0_obj hc.2 (by decide) (sh_1_9 hc)]; rfl
  have hi7 : sg0 c 7 = (-1 : Int32) := by rw [sg0_obj hc.2 (by decide) (sh_1_9 hc)]; rfl
  have hi8 : sg0 c 8 = (-1 : Int32) := by rw [sg0_obj hc.2 (by decide) (sh_1_9 hc)]; rfl
  have hi9 : sg0 c 9 = (-1 : Int32) := by rw [sg0_obj hc.2 (by decide) (sh_1_9 hc)]; rfl
  have hi10 : sg0 c 10 = (-1 : Int32) := by rw [sg0_obj hc.2 (by decide) (sh_1_9 hc)]; rfl
  have hi11 : sg0 c 11 = (0 : Int32) := by rw [sg0_obj hc.2 (by decide) (sh_1_9 hc)]; rfl
  have hi12 : sg0 c 12 = (0 : Int32) := by rw [sg0_obj hc.2 (by decide) (sh_1_9 hc)]; rfl
  have hself : celX M sg0 c = .inr (1, [.int (0 : Int32), .ref (adr M (c + 1)), .ref (adr M (c + 2)), .ref (adr M (c + 3)), .ref (adr M (c + 4)), .int (0 : Int32), .int (0 : Int32), .int (-1 : Int32), .int (-1 : Int32), .int (-1 : Int32), .int (-1 : Int32), .int (0 : Int32), .int (0 : Int32)]) := by
    rw [celX_obj hc.2 (by decide), mp_eq]
    show (Sum.inr (1, [.int (sg0 c 0), .ref (adr M (rf c 1)), .ref (adr M (rf c 2)), .ref (adr M (rf c 3)), .ref (adr M (rf c 4)), .int (sg0 c 5), .int (sg0 c 6), .int (sg0 c 7), .int (sg0 c 8), .int (sg0 c 9), .int (sg0 c 10), .int (sg0 c 11), .int (sg0 c 12)]) : va_E) = _
    rw [hi0, hi5, hi6, hi7, hi8, hi9, hi10, hi11, hi12, (sh_1_5 hc), (sh_1_6 hc), (sh_1_7 hc), (sh_1_8 hc)]
  refine ctc_of (l := l) hE.Dj (by decide) (Nat.le_of_ble_eq_true rfl) ?_
  intro p e s m args below meth cd C hin hsz hAO
  refine jc_congr (cg := W0 c cf 1 [.int 0, .null, .null, .null, .null, .int 0, .int 0, .int 0, .int 0, .int 0, .int 0, .int 0, .int 0] (celX M sg0)) (ent0 hz) ?_
  refine jc_aload_n C dX1_init_0 rfl ?_
  refine jc_obj C dX1_init_1 (mem_g 245 (by decide +kernel) (by decide)) lo_1 lo_2 (by decide) (Nat.le_of_ble_eq_true rfl) ?_
  refine jc_aload_n C dX1_init_4 rfl ?_
  refine jc_iconst C (v := (0 : Int32)) dX1_init_5 (by decide) ?_
  refine jc_put C (fs2 := [.int (0 : Int32), .null, .null, .null, .null, .int 0, .int 0, .int 0, .int 0, .int 0, .int 0, .int 0, .int 0]) dX1_init_6 fl_RX1_9 fs_1_0 (by omega) (by omega) (Nat.le_of_ble_eq_true rfl) rfl rfl rfl ?_
  refine jc_aload_n C dX1_init_9 rfl ?_
  refine jc_sipush C (v := (2505 : Int32)) dX1_init_10 (by decide) ?_
  refine jc_newa_s C hE (N := 2505) dX1_init_13 ac_short (by omega) (hE.at hsz (by omega)) (by decide) (by decide) (by decide) ⟨by decide, by decide⟩ ?_
  refine jc_n (n2 := c + 2) (by omega) ?_
  refine jc_congr (cg := W0 c cf 1 [.int (0 : Int32), .null, .null, .null, .null, .int 0, .int 0, .int 0, .int 0, .int 0, .int 0, .int 0, .int 0] (celX M sg0)) (up_a (by omega) (celX_arr0 (sh_1_1 hc) (by decide) (by decide)) _) ?_
  refine jc_putF C (fs2 := [.int (0 : Int32), .ref (adr M (c + 1)), .null, .null, .null, .int 0, .int 0, .int 0, .int 0, .int 0, .int 0, .int 0, .int 0]) dX1_init_15 fl_RX1_15 ff_1_1 hin (by omega) (by omega) (Nat.le_of_ble_eq_true rfl) rfl rfl rfl ?_
  refine jc_aload_n C dX1_init_18 rfl ?_
  refine jc_sipush C (v := (2505 : Int32)) dX1_init_19 (by decide) ?_
  refine jc_newa_b C hE (N := 2505) dX1_init_22 ac_byte (by omega) (hE.at hsz (by omega)) (by decide) (by decide) (by decide) ⟨by decide, by decide⟩ ?_
  refine jc_n (n2 := c + 3) (by omega) ?_
  refine jc_congr (cg := W0 c cf 1 [.int (0 : Int32), .ref (adr M (c + 1)), .null, .null, .null, .int 0, .int 0, .int 0, .int 0, .int 0, .int 0, .int 0, .int 0] (celX M sg0)) (up_a (by omega) (celX_arr0 (sh_1_2 hc) (by decide) (by decide)) _) ?_
  refine jc_putF C (fs2 := [.int (0 : Int32), .ref (adr M (c + 1)), .ref (adr M (c + 2)), .null, .null, .int 0, .int 0, .int 0, .int 0, .int 0, .int 0, .int 0, .int 0]) dX1_init_24 fl_RX1_19 ff_1_2 hin (by omega) (by omega) (Nat.le_of_ble_eq_true rfl) rfl rfl rfl ?_
  refine jc_aload_n C dX1_init_27 rfl ?_
  refine jc_bipush C (v := (35 : Int32)) dX1_init_28 (by decide) ?_
  refine jc_newa_i C hE (N := 35) dX1_init_30 ac_int (by omega) (hE.at hsz (by omega)) (by decide) (by decide) (by decide) ⟨by decide, by decide⟩ ?_
  refine jc_n (n2 := c + 4) (by omega) ?_
  refine jc_congr (cg := W0 c cf 1 [.int (0 : Int32), .ref (adr M (c + 1)), .ref (adr M (c + 2)), .null, .null, .int 0, .int 0, .int 0, .int 0, .int 0, .int 0, .int 0, .int 0] (celX M sg0)) (up_a (by omega) (celX_arr0 (sh_1_3 hc) (by decide) (by decide)) _) ?_
  refine jc_putF C (fs2 := [.int (0 : Int32), .ref (adr M (c + 1)), .ref (adr M (c + 2)), .ref (adr M (c + 3)), .null, .int 0, .int 0, .int 0, .int 0, .int 0, .int 0, .int 0, .int 0]) dX1_init_32 fl_RX1_23 ff_1_3 hin (by omega) (by omega) (Nat.le_of_ble_eq_true rfl) rfl rfl rfl ?_
  refine jc_aload_n C dX1_init_35 rfl ?_
  refine jc_bipush C (v := (35 : Int32)) dX1_init_36 (by decide) ?_
  refine jc_newa_i C hE (N := 35) dX1_init_38 ac_int (by omega) (hE.at hsz (by omega)) (by decide) (by decide) (by decide) ⟨by decide, by decide⟩ ?_
  refine jc_n (n2 := c + 5) (by omega) ?_
  refine jc_congr (cg := W0 c cf 1 [.int (0 : Int32), .ref (adr M (c + 1)), .ref (adr M (c + 2)), .ref (adr M (c + 3)), .null, .int 0, .int 0, .int 0, .int 0, .int 0, .int 0, .int 0, .int 0] (celX M sg0)) (up_a (by omega) (celX_arr0 (sh_1_4 hc) (by decide) (by decide)) _) ?_
  refine jc_putF C (fs2 := [.int (0 : Int32), .ref (adr M (c + 1)), .ref (adr M (c + 2)), .ref (adr M (c + 3)), .ref (adr M (c + 4)), .int 0, .int 0, .int 0, .int 0, .int 0, .int 0, .int 0, .int 0]) dX1_init_40 fl_RX1_27 ff_1_4 hin (by omega) (by omega) (Nat.le_of_ble_eq_true rfl) rfl rfl rfl ?_
  refine jc_aload_n C dX1_init_43 rfl ?_
  refine jc_iconst C (v := (0 : Int32)) dX1_init_44 (by decide) ?_
  refine jc_put C (fs2 := [.int (0 : Int32), .ref (adr M (c + 1)), .ref (adr M (c + 2)), .ref (adr M (c + 3)), .ref (adr M (c + 4)), .int (0 : Int32), .int 0, .int 0, .int 0, .int 0, .int 0, .int 0, .int 0]) dX1_init_45 fl_RX1_30 fs_1_5 (by omega) (by omega) (Nat.le_of_ble_eq_true rfl) rfl rfl rfl ?_
  refine jc_aload_n C dX1_init_48 rfl ?_
  refine jc_iconst C (v := (0 : Int32)) dX1_init_49 (by decide) ?_
  refine jc_put C (fs2 := [.int (0 : Int32), .ref (adr M (c + 1)), .ref (adr M (c + 2)), .ref (adr M (c + 3)), .ref (adr M (c + 4)), .int (0 : Int32), .int (0 : Int32), .int 0, .int 0, .int 0, .int 0, .int 0, .int 0]) dX1_init_50 fl_RX1_33 fs_1_6 (by omega) (by omega) (Nat.le_of_ble_eq_true rfl) rfl rfl rfl ?_
  refine jc_aload_n C dX1_init_53 rfl ?_
  refine jc_iconst C (v := (-1 : Int32)) dX1_init_54 (by decide) ?_
  refine jc_put C (fs2 := [.int (0 : Int32), .ref (adr M (c + 1)), .ref (adr M (c + 2)), .ref (adr M (c + 3)), .ref (adr M (c + 4)), .int (0 : Int32), .int (0 : Int32), .int (-1 : Int32), .int 0, .int 0, .int 0, .int 0, .int 0]) dX1_init_55 fl_RX1_36 fs_1_7 (by omega) (by omega) (Nat.le_of_ble_eq_true rfl) rfl rfl rfl ?_
  refine jc_aload_n C dX1_init_58 rfl ?_
  refine jc_iconst C (v := (-1 : Int32)) dX1_init_59 (by decide) ?_
  refine jc_put C (fs2 := [.int (0 : Int32), .ref (adr M (c + 1)), .ref (adr M (c + 2)), .ref (adr M (c + 3)), .ref (adr M (c + 4)), .int (0 : Int32), .int (0 : Int32), .int (-1 : Int32), .int (-1 : Int32), .int 0, .int 0, .int 0, .int 0]) dX1_init_60 fl_RX1_39 fs_1_8 (by omega) (by omega) (Nat.le_of_ble_eq_true rfl) rfl rfl rfl ?_
  refine jc_aload_n C dX1_init_63 rfl ?_
  refine jc_iconst C (v := (-1 : Int32)) dX1_init_64 (by decide) ?_
  refine jc_put C (fs2 := [.int (0 : Int32), .ref (adr M (c + 1)), .ref (adr M (c + 2)), .ref (adr M (c + 3)), .ref (adr M (c + 4)), .int (0 : Int32), .int (0 : Int32), .int (-1 : Int32), .int (-1 : Int32), .int (-1 : Int32), .int 0, .int 0, .int 0]) dX1_init_65 fl_RX1_42 fs_1_9 (by omega) (by omega) (Nat.le_of_ble_eq_true rfl) rfl rfl rfl ?_
  refine jc_aload_n C dX1_init_68 rfl ?_
  refine jc_iconst C (v := (-1 : Int32)) dX1_init_69 (by decide) ?_
  refine jc_put C (fs2 := [.int (0 : Int32), .ref (adr M (c + 1)), .ref (adr M (c + 2)), .ref (adr M (c + 3)), .ref (adr M (c + 4)), .int (0 : Int32), .int (0 : Int32), .int (-1 : Int32), .int (-1 : Int32), .int (-1 : Int32), .int (-1 : Int32), .int 0, .int 0]) dX1_init_70 fl_RX1_45 fs_1_10 (by omega) (by omega) (Nat.le_of_ble_eq_true rfl) rfl rfl rfl ?_
  refine jc_aload_n C dX1_init_73 rfl ?_
  refine jc_iconst C (v := (0 : Int32)) dX1_init_74 (by decide) ?_
  refine jc_put C (fs2 := [.int (0 : Int32), .ref (adr M (c + 1)), .ref (adr M (c + 2)), .ref (adr M (c + 3)), .ref (adr M (c + 4)), .int (0 : Int32), .int (0 : Int32), .int (-1 : Int32), .int (-1 : Int32), .int (-1 : Int32), .int (-1 : Int32), .int (0 : Int32), .int 0]) dX1_init_75 fl_RX1_48 fs_1_11 (by omega) (by omega) (Nat.le_of_ble_eq_true rfl) rfl rfl rfl ?_
  refine jc_aload_n C dX1_init_78 rfl ?_
  refine jc_iconst C (v := (0 : Int32)) dX1_init_79 (by decide) ?_
  refine jc_put C (fs2 := [.int (0 : Int32), .ref (adr M (c + 1)), .ref (adr M (c + 2)), .ref (adr M (c + 3)), .ref (adr M (c + 4)), .int (0 : Int32), .int (0 : Int32), .int (-1 : Int32), .int (-1 : Int32), .int (-1 : Int32), .int (-1 : Int32), .int (0 : Int32), .int (0 : Int32)]) dX1_init_80 fl_RX1_51 fs_1_12 (by omega) (by omega) (Nat.le_of_ble_eq_true rfl) rfl rfl rfl ?_
  exact jc_vret C hE dX1_init_83 (fin0 hself (fun q _ _ => rfl)) (by omega) (hE.at hsz (by omega))
