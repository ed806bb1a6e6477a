theorem ff_6_5 : FSF RX6 6 5 (tyX6 5) := ⟨RX6, TX6, 8, tyX6, rfl, tyX6_ok, nmX6, rfl, by decide +kernel, rfl⟩
theorem ff_6_6 : FSF RX6 6 6 (tyX6 6) := ⟨RX6, TX6, 8, tyX6, rfl, tyX6_ok, nmX6, rfl, by decide +kernel, rfl⟩
theorem ff_6_7 : FSF RX6 6 7 (tyX6 7) := ⟨RX6, TX6, 8, tyX6, rfl, tyX6_ok, nmX6, rfl, by decide +kernel, rfl⟩
theorem ff_6_0 : FSF RX6 6 0 (tyX6 0) := ⟨RX6, TX6, 8, tyX6, rfl, tyX6_ok, nmX6, rfl, by decide +kernel, rfl⟩
theorem shb_6_0 : ((List.range NC).all fun c => decide (kd c = 6 → (c + 4 ≤ NC ∧ (kd (c + 1) = 13 ∧ ln (c + 1) = 5 ∧ frT.getD (c + 1) 0 = 0) ∧ (kd (c + 2) = 13 ∧ ln (c + 2) = 7 ∧ frT.getD (c + 2) 0 = 0) ∧ (kd (c + 3) = 13 ∧ ln (c + 3) = 7 ∧ frT.getD (c + 3) 0 = 0) ∧ rf c 5 = c + 1 ∧ rf c 6 = c + 2 ∧ rf c 7 = c + 3 ∧ (obT.getD c []).getD 1 0 = (-1 : Int32) ∧ (obT.getD c []).getD 2 0 = (-1 : Int32) ∧ (obT.getD c []).getD 3 0 = (0 : Int32) ∧ (obT.getD c []).getD 4 0 = (501 : Int32)))) = true := by decide +kernel
theorem shc_6_0 {c : Nat} (h : isK c 6) : c + 4 ≤ NC ∧ (kd (c + 1) = 13 ∧ ln (c + 1) = 5 ∧ frT.getD (c + 1) 0 = 0) ∧ (kd (c + 2) = 13 ∧ ln (c + 2) = 7 ∧ frT.getD (c + 2) 0 = 0) ∧ (kd (c + 3) = 13 ∧ ln (c + 3) = 7 ∧ frT.getD (c + 3) 0 = 0) ∧ rf c 5 = c + 1 ∧ rf c 6 = c + 2 ∧ rf c 7 = c + 3 ∧ (obT.getD c []).getD 1 0 = (-1 : Int32) ∧ (obT.getD c []).getD 2 0 = (-1 : Int32) ∧ (obT.getD c []).getD 3 0 = (0 : Int32) ∧ (obT.getD c []).getD 4 0 = (501 : Int32) := of_decide_eq_true (List.all_eq_true.mp shb_6_0 c (List.mem_range.mpr h.1)) h.2
theorem sh_6_0 {c : Nat} (h : isK c 6) : c + 4 ≤ NC := (shc_6_0 h).1
theorem sh_6_1 {c : Nat} (h : isK c 6) : (kd (c + 1) = 13 ∧ ln (c + 1) = 5 ∧ frT.getD (c + 1) 0 = 0) := (shc_6_0 h).2.1
theorem sh_6_2 {c : Nat} (h : isK c 6) : (kd (c + 2) = 13 ∧ ln (c + 2) = 7 ∧ frT.getD (c + 2) 0 = 0) := (shc_6_0 h).2.2.1
theorem sh_6_3 {c : Nat} (h : isK c 6) : (kd (c + 3) = 13 ∧ ln (c + 3) = 7 ∧ frT.getD (c + 3) 0 = 0) := (shc_6_0 h).2.2.2.1
theorem sh_6_4 {c : Nat} (h : isK c 6) : rf c 5 = c + 1 := (shc_6_0 h).2.2.2.2.1
theorem sh_6_5 {c : Nat} (h : isK c 6) : rf c 6 = c + 2 := (shc_6_0 h).2.2.2.2.2.1
theorem sh_6_6 {c : Nat} (h : isK c 6) : rf c 7 = c + 3 := (shc_6_0 h).2.2.2.2.2.2.1
theorem sh_6_7 {c : Nat} (h : isK c 6) : (obT.getD c []).getD 1 0 = (-1 : Int32) := (shc_6_0 h).2.2.2.2.2.2.2.1
theorem sh_6_8 {c : Nat} (h : isK c 6) : (obT.getD c []).getD 2 0 = (-1 : Int32) := (shc_6_0 h).2.2.2.2.2.2.2.2.1
theorem sh_6_9 {c : Nat} (h : isK c 6) : (obT.getD c []).getD 3 0 = (0 : Int32) := (shc_6_0 h).2.2.2.2.2.2.2.2.2.1
theorem sh_6_10 {c : Nat} (h : isK c 6) : (obT.getD c []).getD 4 0 = (501 : Int32) := (shc_6_0 h).2.2.2.2.2.2.2.2.2.2
set_option maxRecDepth 100000 in
set_option maxHeartbeats 4000000 in
theorem KX6_init (l : Launch) (M : Mc) (hE : Ex M) (c : Nat) (hc : isK c 6) (cf : Nat → va_E) (hz : cf c = .inr (6, [.int 0, .int 0, .int 0, .int 0, .int 0, .null, .null, .null])) (t : Int32) (ht : (obT.getD c []).getD 0 0 = t) : CtC l M yX6_init cX6_init 2 { frames := 1, cells := 3, slots := 19, locals := 30 } 3 19 [.ref (adr M c), .int t] (c + 1) cf (c + 4) (mix M c cf) := by
  have hh0 := sh_6_0 hc
  have hi0 : sg0 c 0 = t := by rw [sg0_obj hc.2 (by decide) rfl]; exact ht
  have hi1 : sg0 c 1 = (-1 : Int32) := by rw [sg0_obj hc.2 (by decide) rfl]; exact (sh_6_7 hc)
  have hi2 : sg0 c 2 = (-1 : Int32) := by rw [sg0_obj hc.2 (by decide) rfl]; exact (sh_6_8 hc)
  have hi3 : sg0 c 3 = (0 : Int32) := by rw [sg0_obj hc.2 (by decide) rfl]; exact (sh_6_9 hc)
  have hi4 : sg0 c 4 = (501 : Int32) := by rw [sg0_obj hc.2 (by decide) rfl]; exact (sh_6_10 hc)
  have hself : celX M sg0 c = .inr (6, [.int t, .int (-1 : Int32), .int (-1 : Int32), .int (0 : Int32), .int (501 : Int32), .ref (adr M (c + 1)), .ref (adr M (c + 2)), .ref (adr M (c + 3))]) := by
    rw [celX_obj hc.2 (by decide), mp_eq]
    show (Sum.inr (6, [.int (sg0 c 0), .int (sg0 c 1), .int (sg0 c 2), .int (sg0 c 3), .int (sg0 c 4), .ref (adr M (rf c 5)), .ref (adr M (rf c 6)), .ref (adr M (rf c 7))]) : va_E) = _
    rw [hi0, hi1, hi2, hi3, hi4, (sh_6_4 hc), (sh_6_5 hc), (sh_6_6 hc)]
  refine ctc_of (l := l) hE.Dj (by decide) (Nat.le_of_ble_eq_true rfl) ?_
  intro p e s m args below meth cd C hin hsz hAO
  refine jc_congr (cg := W0 c cf 6 [.int 0, .int 0, .int 0, .int 0, .int 0, .null, .null, .null] (celX M sg0)) (ent0 hz) ?_
  refine jc_aload_n C dX6_init_0 rfl ?_
  refine jc_obj C dX6_init_1 (mem_g 306 (by decide +kernel) (by decide)) lo_1 lo_2 (by decide) (Nat.le_of_ble_eq_true rfl) ?_
  refine jc_aload_n C dX6_init_4 rfl ?_
  refine jc_iconst C (v := (-1 : Int32)) dX6_init_5 (by decide) ?_
  refine jc_put C (fs2 := [.int 0, .int (-1 : Int32), .int 0, .int 0, .int 0, .null, .null, .null]) dX6_init_6 fl_RX6_9 fs_6_1 (by omega) (by omega) (Nat.le_of_ble_eq_true rfl) rfl rfl rfl ?_
  refine jc_aload_n C dX6_init_9 rfl ?_
  refine jc_iconst C (v := (-1 : Int32)) dX6_init_10 (by decide) ?_
  refine jc_put C (fs2 := [.int 0, .int (-1 : Int32), .int (-1 : Int32), .int 0, .int 0, .null, .null, .null]) dX6_init_11 fl_RX6_15 fs_6_2 (by omega) (by omega) (Nat.le_of_ble_eq_true rfl) rfl rfl rfl ?_
  refine jc_aload_n C dX6_init_14 rfl ?_
  refine jc_iconst C (v := (0 : Int32)) dX6_init_15 (by decide) ?_
  refine jc_put C (fs2 := [.int 0, .int (-1 : Int32), .int (-1 : Int32), .int (0 : Int32), .int 0, .null, .null, .null]) dX6_init_16 fl_RX6_18 fs_6_3 (by omega) (by omega) (Nat.le_of_ble_eq_true rfl) rfl rfl rfl ?_
  refine jc_aload_n C dX6_init_19 rfl ?_
  refine jc_sipush C (v := (501 : Int32)) dX6_init_20 (by decide) ?_
  refine jc_put C (fs2 := [.int 0, .int (-1 : Int32), .int (-1 : Int32), .int (0 : Int32), .int (501 : Int32), .null, .null, .null]) dX6_init_23 fl_RX6_21 fs_6_4 (by omega) (by omega) (Nat.le_of_ble_eq_true rfl) rfl rfl rfl ?_
  refine jc_aload_n C dX6_init_26 rfl ?_
  refine jc_iconst C (v := (5 : Int32)) dX6_init_27 (by decide) ?_
  refine jc_newa_i C hE (N := 5) dX6_init_28 ac_int (by omega) (hE.at hsz (by omega)) (by decide) (by decide) (by decide) ⟨by decide, by decide⟩ ?_
  refine jc_n (n2 := c + 2) (by omega) ?_
  refine jc_congr (cg := W0 c cf 6 [.int 0, .int (-1 : Int32), .int (-1 : Int32), .int (0 : Int32), .int (501 : Int32), .null, .null, .null] (celX M sg0)) (up_a (by omega) (celX_arr0 (sh_6_1 hc) (by decide) (by decide)) _) ?_
  refine jc_putF C (fs2 := [.int 0, .int (-1 : Int32), .int (-1 : Int32), .int (0 : Int32), .int (501 : Int32), .ref (adr M (c + 1)), .null, .null]) dX6_init_30 fl_RX6_24 ff_6_5 hin (by omega) (by omega) (Nat.le_of_ble_eq_true rfl) rfl rfl rfl ?_
  refine jc_aload_n C dX6_init_33 rfl ?_
  refine jc_bipush C (v := (7 : Int32)) dX6_init_34 (by decide) ?_
  refine jc_newa_i C hE (N := 7) dX6_init_36 ac_int (by omega) (hE.at hsz (by omega)) (by decide) (by decide) (by decide) ⟨by decide, by decide⟩ ?_
  refine jc_n (n2 := c + 3) (by omega) ?_
  refine jc_congr (cg := W0 c cf 6 [.int 0, .int (-1 : Int32), .int (-1 : Int32), .int (0 : Int32), .int (501 : Int32), .ref (adr M (c + 1)), .null, .null] (celX M sg0)) (up_a (by omega) (celX_arr0 (sh_6_2 hc) (by decide) (by decide)) _) ?_
  refine jc_putF C (fs2 := [.int 0, .int (-1 : Int32), .int (-1 : Int32), .int (0 : Int32), .int (501 : Int32), .ref (adr M (c + 1)), .ref (adr M (c + 2)), .null]) dX6_init_38 fl_RX6_28 ff_6_6 hin (by omega) (by omega) (Nat.le_of_ble_eq_true rfl) rfl rfl rfl ?_
  refine jc_aload_n C dX6_init_41 rfl ?_
  refine jc_bipush C (v := (7 : Int32)) dX6_init_42 (by decide) ?_
  refine jc_newa_i C hE (N := 7) dX6_init_44 ac_int (by omega) (hE.at hsz (by omega)) (by decide) (by decide) (by decide) ⟨by decide, by decide⟩ ?_
  refine jc_n (n2 := c + 4) (by omega) ?_
  refine jc_congr (cg := W0 c cf 6 [.int 0, .int (-1 : Int32), .int (-1 : Int32), .int (0 : Int32), .int (501 : Int32), .ref (adr M (c + 1)), .ref (adr M (c + 2)), .null] (celX M sg0)) (up_a (by omega) (celX_arr0 (sh_6_3 hc) (by decide) (by decide)) _) ?_
  refine jc_putF C (fs2 := [.int 0, .int (-1 : Int32), .int (-1 : Int32), .int (0 : Int32), .int (501 : Int32), .ref (adr M (c + 1)), .ref (adr M (c + 2)), .ref (adr M (c + 3))]) dX6_init_46 fl_RX6_31 ff_6_7 hin (by omega) (by omega) (Nat.le_of_ble_eq_true rfl) rfl rfl rfl ?_
  refine jc_aload_n C dX6_init_49 rfl ?_
  refine jc_iload_n C dX6_init_50 rfl ?_
  refine jc_putF C (fs2 := [.int t, .int (-1 : Int32), .int (-1 : Int32), .int (0 : Int32), .int (501 : Int32), .ref (adr M (c + 1)), .ref (adr M (c + 2)), .ref (adr M (c + 3))]) dX6_init_51 fl_RX6_34 ff_6_0 hin (by omega) (by omega) (Nat.le_of_ble_eq_true rfl) rfl rfl rfl ?_
  exact jc_vret C hE dX6_init_54 (fin0 hself (fun q _ _ => rfl)) (by omega) (hE.at hsz (by omega))
