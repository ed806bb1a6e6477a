theorem ff_9_1 : FSF RX9 9 1 (tyX9 1) := ⟨RX9, TX9, 6, tyX9, rfl, tyX9_ok, nmX9, rfl, by decide +kernel, rfl⟩
theorem ff_9_2 : FSF RX9 9 2 (tyX9 2) := ⟨RX9, TX9, 6, tyX9, rfl, tyX9_ok, nmX9, rfl, by decide +kernel, rfl⟩
theorem ff_9_3 : FSF RX9 9 3 (tyX9 3) := ⟨RX9, TX9, 6, tyX9, rfl, tyX9_ok, nmX9, rfl, by decide +kernel, rfl⟩
theorem ff_9_4 : FSF RX9 9 4 (tyX9 4) := ⟨RX9, TX9, 6, tyX9, rfl, tyX9_ok, nmX9, rfl, by decide +kernel, rfl⟩
theorem ff_9_5 : FSF RX9 9 5 (tyX9 5) := ⟨RX9, TX9, 6, tyX9, rfl, tyX9_ok, nmX9, rfl, by decide +kernel, rfl⟩
theorem shb_9_0 : ((List.range NC).all fun c => decide (kd c = 9 → (c + 6 ≤ NC ∧ (kd (c + 1) = 13 ∧ ln (c + 1) = 5 ∧ frT.getD (c + 1) 0 = 0) ∧ (kd (c + 2) = 13 ∧ ln (c + 2) = 5 ∧ frT.getD (c + 2) 0 = 0) ∧ (kd (c + 3) = 13 ∧ ln (c + 3) = 5 ∧ frT.getD (c + 3) 0 = 0) ∧ (kd (c + 4) = 13 ∧ ln (c + 4) = 5 ∧ frT.getD (c + 4) 0 = 0) ∧ (kd (c + 5) = 13 ∧ ln (c + 5) = 5 ∧ frT.getD (c + 5) 0 = 0) ∧ rf c 1 = c + 1 ∧ rf c 2 = c + 2 ∧ rf c 3 = c + 3 ∧ rf c 4 = c + 4 ∧ rf c 5 = c + 5 ∧ obT.getD c [] = [0, 0, 0, 0, 0, 0]))) = true := by decide +kernel
theorem shc_9_0 {c : Nat} (h : isK c 9) : c + 6 ≤ NC ∧ (kd (c + 1) = 13 ∧ ln (c + 1) = 5 ∧ frT.getD (c + 1) 0 = 0) ∧ (kd (c + 2) = 13 ∧ ln (c + 2) = 5 ∧ frT.getD (c + 2) 0 = 0) ∧ (kd (c + 3) = 13 ∧ ln (c + 3) = 5 ∧ frT.getD (c + 3) 0 = 0) ∧ (kd (c + 4) = 13 ∧ ln (c + 4) = 5 ∧ frT.getD (c + 4) 0 = 0) ∧ (kd (c + 5) = 13 ∧ ln (c + 5) = 5 ∧ frT.getD (c + 5) 0 = 0) ∧ rf c 1 = c + 1 ∧ rf c 2 = c + 2 ∧ rf c 3 = c + 3 ∧ rf c 4 = c + 4 ∧ rf c 5 = c + 5 ∧ obT.getD c [] = [0, 0, 0, 0, 0, 0] := of_decide_eq_true (List.all_eq_true.mp shb_9_0 c (List.mem_range.mpr h.1)) h.2
theorem sh_9_0 {c : Nat} (h : isK c 9) : c + 6 ≤ NC := (shc_9_0 h).1
theorem sh_9_1 {c : Nat} (h : isK c 9) : (kd (c + 1) = 13 ∧ ln (c + 1) = 5 ∧ frT.getD (c + 1) 0 = 0) := (shc_9_0 h).2.1
theorem sh_9_2 {c : Nat} (h : isK c 9) : (kd (c + 2) = 13 ∧ ln (c + 2) = 5 ∧ frT.getD (c + 2) 0 = 0) := (shc_9_0 h).2.2.1
theorem sh_9_3 {c : Nat} (h : isK c 9) : (kd (c + 3) = 13 ∧ ln (c + 3) = 5 ∧ frT.getD (c + 3) 0 = 0) := (shc_9_0 h).2.2.2.1
theorem sh_9_4 {c : Nat} (h : isK c 9) : (kd (c + 4) = 13 ∧ ln (c + 4) = 5 ∧ frT.getD (c + 4) 0 = 0) := (shc_9_0 h).2.2.2.2.1
theorem sh_9_5 {c : Nat} (h : isK c 9) : (kd (c + 5) = 13 ∧ ln (c + 5) = 5 ∧ frT.getD (c + 5) 0 = 0) := (shc_9_0 h).2.2.2.2.2.1
theorem sh_9_6 {c : Nat} (h : isK c 9) : rf c 1 = c + 1 := (shc_9_0 h).2.2.2.2.2.2.1
theorem sh_9_7 {c : Nat} (h : isK c 9) : rf c 2 = c + 2 := (shc_9_0 h).2.2.2.2.2.2.2.1
theorem sh_9_8 {c : Nat} (h : isK c 9) : rf c 3 = c + 3 := (shc_9_0 h).2.2.2.2.2.2.2.2.1
theorem sh_9_9 {c : Nat} (h : isK c 9) : rf c 4 = c + 4 := (shc_9_0 h).2.2.2.2.2.2.2.2.2.1
theorem sh_9_10 {c : Nat} (h : isK c 9) : rf c 5 = c + 5 := (shc_9_0 h).2.2.2.2.2.2.2.2.2.2.1
theorem sh_9_11 {c : Nat} (h : isK c 9) : obT.getD c [] = [0, 0, 0, 0, 0, 0] := (shc_9_0 h).2.2.2.2.2.2.2.2.2.2.2
set_option maxRecDepth 100000 in
set_option maxHeartbeats 4000000 in
theorem KX9_init (l : Launch) (M : Mc) (hE : Ex M) (c : Nat) (hc : isK c 9) (cf : Nat → va_E) (hz : cf c = .inr (9, [.int 0, .null, .null, .null, .null, .null])) : CtC l M yX9_init cX9_init 1 { frames := 1, cells := 5, slots := 25, locals := 30 } 5 25 [.ref (adr M c)] (c + 1) cf (c + 6) (mix M c cf) := by
  have hh0 := sh_9_0 hc
  have hi0 : sg0 c 0 = (0 : Int32) := by rw [sg0_obj hc.2 (by decide) (sh_9_11 hc)]; rfl
  have hself : celX M sg0 c = .inr (9, [.int (0 : Int32), .ref (adr M (c + 1)), .ref (adr M (c + 2)), .ref (adr M (c + 3)), .ref (adr M (c + 4)), .ref (adr M (c + 5))]) := by
    rw [celX_obj hc.2 (by decide), mp_eq]
    show (Sum.inr (9, [.int (sg0 c 0), .ref (adr M (rf c 1)), .ref (adr M (rf c 2)), .ref (adr M (rf c 3)), .ref (adr M (rf c 4)), .ref (adr M (rf c 5))]) : va_E) = _
    rw [hi0, (sh_9_6 hc), (sh_9_7 hc), (sh_9_8 hc), (sh_9_9 hc), (sh_9_10 hc)]
  refine ctc_of (l := l) hE.Dj (by decide) (Nat.le_of_ble_eq_true rfl) ?_
  intro p e s m args below meth cd C hin hsz hAO
  refine jc_congr (cg := W0 c cf 9 [.int 0, .null, .null, .null, .null, .null] (celX M sg0)) (ent0 hz) ?_
  refine jc_aload_n C dX9_init_0 rfl ?_
  refine jc_obj C dX9_init_1 (mem_g 147 (by decide +kernel) (by decide)) lo_1 lo_2 (by decide) (Nat.le_of_ble_eq_true rfl) ?_
  refine jc_aload_n C dX9_init_4 rfl ?_
  refine jc_iconst C (v := (0 : Int32)) dX9_init_5 (by decide) ?_
  refine jc_put C (fs2 := [.int (0 : Int32), .null, .null, .null, .null, .null]) dX9_init_6 fl_RX9_9 fs_9_0 (by omega) (by omega) (Nat.le_of_ble_eq_true rfl) rfl rfl rfl ?_
  refine jc_aload_n C dX9_init_9 rfl ?_
  refine jc_iconst C (v := (5 : Int32)) dX9_init_10 (by decide) ?_
  refine jc_newa_i C hE (N := 5) dX9_init_11 ac_int (by omega) (hE.at hsz (by omega)) (by decide) (by decide) (by decide) ⟨by decide, by decide⟩ ?_
  refine jc_n (n2 := c + 2) (by omega) ?_
  refine jc_congr (cg := W0 c cf 9 [.int (0 : Int32), .null, .null, .null, .null, .null] (celX M sg0)) (up_a (by omega) (celX_arr0 (sh_9_1 hc) (by decide) (by decide)) _) ?_
  refine jc_putF C (fs2 := [.int (0 : Int32), .ref (adr M (c + 1)), .null, .null, .null, .null]) dX9_init_13 fl_RX9_15 ff_9_1 hin (by omega) (by omega) (Nat.le_of_ble_eq_true rfl) rfl rfl rfl ?_
  refine jc_aload_n C dX9_init_16 rfl ?_
  refine jc_iconst C (v := (5 : Int32)) dX9_init_17 (by decide) ?_
  refine jc_newa_i C hE (N := 5) dX9_init_18 ac_int (by omega) (hE.at hsz (by omega)) (by decide) (by decide) (by decide) ⟨by decide, by decide⟩ ?_
  refine jc_n (n2 := c + 3) (by omega) ?_
  refine jc_congr (cg := W0 c cf 9 [.int (0 : Int32), .ref (adr M (c + 1)), .null, .null, .null, .null] (celX M sg0)) (up_a (by omega) (celX_arr0 (sh_9_2 hc) (by decide) (by decide)) _) ?_
  refine jc_putF C (fs2 := [.int (0 : Int32), .ref (adr M (c + 1)), .ref (adr M (c + 2)), .null, .null, .null]) dX9_init_20 fl_RX9_19 ff_9_2 hin (by omega) (by omega) (Nat.le_of_ble_eq_true rfl) rfl rfl rfl ?_
  refine jc_aload_n C dX9_init_23 rfl ?_
  refine jc_iconst C (v := (5 : Int32)) dX9_init_24 (by decide) ?_
  refine jc_newa_i C hE (N := 5) dX9_init_25 ac_int (by omega) (hE.at hsz (by omega)) (by decide) (by decide) (by decide) ⟨by decide, by decide⟩ ?_
  refine jc_n (n2 := c + 4) (by omega) ?_
  refine jc_congr (cg := W0 c cf 9 [.int (0 : Int32), .ref (adr M (c + 1)), .ref (adr M (c + 2)), .null, .null, .null] (celX M sg0)) (up_a (by omega) (celX_arr0 (sh_9_3 hc) (by decide) (by decide)) _) ?_
  refine jc_putF C (fs2 := [.int (0 : Int32), .ref (adr M (c + 1)), .ref (adr M (c + 2)), .ref (adr M (c + 3)), .null, .null]) dX9_init_27 fl_RX9_22 ff_9_3 hin (by omega) (by omega) (Nat.le_of_ble_eq_true rfl) rfl rfl rfl ?_
  refine jc_aload_n C dX9_init_30 rfl ?_
  refine jc_iconst C (v := (5 : Int32)) dX9_init_31 (by decide) ?_
  refine jc_newa_i C hE (N := 5) dX9_init_32 ac_int (by omega) (hE.at hsz (by omega)) (by decide) (by decide) (by decide) ⟨by decide, by decide⟩ ?_
  refine jc_n (n2 := c + 5) (by omega) ?_
  refine jc_congr (cg := W0 c cf 9 [.int (0 : Int32), .ref (adr M (c + 1)), .ref (adr M (c + 2)), .ref (adr M (c + 3)), .null, .null] (celX M sg0)) (up_a (by omega) (celX_arr0 (sh_9_4 hc) (by decide) (by decide)) _) ?_
  refine jc_putF C (fs2 := [.int (0 : Int32), .ref (adr M (c + 1)), .ref (adr M (c + 2)), .ref (adr M (c + 3)), .ref (adr M (c + 4)), .null]) dX9_init_34 fl_RX9_25 ff_9_4 hin (by omega) (by omega) (Nat.le_of_ble_eq_true rfl) rfl rfl rfl ?_
  refine jc_aload_n C dX9_init_37 rfl ?_
  refine jc_iconst C (v := (5 : Int32)) dX9_init_38 (by decide) ?_
  refine jc_newa_i C hE (N := 5) dX9_init_39 ac_int (by omega) (hE.at hsz (by omega)) (by decide) (by decide) (by decide) ⟨by decide, by decide⟩ ?_
  refine jc_n (n2 := c + 6) (by omega) ?_
  refine jc_congr (cg := W0 c cf 9 [.int (0 : Int32), .ref (adr M (c + 1)), .ref (adr M (c + 2)), .ref (adr M (c + 3)), .ref (adr M (c + 4)), .null] (celX M sg0)) (up_a (by omega) (celX_arr0 (sh_9_5 hc) (by decide) (by decide)) _) ?_
  refine jc_putF C (fs2 := [.int (0 : Int32), .ref (adr M (c + 1)), .ref (adr M (c + 2)), .ref (adr M (c + 3)), .ref (adr M (c + 4)), .ref (adr M (c + 5))]) dX9_init_41 fl_RX9_28 ff_9_5 hin (by omega) (by omega) (Nat.le_of_ble_eq_true rfl) rfl rfl rfl ?_
  exact jc_vret C hE dX9_init_44 (fin0 hself (fun q _ _ => rfl)) (by omega) (hE.at hsz (by omega))
