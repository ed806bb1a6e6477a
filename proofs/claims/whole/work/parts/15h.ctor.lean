theorem ff_7_2 : FSF RX7 7 2 (tyX7 2) := ⟨RX7, TX7, 3, tyX7, rfl, tyX7_ok, nmX7, rfl, by decide +kernel, rfl⟩
theorem shb_7_0 : ((List.range NC).all fun c => decide (kd c = 7 → (c + 2 ≤ NC ∧ (kd (c + 1) = 13 ∧ ln (c + 1) = 60 ∧ frT.getD (c + 1) 0 = 0) ∧ rf c 2 = c + 1 ∧ obT.getD c [] = [0, 0, 0]))) = true := by decide +kernel
theorem shc_7_0 {c : Nat} (h : isK c 7) : c + 2 ≤ NC ∧ (kd (c + 1) = 13 ∧ ln (c + 1) = 60 ∧ frT.getD (c + 1) 0 = 0) ∧ rf c 2 = c + 1 ∧ obT.getD c [] = [0, 0, 0] := of_decide_eq_true (List.all_eq_true.mp shb_7_0 c (List.mem_range.mpr h.1)) h.2
theorem sh_7_0 {c : Nat} (h : isK c 7) : c + 2 ≤ NC := (shc_7_0 h).1
theorem sh_7_1 {c : Nat} (h : isK c 7) : (kd (c + 1) = 13 ∧ ln (c + 1) = 60 ∧ frT.getD (c + 1) 0 = 0) := (shc_7_0 h).2.1
theorem sh_7_2 {c : Nat} (h : isK c 7) : rf c 2 = c + 1 := (shc_7_0 h).2.2.1
theorem sh_7_3 {c : Nat} (h : isK c 7) : obT.getD c [] = [0, 0, 0] := (shc_7_0 h).2.2.2
set_option maxRecDepth 100000 in
set_option maxHeartbeats 4000000 in
theorem KX7_init (l : Launch) (M : Mc) (hE : Ex M) (c : Nat) (hc : isK c 7) (cf : Nat → va_E) (hz : cf c = .inr (7, [.int 0, .int 0, .null])) : CtC l M yX7_init cX7_init 1 { frames := 1, cells := 1, slots := 60, locals := 30 } 1 60 [.ref (adr M c)] (c + 1) cf (c + 2) (mix M c cf) := by
  have hh0 := sh_7_0 hc
  have hi0 : sg0 c 0 = (0 : Int32) := by rw [sg0_obj hc.2 (by decide) (sh_7_3 hc)]; rfl
  have hi1 : sg0 c 1 = (0 : Int32) := by rw [sg0_obj hc.2 (by decide) (sh_7_3 hc)]; rfl
  have hself : celX M sg0 c = .inr (7, [.int (0 : Int32), .int (0 : Int32), .ref (adr M (c + 1))]) := by
    rw [celX_obj hc.2 (by decide), mp_eq]
    show (Sum.inr (7, [.int (sg0 c 0), .int (sg0 c 1), .ref (adr M (rf c 2))]) : va_E) = _
    rw [hi0, hi1, (sh_7_2 hc)]
  refine ctc_of (l := l) hE.Dj (by decide) (Nat.le_of_ble_eq_true rfl) ?_
  intro p e s m args below meth cd C hin hsz hAO
  refine jc_congr (cg := W0 c cf 7 [.int 0, .int 0, .null] (celX M sg0)) (ent0 hz) ?_
  refine jc_aload_n C dX7_init_0 rfl ?_
  refine jc_obj C dX7_init_1 (mem_g 425 (by decide +kernel) (by decide)) lo_1 lo_2 (by decide) (Nat.le_of_ble_eq_true rfl) ?_
  refine jc_aload_n C dX7_init_4 rfl ?_
  refine jc_iconst C (v := (0 : Int32)) dX7_init_5 (by decide) ?_
  refine jc_put C (fs2 := [.int (0 : Int32), .int 0, .null]) dX7_init_6 fl_RX7_9 fs_7_0 (by omega) (by omega) (Nat.le_of_ble_eq_true rfl) rfl rfl rfl ?_
  refine jc_aload_n C dX7_init_9 rfl ?_
  refine jc_iconst C (v := (0 : Int32)) dX7_init_10 (by decide) ?_
  refine jc_put C (fs2 := [.int (0 : Int32), .int (0 : Int32), .null]) dX7_init_11 fl_RX7_15 fs_7_1 (by omega) (by omega) (Nat.le_of_ble_eq_true rfl) rfl rfl rfl ?_
  refine jc_aload_n C dX7_init_14 rfl ?_
  refine jc_bipush C (v := (60 : Int32)) dX7_init_15 (by decide) ?_
  refine jc_newa_i C hE (N := 60) dX7_init_17 ac_int (by omega) (hE.at hsz (by omega)) (by decide) (by decide) (by decide) ⟨by decide, by decide⟩ ?_
  refine jc_n (n2 := c + 2) (by omega) ?_
  refine jc_congr (cg := W0 c cf 7 [.int (0 : Int32), .int (0 : Int32), .null] (celX M sg0)) (up_a (by omega) (celX_arr0 (sh_7_1 hc) (by decide) (by decide)) _) ?_
  refine jc_putF C (fs2 := [.int (0 : Int32), .int (0 : Int32), .ref (adr M (c + 1))]) dX7_init_19 fl_RX7_18 ff_7_2 hin (by omega) (by omega) (Nat.le_of_ble_eq_true rfl) rfl rfl rfl ?_
  exact jc_vret C hE dX7_init_22 (fin0 hself (fun q _ _ => rfl)) (by omega) (hE.at hsz (by omega))
