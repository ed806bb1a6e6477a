theorem nw_RX0_9 : NW RX0 9 3 6 [.null, .null, .null, .int 0, .null, .null] := ⟨RX3, TX3, tyX3, rfl, cw_X3, ⟨(mem_g 110 (by decide +kernel) (by decide)), (mem_g 111 (by decide +kernel) (by decide)), (mem_g 78 (by decide +kernel) (by decide))⟩, tyX3_ok, by decide +kernel⟩
theorem vi_RX0_11 : VB RX0 11 yX3_init cX3_init 1 none 0 := ⟨⟨(mem_g 114 (by decide +kernel) (by decide)), (mem_g 78 (by decide +kernel) (by decide)), (mem_g 112 (by decide +kernel) (by decide))⟩, by decide, by decide, by decide +kernel⟩
theorem ff_0_0 : FSF RX0 0 0 (tyX0 0) := ⟨RX0, TX0, 15, tyX0, rfl, tyX0_ok, nmX0, rfl, by decide +kernel, rfl⟩
theorem nw_RX0_18 : NW RX0 18 1 13 [.int 0, .null, .null, .null, .null, .int 0, .int 0, .int 0, .int 0, .int 0, .int 0, .int 0, .int 0] := ⟨RX1, TX1, tyX1, rfl, cw_X1, ⟨(mem_g 240 (by decide +kernel) (by decide)), (mem_g 241 (by decide +kernel) (by decide)), (mem_g 83 (by decide +kernel) (by decide))⟩, tyX1_ok, by decide +kernel⟩
theorem vi_RX0_20 : VB RX0 20 yX1_init cX1_init 1 none 0 := ⟨⟨(mem_g 244 (by decide +kernel) (by decide)), (mem_g 83 (by decide +kernel) (by decide)), (mem_g 242 (by decide +kernel) (by decide))⟩, by decide, by decide, by decide +kernel⟩
theorem ff_0_1 : FSF RX0 0 1 (tyX0 1) := ⟨RX0, TX0, 15, tyX0, rfl, tyX0_ok, nmX0, rfl, by decide +kernel, rfl⟩
theorem ff_0_3 : FSF RX0 0 3 (tyX0 3) := ⟨RX0, TX0, 15, tyX0, rfl, tyX0_ok, nmX0, rfl, by decide +kernel, rfl⟩
theorem ff_0_4 : FSF RX0 0 4 (tyX0 4) := ⟨RX0, TX0, 15, tyX0, rfl, tyX0_ok, nmX0, rfl, by decide +kernel, rfl⟩
theorem ff_0_5 : FSF RX0 0 5 (tyX0 5) := ⟨RX0, TX0, 15, tyX0, rfl, tyX0_ok, nmX0, rfl, by decide +kernel, rfl⟩
theorem ff_0_6 : FSF RX0 0 6 (tyX0 6) := ⟨RX0, TX0, 15, tyX0, rfl, tyX0_ok, nmX0, rfl, by decide +kernel, rfl⟩
theorem ff_0_7 : FSF RX0 0 7 (tyX0 7) := ⟨RX0, TX0, 15, tyX0, rfl, tyX0_ok, nmX0, rfl, by decide +kernel, rfl⟩
theorem ff_0_8 : FSF RX0 0 8 (tyX0 8) := ⟨RX0, TX0, 15, tyX0, rfl, tyX0_ok, nmX0, rfl, by decide +kernel, rfl⟩
theorem ff_0_9 : FSF RX0 0 9 (tyX0 9) := ⟨RX0, TX0, 15, tyX0, rfl, tyX0_ok, nmX0, rfl, by decide +kernel, rfl⟩
theorem ff_0_10 : FSF RX0 0 10 (tyX0 10) := ⟨RX0, TX0, 15, tyX0, rfl, tyX0_ok, nmX0, rfl, by decide +kernel, rfl⟩
theorem ff_0_11 : FSF RX0 0 11 (tyX0 11) := ⟨RX0, TX0, 15, tyX0, rfl, tyX0_ok, nmX0, rfl, by decide +kernel, rfl⟩
theorem ff_0_12 : FSF RX0 0 12 (tyX0 12) := ⟨RX0, TX0, 15, tyX0, rfl, tyX0_ok, nmX0, rfl, by decide +kernel, rfl⟩
theorem nw_RX0_29 : NW RX0 29 6 8 [.int 0, .int 0, .int 0, .int 0, .int 0, .null, .null, .null] := ⟨RX6, TX6, tyX6, rfl, cw_X6, ⟨(mem_g 300 (by decide +kernel) (by decide)), (mem_g 302 (by decide +kernel) (by decide)), (mem_g 84 (by decide +kernel) (by decide))⟩, tyX6_ok, by decide +kernel⟩
theorem vi_RX0_70 : VB RX0 70 yX6_init cX6_init 2 none 1 := ⟨⟨(mem_g 305 (by decide +kernel) (by decide)), (mem_g 84 (by decide +kernel) (by decide)), (mem_g 303 (by decide +kernel) (by decide))⟩, by decide, by decide, by decide +kernel⟩
theorem shb_0_0 : ((List.range NC).all fun c => decide (kd c = 0 → (c + 55 ≤ NC ∧ kd (c + 1) = 3 ∧ kd (c + 20) = 1 ∧ (kd (c + 26) = 13 ∧ ln (c + 26) = 35 ∧ frT.getD (c + 26) 0 = 0) ∧ (kd (c + 27) = 13 ∧ ln (c + 27) = 5 ∧ frT.getD (c + 27) 0 = 0) ∧ (kd (c + 28) = 13 ∧ ln (c + 28) = 5 ∧ frT.getD (c + 28) 0 = 0) ∧ (kd (c + 29) = 13 ∧ ln (c + 29) = 5 ∧ frT.getD (c + 29) 0 = 0) ∧ (kd (c + 30) = 13 ∧ ln (c + 30) = 5 ∧ frT.getD (c + 30) 0 = 0) ∧ (kd (c + 31) = 13 ∧ ln (c + 31) = 5 ∧ frT.getD (c + 31) 0 = 0) ∧ (kd (c + 32) = 13 ∧ ln (c + 32) = 5 ∧ frT.getD (c + 32) 0 = 0) ∧ (kd (c + 33) = 13 ∧ ln (c + 33) = 14 ∧ frT.getD (c + 33) 0 = 0) ∧ (kd (c + 34) = 13 ∧ ln (c + 34) = 14 ∧ frT.getD (c + 34) 0 = 0)))) = true := by decide +kernel
theorem shc_0_0 {c : Nat} (h : isK c 0) : c + 55 ≤ NC ∧ kd (c + 1) = 3 ∧ kd (c + 20) = 1 ∧ (kd (c + 26) = 13 ∧ ln (c + 26) = 35 ∧ frT.getD (c + 26) 0 = 0) ∧ (kd (c + 27) = 13 ∧ ln (c + 27) = 5 ∧ frT.getD (c + 27) 0 = 0) ∧ (kd (c + 28) = 13 ∧ ln (c + 28) = 5 ∧ frT.getD (c + 28) 0 = 0) ∧ (kd (c + 29) = 13 ∧ ln (c + 29) = 5 ∧ frT.getD (c + 29) 0 = 0) ∧ (kd (c + 30) = 13 ∧ ln (c + 30) = 5 ∧ frT.getD (c + 30) 0 = 0) ∧ (kd (c + 31) = 13 ∧ ln (c + 31) = 5 ∧ frT.getD (c + 31) 0 = 0) ∧ (kd (c + 32) = 13 ∧ ln (c + 32) = 5 ∧ frT.getD (c + 32) 0 = 0) ∧ (kd (c + 33) = 13 ∧ ln (c + 33) = 14 ∧ frT.getD (c + 33) 0 = 0) ∧ (kd (c + 34) = 13 ∧ ln (c + 34) = 14 ∧ frT.getD (c + 34) 0 = 0) := of_decide_eq_true (List.all_eq_true.mp shb_0_0 c (List.mem_range.mpr h.1)) h.2
theorem shb_0_12 : ((List.range NC).all fun c => decide (kd c = 0 → (kd (c + 35) = 6 ∧ (obT.getD (c + 35) []).getD 0 0 = (0 : Int32) ∧ kd (c + 39) = 6 ∧ (obT.getD (c + 39) []).getD 0 0 = (1 : Int32) ∧ kd (c + 43) = 6 ∧ (obT.getD (c + 43) []).getD 0 0 = (2 : Int32) ∧ kd (c + 47) = 6 ∧ (obT.getD (c + 47) []).getD 0 0 = (3 : Int32) ∧ kd (c + 51) = 6 ∧ (obT.getD (c + 51) []).getD 0 0 = (4 : Int32) ∧ rf c 0 = c + 1 ∧ rf c 1 = c + 20))) = true := by decide +kernel
theorem shc_0_12 {c : Nat} (h : isK c 0) : kd (c + 35) = 6 ∧ (obT.getD (c + 35) []).getD 0 0 = (0 : Int32) ∧ kd (c + 39) = 6 ∧ (obT.getD (c + 39) []).getD 0 0 = (1 : Int32) ∧ kd (c + 43) = 6 ∧ (obT.getD (c + 43) []).getD 0 0 = (2 : Int32) ∧ kd (c + 47) = 6 ∧ (obT.getD (c + 47) []).getD 0 0 = (3 : Int32) ∧ kd (c + 51) = 6 ∧ (obT.getD (c + 51) []).getD 0 0 = (4 : Int32) ∧ rf c 0 = c + 1 ∧ rf c 1 = c + 20 := of_decide_eq_true (List.all_eq_true.mp shb_0_12 c (List.mem_range.mpr h.1)) h.2
theorem shb_0_24 : ((List.range NC).all fun c => decide (kd c = 0 → (rf c 3 = c + 25 ∧ rf c 4 = c + 26 ∧ rf c 5 = c + 27 ∧ rf c 6 = c + 28 ∧ rf c 7 = c + 29 ∧ rf c 8 = c + 30 ∧ rf c 9 = c + 31 ∧ rf c 10 = c + 32 ∧ rf c 11 = c + 33 ∧ rf c 12 = c + 34 ∧ obT.getD c [] = [0, 0, 0, 0, 0, 0, 0, 0, 0, 0, 0, 0, 0, 0, 0] ∧ (kd (c + 25) = 17 ∧ ln (c + 25) = 5)))) = true := by decide +kernel
theorem shc_0_24 {c : Nat} (h : isK c 0) : rf c 3 = c + 25 ∧ rf c 4 = c + 26 ∧ rf c 5 = c + 27 ∧ rf c 6 = c + 28 ∧ rf c 7 = c + 29 ∧ rf c 8 = c + 30 ∧ rf c 9 = c + 31 ∧ rf c 10 = c + 32 ∧ rf c 11 = c + 33 ∧ rf c 12 = c + 34 ∧ obT.getD c [] = [0, 0, 0, 0, 0, 0, 0, 0, 0, 0, 0, 0, 0, 0, 0] ∧ (kd (c + 25) = 17 ∧ ln (c + 25) = 5) := of_decide_eq_true (List.all_eq_true.mp shb_0_24 c (List.mem_range.mpr h.1)) h.2
theorem shb_0_36 : ((List.range NC).all fun c => decide (kd c = 0 → (rf (c + 25) 0 = c + 35 ∧ rf (c + 25) 1 = c + 39 ∧ rf (c + 25) 2 = c + 43 ∧ rf (c + 25) 3 = c + 47 ∧ rf (c + 25) 4 = c + 51))) = true := by decide +kernel
theorem shc_0_36 {c : Nat} (h : isK c 0) : rf (c + 25) 0 = c + 35 ∧ rf (c + 25) 1 = c + 39 ∧ rf (c + 25) 2 = c + 43 ∧ rf (c + 25) 3 = c + 47 ∧ rf (c + 25) 4 = c + 51 := of_decide_eq_true (List.all_eq_true.mp shb_0_36 c (List.mem_range.mpr h.1)) h.2
theorem sh_0_0 {c : Nat} (h : isK c 0) : c + 55 ≤ NC := (shc_0_0 h).1
theorem sh_0_1 {c : Nat} (h : isK c 0) : kd (c + 1) = 3 := (shc_0_0 h).2.1
theorem sh_0_2 {c : Nat} (h : isK c 0) : kd (c + 20) = 1 := (shc_0_0 h).2.2.1
theorem sh_0_3 {c : Nat} (h : isK c 0) : (kd (c + 26) = 13 ∧ ln (c + 26) = 35 ∧ frT.getD (c + 26) 0 = 0) := (shc_0_0 h).2.2.2.1
theorem sh_0_4 {c : Nat} (h : isK c 0) : (kd (c + 27) = 13 ∧ ln (c + 27) = 5 ∧ frT.getD (c + 27) 0 = 0) := (shc_0_0 h).2.2.2.2.1
theorem sh_0_5 {c : Nat} (h : isK c 0) : (kd (c + 28) = 13 ∧ ln (c + 28) = 5 ∧ frT.getD (c + 28) 0 = 0) := (shc_0_0 h).2.2.2.2.2.1
theorem sh_0_6 {c : Nat} (h : isK c 0) : (kd (c + 29) = 13 ∧ ln (c + 29) = 5 ∧ frT.getD (c + 29) 0 = 0) := (shc_0_0 h).2.2.2.2.2.2.1
theorem sh_0_7 {c : Nat} (h : isK c 0) : (kd (c + 30) = 13 ∧ ln (c + 30) = 5 ∧ frT.getD (c + 30) 0 = 0) := (shc_0_0 h).2.2.2.2.2.2.2.1
theorem sh_0_8 {c : Nat} (h : isK c 0) : (kd (c + 31) = 13 ∧ ln (c + 31) = 5 ∧ frT.getD (c + 31) 0 = 0) := (shc_0_0 h).2.2.2.2.2.2.2.2.1
theorem sh_0_9 {c : Nat} (h : isK c 0) : (kd (c + 32) = 13 ∧ ln (c + 32) = 5 ∧ frT.getD (c + 32) 0 = 0) := (shc_0_0 h).2.2.2.2.2.2.2.2.2.1
theorem sh_0_10 {c : Nat} (h : isK c 0) : (kd (c + 33) = 13 ∧ ln (c + 33) = 14 ∧ frT.getD (c + 33) 0 = 0) := (shc_0_0 h).2.2.2.2.2.2.2.2.2.2.1
theorem sh_0_11 {c : Nat} (h : isK c 0) : (kd (c + 34) = 13 ∧ ln (c + 34) = 14 ∧ frT.getD (c + 34) 0 = 0) := (shc_0_0 h).2.2.2.2.2.2.2.2.2.2.2
theorem sh_0_12 {c : Nat} (h : isK c 0) : kd (c + 35) = 6 := (shc_0_12 h).1
theorem sh_0_13 {c : Nat} (h : isK c 0) : (obT.getD (c + 35) []).getD 0 0 = (0 : Int32) := (shc_0_12 h).2.1
theorem sh_0_14 {c : Nat} (h : isK c 0) : kd (c + 39) = 6 := (shc_0_12 h).2.2.1
theorem sh_0_15 {c : Nat} (h : isK c 0) : (obT.getD (c + 39) []).getD 0 0 = (1 : Int32) := (shc_0_12 h).2.2.2.1
theorem sh_0_16 {c : Nat} (h : isK c 0) : kd (c + 43) = 6 := (shc_0_12 h).2.2.2.2.1
theorem sh_0_17 {c : Nat} (h : isK c 0) : (obT.getD (c + 43) []).getD 0 0 = (2 : Int32) := (shc_0_12 h).2.2.2.2.2.1
theorem sh_0_18 {c : Nat} (h : isK c 0) : kd (c + 47) = 6 := (shc_0_12 h).2.2.2.2.2.2.1
theorem sh_0_19 {c : Nat} (h : isK c 0) : (obT.getD (c + 47) []).getD 0 0 = (3 : Int32) := (shc_0_12 h).2.2.2.2.2.2.2.1
theorem sh_0_20 {c : Nat} (h : isK c 0) : kd (c + 51) = 6 := (shc_0_12 h).2.2.2.2.2.2.2.2.1
theorem sh_0_21 {c : Nat} (h : isK c 0) : (obT.getD (c + 51) []).getD 0 0 = (4 : Int32) := (shc_0_12 h).2.2.2.2.2.2.2.2.2.1
theorem sh_0_22 {c : Nat} (h : isK c 0) : rf c 0 = c + 1 := (shc_0_12 h).2.2.2.2.2.2.2.2.2.2.1
theorem sh_0_23 {c : Nat} (h : isK c 0) : rf c 1 = c + 20 := (shc_0_12 h).2.2.2.2.2.2.2.2.2.2.2
theorem sh_0_24 {c : Nat} (h : isK c 0) : rf c 3 = c + 25 := (shc_0_24 h).1
theorem sh_0_25 {c : Nat} (h : isK c 0) : rf c 4 = c + 26 := (shc_0_24 h).2.1
theorem sh_0_26 {c : Nat} (h : isK c 0) : rf c 5 = c + 27 := (shc_0_24 h).2.2.1
theorem sh_0_27 {c : Nat} (h : isK c 0) : rf c 6 = c + 28 := (shc_0_24 h).2.2.2.1
theorem sh_0_28 {c : Nat} (h : isK c 0) : rf c 7 = c + 29 := (shc_0_24 h).2.2.2.2.1
theorem sh_0_29 {c : Nat} (h : isK c 0) : rf c 8 = c + 30 := (shc_0_24 h).2.2.2.2.2.1
theorem sh_0_30 {c : Nat} (h : isK c 0) : rf c 9 = c + 31 := (shc_0_24 h).2.2.2.2.2.2.1
theorem sh_0_31 {c : Nat} (h : isK c 0) : rf c 10 = c + 32 := (shc_0_24 h).2.2.2.2.2.2.2.1
theorem sh_0_32 {c : Nat} (h : isK c 0) : rf c 11 = c + 33 := (shc_0_24 h).2.2.2.2.2.2.2.2.1
theorem sh_0_33 {c : Nat} (h : isK c 0) : rf c 12 = c + 34 := (shc_0_24 h).2.2.2.2.2.2.2.2.2.1
theorem sh_0_34 {c : Nat} (h : isK c 0) : obT.getD c [] = [0, 0, 0, 0, 0, 0, 0, 0, 0, 0, 0, 0, 0, 0, 0] := (shc_0_24 h).2.2.2.2.2.2.2.2.2.2.1
theorem sh_0_35 {c : Nat} (h : isK c 0) : (kd (c + 25) = 17 ∧ ln (c + 25) = 5) := (shc_0_24 h).2.2.2.2.2.2.2.2.2.2.2
theorem sh_0_36 {c : Nat} (h : isK c 0) : rf (c + 25) 0 = c + 35 := (shc_0_36 h).1
theorem sh_0_37 {c : Nat} (h : isK c 0) : rf (c + 25) 1 = c + 39 := (shc_0_36 h).2.1
theorem sh_0_38 {c : Nat} (h : isK c 0) : rf (c + 25) 2 = c + 43 := (shc_0_36 h).2.2.1
theorem sh_0_39 {c : Nat} (h : isK c 0) : rf (c + 25) 3 = c + 47 := (shc_0_36 h).2.2.2.1
theorem sh_0_40 {c : Nat} (h : isK c 0) : rf (c + 25) 4 = c + 51 := (shc_0_36 h).2.2.2.2
set_option maxRecDepth 100000 in
set_option maxHeartbeats 4000000 in
theorem KX0_init (l : Launch) (M : Mc) (hE : Ex M) (c : Nat) (hc : isK c 0) (cf : Nat → va_E) (hz : cf c = .inr (0, [.null, .null, .int 0, .null, .null, .null, .null, .null, .null, .null, .null, .null, .null, .int 0, .int 0])) : CtC l M yX0_init cX0_init 2 { frames := 3, cells := 54, slots := 5518, locals := 70 } 54 5518 [.ref (adr M c)] (c + 1) cf (c + 55) (mix M c cf) := by
  have hh0 := sh_0_0 hc
  have hi2 : sg0 c 2 = (0 : Int32) := by rw [sg0_obj hc.2 (by decide) (sh_0_34 hc)]; rfl
  have hi13 : sg0 c 13 = (0 : Int32) := by rw [sg0_obj hc.2 (by decide) (sh_0_34 hc)]; rfl
  have hi14 : sg0 c 14 = (0 : Int32) := by rw [sg0_obj hc.2 (by decide) (sh_0_34 hc)]; rfl
  have hself : celX M sg0 c = .inr (0, [.ref (adr M (c + 1)), .ref (adr M (c + 20)), .int (0 : Int32), .ref (adr M (c + 25)), .ref (adr M (c + 26)), .ref (adr M (c + 27)), .ref (adr M (c + 28)), .ref (adr M (c + 29)), .ref (adr M (c + 30)), .ref (adr M (c + 31)), .ref (adr M (c + 32)), .ref (adr M (c + 33)), .ref (adr M (c + 34)), .int (0 : Int32), .int (0 : Int32)]) := by
    rw [celX_obj hc.2 (by decide), mp_eq]
    show (Sum.inr (0, [.ref (adr M (rf c 0)), .ref (adr M (rf c 1)), .int (sg0 c 2), .ref (adr M (rf c 3)), .ref (adr M (rf c 4)), .ref (adr M (rf c 5)), .ref (adr M (rf c 6)), .ref (adr M (rf c 7)), .ref (adr M (rf c 8)), .ref (adr M (rf c 9)), .ref (adr M (rf c 10)), .ref (adr M (rf c 11)), .ref (adr M (rf c 12)), .int (sg0 c 13), .int (sg0 c 14)]) : va_E) = _
    rw [hi2, hi13, hi14, (sh_0_22 hc), (sh_0_23 hc), (sh_0_24 hc), (sh_0_25 hc), (sh_0_26 hc), (sh_0_27 hc), (sh_0_28 hc), (sh_0_29 hc), (sh_0_30 hc), (sh_0_31 hc), (sh_0_32 hc), (sh_0_33 hc)]
  have hov : (.inl (M.2.1 17, 5, .inr (.inr (.inr (.inr (va_up (va_up (va_up (va_up (va_up (fun _ => none) 0 (some (adr M (c + 35)))) 1 (some (adr M (c + 39)))) 2 (some (adr M (c + 43)))) 3 (some (adr M (c + 47)))) 4 (some (adr M (c + 51)))))))) : va_E) = celX M sg0 (c + 25) := (by
    rw [celX_rarr (sh_0_35 hc) (by decide)]
    refine congrArg (fun z => Sum.inl (M.2.1 17, 5, Sum.inr (Sum.inr (Sum.inr (Sum.inr z))))) (funext fun i => ?_)
    rcases Nat.lt_or_ge i 5 with hi | hi
    · rw [if_pos hi]
      match i, hi with
      | 0, _ => rw [(sh_0_36 hc)]; simp [va_up]
      | 1, _ => rw [(sh_0_37 hc)]; simp [va_up]
      | 2, _ => rw [(sh_0_38 hc)]; simp [va_up]
      | 3, _ => rw [(sh_0_39 hc)]; simp [va_up]
      | 4, _ => rw [(sh_0_40 hc)]; simp [va_up]
      | i + 5, hi => omega
    · rw [if_neg (by omega)]
      simp only [va_up]
      rw [if_neg (by omega), if_neg (by omega), if_neg (by omega), if_neg (by omega), if_neg (by omega)])
  refine ctc_of (l := l) hE.Dj (by decide) (Nat.le_of_ble_eq_true rfl) ?_
  intro p e s m args below meth cd C hin hsz hAO
  refine jc_congr (cg := W0 c cf 0 [.null, .null, .int 0, .null, .null, .null, .null, .null, .null, .null, .null, .null, .null, .int 0, .int 0] (celX M sg0)) (ent0 hz) ?_
  refine jc_aload_n C dX0_init_0 rfl ?_
  refine jc_obj C dX0_init_1 (mem_g 109 (by decide +kernel) (by decide)) lo_1 lo_2 (by decide) (Nat.le_of_ble_eq_true rfl) ?_
  refine jc_aload_n C dX0_init_4 rfl ?_
  refine jc_new C hE dX0_init_5 nw_RX0_9 (by omega) (hE.at hsz (by omega)) ⟨by decide, by decide⟩ ?_
  refine jc_n (n2 := c + 2) (by omega) ?_
  refine jc_congr (cg := W0 c cf 0 [.null, .null, .int 0, .null, .null, .null, .null, .null, .null, .null, .null, .null, .null, .int 0, .int 0] (va_up (celX M sg0) (c + 1) (.inr (3, [.null, .null, .null, .int 0, .null, .null])))) (up_b (by omega) _) ?_
  refine jc_dup C dX0_init_8 rfl ?_
  refine jc_init C hE hAO (As := []) dX0_init_9 (KX3_init l M hE (c + 1) ⟨by omega, (sh_0_1 hc)⟩ _ (by rw [W0_hi (by omega)]; simp [va_up])) vi_RX0_11 ⟨rfl, (mem_g 113 (by decide +kernel) (by decide))⟩ rfl rfl ⟨rfl, rfl⟩ (by decide) (Nat.le_of_ble_eq_true rfl) ⟨by decide, by decide⟩ (by omega) (hE.at hsz (by omega)) ?_
  refine jc_n (n2 := c + 20) (by omega) ?_
  refine jc_congr (cg := W0 c cf 0 [.null, .null, .int 0, .null, .null, .null, .null, .null, .null, .null, .null, .null, .null, .int 0, .int 0] (celX M sg0)) (up_c (by omega) (fun q h1 h2 => rfl)) ?_
  refine jc_putF C (fs2 := [.ref (adr M (c + 1)), .null, .int 0, .null, .null, .null, .null, .null, .null, .null, .null, .null, .null, .int 0, .int 0]) dX0_init_12 fl_RX0_12 ff_0_0 hin (by omega) (by omega) (Nat.le_of_ble_eq_true rfl) rfl rfl rfl ?_
  refine jc_aload_n C dX0_init_15 rfl ?_
  refine jc_new C hE dX0_init_16 nw_RX0_18 (by omega) (hE.at hsz (by omega)) ⟨by decide, by decide⟩ ?_
  refine jc_n (n2 := c + 21) (by omega) ?_
  refine jc_congr (cg := W0 c cf 0 [.ref (adr M (c + 1)), .null, .int 0, .null, .null, .null, .null, .null, .null, .null, .null, .null, .null, .int 0, .int 0] (va_up (celX M sg0) (c + 20) (.inr (1, [.int 0, .null, .null, .null, .null, .int 0, .int 0, .int 0, .int 0, .int 0, .int 0, .int 0, .int 0])))) (up_b (by omega) _) ?_
  refine jc_dup C dX0_init_19 rfl ?_
  refine jc_init C hE hAO (As := []) dX0_init_20 (KX1_init l M hE (c + 20) ⟨by omega, (sh_0_2 hc)⟩ _ (by rw [W0_hi (by omega)]; simp [va_up])) vi_RX0_20 ⟨rfl, (mem_g 243 (by decide +kernel) (by decide))⟩ rfl rfl ⟨rfl, rfl⟩ (by decide) (Nat.le_of_ble_eq_true rfl) ⟨by decide, by decide⟩ (by omega) (hE.at hsz (by omega)) ?_
  refine jc_n (n2 := c + 25) (by omega) ?_
  refine jc_congr (cg := W0 c cf 0 [.ref (adr M (c + 1)), .null, .int 0, .null, .null, .null, .null, .null, .null, .null, .null, .null, .null, .int 0, .int 0] (celX M sg0)) (up_c (by omega) (fun q h1 h2 => rfl)) ?_
  refine jc_putF C (fs2 := [.ref (adr M (c + 1)), .ref (adr M (c + 20)), .int 0, .null, .null, .null, .null, .null, .null, .null, .null, .null, .null, .int 0, .int 0]) dX0_init_23 fl_RX0_21 ff_0_1 hin (by omega) (by omega) (Nat.le_of_ble_eq_true rfl) rfl rfl rfl ?_
  refine jc_aload_n C dX0_init_26 rfl ?_
  refine jc_iconst C (v := (0 : Int32)) dX0_init_27 (by decide) ?_
  refine jc_put C (fs2 := [.ref (adr M (c + 1)), .ref (adr M (c + 20)), .int (0 : Int32), .null, .null, .null, .null, .null, .null, .null, .null, .null, .null, .int 0, .int 0]) dX0_init_28 fl_RX0_25 fs_0_2 (by omega) (by omega) (Nat.le_of_ble_eq_true rfl) rfl rfl rfl ?_
  refine jc_aload_n C dX0_init_31 rfl ?_
  refine jc_iconst C (v := (5 : Int32)) dX0_init_32 (by decide) ?_
  refine jc_anew C hE (k := 17) (N := 5) (t0 := 5) dX0_init_33 (mem_g 300 (by decide +kernel) (by decide)) hAO.2.1 rfl (by omega) (hE.at hsz (by omega)) (by decide) (by decide) (by decide) ⟨by decide, by decide⟩ ?_
  refine jc_n (n2 := c + 26) (by omega) ?_
  refine jc_congr (cg := W0 c cf 0 [.ref (adr M (c + 1)), .ref (adr M (c + 20)), .int (0 : Int32), .null, .null, .null, .null, .null, .null, .null, .null, .null, .null, .int 0, .int 0] (va_up (celX M sg0) (c + 25) (.inl (M.2.1 17, 5, .inr (.inr (.inr (.inr fun _ => none))))))) (up_b (by omega) _) ?_
  refine jc_putF C (fs2 := [.ref (adr M (c + 1)), .ref (adr M (c + 20)), .int (0 : Int32), .ref (adr M (c + 25)), .null, .null, .null, .null, .null, .null, .null, .null, .null, .int 0, .int 0]) dX0_init_36 fl_RX0_31 ff_0_3 hin (by omega) (by omega) (Nat.le_of_ble_eq_true rfl) rfl rfl rfl ?_
  refine jc_aload_n C dX0_init_39 rfl ?_
  refine jc_bipush C (v := (35 : Int32)) dX0_init_40 (by decide) ?_
  refine jc_newa_i C hE (N := 35) dX0_init_42 ac_int (by omega) (hE.at hsz (by omega)) (by decide) (by decide) (by decide) ⟨by decide, by decide⟩ ?_
  refine jc_n (n2 := c + 27) (by omega) ?_
  refine jc_congr (cg := W0 c cf 0 [.ref (adr M (c + 1)), .ref (adr M (c + 20)), .int (0 : Int32), .ref (adr M (c + 25)), .null, .null, .null, .null, .null, .null, .null, .null, .null, .int 0, .int 0] (va_up (celX M sg0) (c + 25) (.inl (M.2.1 17, 5, .inr (.inr (.inr (.inr fun _ => none))))))) (up_a (by omega) ((va_up_ne _ _ (by omega)).trans (celX_arr0 (sh_0_3 hc) (by decide) (by decide))) _) ?_
  refine jc_putF C (fs2 := [.ref (adr M (c + 1)), .ref (adr M (c + 20)), .int (0 : Int32), .ref (adr M (c + 25)), .ref (adr M (c + 26)), .null, .null, .null, .null, .null, .null, .null, .null, .int 0, .int 0]) dX0_init_44 fl_RX0_35 ff_0_4 hin (by omega) (by omega) (Nat.le_of_ble_eq_true rfl) rfl rfl rfl ?_
  refine jc_aload_n C dX0_init_47 rfl ?_
  refine jc_iconst C (v := (5 : Int32)) dX0_init_48 (by decide) ?_
  refine jc_newa_i C hE (N := 5) dX0_init_49 ac_int (by omega) (hE.at hsz (by omega)) (by decide) (by decide) (by decide) ⟨by decide, by decide⟩ ?_
  refine jc_n (n2 := c + 28) (by omega) ?_
  refine jc_congr (cg := W0 c cf 0 [.ref (adr M (c + 1)), .ref (adr M (c + 20)), .int (0 : Int32), .ref (adr M (c + 25)), .ref (adr M (c + 26)), .null, .null, .null, .null, .null, .null, .null, .null, .int 0, .int 0] (va_up (celX M sg0) (c + 25) (.inl (M.2.1 17, 5, .inr (.inr (.inr (.inr fun _ => none))))))) (up_a (by omega) ((va_up_ne _ _ (by omega)).trans (celX_arr0 (sh_0_4 hc) (by decide) (by decide))) _) ?_
  refine jc_putF C (fs2 := [.ref (adr M (c + 1)), .ref (adr M (c + 20)), .int (0 : Int32), .ref (adr M (c + 25)), .ref (adr M (c + 26)), .ref (adr M (c + 27)), .null, .null, .null, .null, .null, .null, .null, .int 0, .int 0]) dX0_init_51 fl_RX0_39 ff_0_5 hin (by omega) (by omega) (Nat.le_of_ble_eq_true rfl) rfl rfl rfl ?_
  refine jc_aload_n C dX0_init_54 rfl ?_
  refine jc_iconst C (v := (5 : Int32)) dX0_init_55 (by decide) ?_
  refine jc_newa_i C hE (N := 5) dX0_init_56 ac_int (by omega) (hE.at hsz (by omega)) (by decide) (by decide) (by decide) ⟨by decide, by decide⟩ ?_
  refine jc_n (n2 := c + 29) (by omega) ?_
  refine jc_congr (cg := W0 c cf 0 [.ref (adr M (c + 1)), .ref (adr M (c + 20)), .int (0 : Int32), .ref (adr M (c + 25)), .ref (adr M (c + 26)), .ref (adr M (c + 27)), .null, .null, .null, .null, .null, .null, .null, .int 0, .int 0] (va_up (celX M sg0) (c + 25) (.inl (M.2.1 17, 5, .inr (.inr (.inr (.inr fun _ => none))))))) (up_a (by omega) ((va_up_ne _ _ (by omega)).trans (celX_arr0 (sh_0_5 hc) (by decide) (by decide))) _) ?_
  refine jc_putF C (fs2 := [.ref (adr M (c + 1)), .ref (adr M (c + 20)), .int (0 : Int32), .ref (adr M (c + 25)), .ref (adr M (c + 26)), .ref (adr M (c + 27)), .ref (adr M (c + 28)), .null, .null, .null, .null, .null, .null, .int 0, .int 0]) dX0_init_58 fl_RX0_42 ff_0_6 hin (by omega) (by omega) (Nat.le_of_ble_eq_true rfl) rfl rfl rfl ?_
  refine jc_aload_n C dX0_init_61 rfl ?_
  refine jc_iconst C (v := (5 : Int32)) dX0_init_62 (by decide) ?_
  refine jc_newa_i C hE (N := 5) dX0_init_63 ac_int (by omega) (hE.at hsz (by omega)) (by decide) (by decide) (by decide) ⟨by decide, by decide⟩ ?_
  refine jc_n (n2 := c + 30) (by omega) ?_
  refine jc_congr (cg := W0 c cf 0 [.ref (adr M (c + 1)), .ref (adr M (c + 20)), .int (0 : Int32), .ref (adr M (c + 25)), .ref (adr M (c + 26)), .ref (adr M (c + 27)), .ref (adr M (c + 28)), .null, .null, .null, .null, .null, .null, .int 0, .int 0] (va_up (celX M sg0) (c + 25) (.inl (M.2.1 17, 5, .inr (.inr (.inr (.inr fun _ => none))))))) (up_a (by omega) ((va_up_ne _ _ (by omega)).trans (celX_arr0 (sh_0_6 hc) (by decide) (by decide))) _) ?_
  refine jc_putF C (fs2 := [.ref (adr M (c + 1)), .ref (adr M (c + 20)), .int (0 : Int32), .ref (adr M (c + 25)), .ref (adr M (c + 26)), .ref (adr M (c + 27)), .ref (adr M (c + 28)), .ref (adr M (c + 29)), .null, .null, .null, .null, .null, .int 0, .int 0]) dX0_init_65 fl_RX0_45 ff_0_7 hin (by omega) (by omega) (Nat.le_of_ble_eq_true rfl) rfl rfl rfl ?_
  refine jc_aload_n C dX0_init_68 rfl ?_
  refine jc_iconst C (v := (5 : Int32)) dX0_init_69 (by decide) ?_
  refine jc_newa_i C hE (N := 5) dX0_init_70 ac_int (by omega) (hE.at hsz (by omega)) (by decide) (by decide) (by decide) ⟨by decide, by decide⟩ ?_
  refine jc_n (n2 := c + 31) (by omega) ?_
  refine jc_congr (cg := W0 c cf 0 [.ref (adr M (c + 1)), .ref (adr M (c + 20)), .int (0 : Int32), .ref (adr M (c + 25)), .ref (adr M (c + 26)), .ref (adr M (c + 27)), .ref (adr M (c + 28)), .ref (adr M (c + 29)), .null, .null, .null, .null, .null, .int 0, .int 0] (va_up (celX M sg0) (c + 25) (.inl (M.2.1 17, 5, .inr (.inr (.inr (.inr fun _ => none))))))) (up_a (by omega) ((va_up_ne _ _ (by omega)).trans (celX_arr0 (sh_0_7 hc) (by decide) (by decide))) _) ?_
  refine jc_putF C (fs2 := [.ref (adr M (c + 1)), .ref (adr M (c + 20)), .int (0 : Int32), .ref (adr M (c + 25)), .ref (adr M (c + 26)), .ref (adr M (c + 27)), .ref (adr M (c + 28)), .ref (adr M (c + 29)), .ref (adr M (c + 30)), .null, .null, .null, .null, .int 0, .int 0]) dX0_init_72 fl_RX0_48 ff_0_8 hin (by omega) (by omega) (Nat.le_of_ble_eq_true rfl) rfl rfl rfl ?_
  refine jc_aload_n C dX0_init_75 rfl ?_
  refine jc_iconst C (v := (5 : Int32)) dX0_init_76 (by decide) ?_
  refine jc_newa_i C hE (N := 5) dX0_init_77 ac_int (by omega) (hE.at hsz (by omega)) (by decide) (by decide) (by decide) ⟨by decide, by decide⟩ ?_
  refine jc_n (n2 := c + 32) (by omega) ?_
  refine jc_congr (cg := W0 c cf 0 [.ref (adr M (c + 1)), .ref (adr M (c + 20)), .int (0 : Int32), .ref (adr M (c + 25)), .ref (adr M (c + 26)), .ref (adr M (c + 27)), .ref (adr M (c + 28)), .ref (adr M (c + 29)), .ref (adr M (c + 30)), .null, .null, .null, .null, .int 0, .int 0] (va_up (celX M sg0) (c + 25) (.inl (M.2.1 17, 5, .inr (.inr (.inr (.inr fun _ => none))))))) (up_a (by omega) ((va_up_ne _ _ (by omega)).trans (celX_arr0 (sh_0_8 hc) (by decide) (by decide))) _) ?_
  refine jc_putF C (fs2 := [.ref (adr M (c + 1)), .ref (adr M (c + 20)), .int (0 : Int32), .ref (adr M (c + 25)), .ref (adr M (c + 26)), .ref (adr M (c + 27)), .ref (adr M (c + 28)), .ref (adr M (c + 29)), .ref (adr M (c + 30)), .ref (adr M (c + 31)), .null, .null, .null, .int 0, .int 0]) dX0_init_79 fl_RX0_51 ff_0_9 hin (by omega) (by omega) (Nat.le_of_ble_eq_true rfl) rfl rfl rfl ?_
  refine jc_aload_n C dX0_init_82 rfl ?_
  refine jc_iconst C (v := (5 : Int32)) dX0_init_83 (by decide) ?_
  refine jc_newa_i C hE (N := 5) dX0_init_84 ac_int (by omega) (hE.at hsz (by omega)) (by decide) (by decide) (by decide) ⟨by decide, by decide⟩ ?_
  refine jc_n (n2 := c + 33) (by omega) ?_
  refine jc_congr (cg := W0 c cf 0 [.ref (adr M (c + 1)), .ref (adr M (c + 20)), .int (0 : Int32), .ref (adr M (c + 25)), .ref (adr M (c + 26)), .ref (adr M (c + 27)), .ref (adr M (c + 28)), .ref (adr M (c + 29)), .ref (adr M (c + 30)), .ref (adr M (c + 31)), .null, .null, .null, .int 0, .int 0] (va_up (celX M sg0) (c + 25) (.inl (M.2.1 17, 5, .inr (.inr (.inr (.inr fun _ => none))))))) (up_a (by omega) ((va_up_ne _ _ (by omega)).trans (celX_arr0 (sh_0_9 hc) (by decide) (by decide))) _) ?_
  refine jc_putF C (fs2 := [.ref (adr M (c + 1)), .ref (adr M (c + 20)), .int (0 : Int32), .ref (adr M (c + 25)), .ref (adr M (c + 26)), .ref (adr M (c + 27)), .ref (adr M (c + 28)), .ref (adr M (c + 29)), .ref (adr M (c + 30)), .ref (adr M (c + 31)), .ref (adr M (c + 32)), .null, .null, .int 0, .int 0]) dX0_init_86 fl_RX0_54 ff_0_10 hin (by omega) (by omega) (Nat.le_of_ble_eq_true rfl) rfl rfl rfl ?_
  refine jc_aload_n C dX0_init_89 rfl ?_
  refine jc_bipush C (v := (14 : Int32)) dX0_init_90 (by decide) ?_
  refine jc_newa_i C hE (N := 14) dX0_init_92 ac_int (by omega) (hE.at hsz (by omega)) (by decide) (by decide) (by decide) ⟨by decide, by decide⟩ ?_
  refine jc_n (n2 := c + 34) (by omega) ?_
  refine jc_congr (cg := W0 c cf 0 [.ref (adr M (c + 1)), .ref (adr M (c + 20)), .int (0 : Int32), .ref (adr M (c + 25)), .ref (adr M (c + 26)), .ref (adr M (c + 27)), .ref (adr M (c + 28)), .ref (adr M (c + 29)), .ref (adr M (c + 30)), .ref (adr M (c + 31)), .ref (adr M (c + 32)), .null, .null, .int 0, .int 0] (va_up (celX M sg0) (c + 25) (.inl (M.2.1 17, 5, .inr (.inr (.inr (.inr fun _ => none))))))) (up_a (by omega) ((va_up_ne _ _ (by omega)).trans (celX_arr0 (sh_0_10 hc) (by decide) (by decide))) _) ?_
  refine jc_putF C (fs2 := [.ref (adr M (c + 1)), .ref (adr M (c + 20)), .int (0 : Int32), .ref (adr M (c + 25)), .ref (adr M (c + 26)), .ref (adr M (c + 27)), .ref (adr M (c + 28)), .ref (adr M (c + 29)), .ref (adr M (c + 30)), .ref (adr M (c + 31)), .ref (adr M (c + 32)), .ref (adr M (c + 33)), .null, .int 0, .int 0]) dX0_init_94 fl_RX0_57 ff_0_11 hin (by omega) (by omega) (Nat.le_of_ble_eq_true rfl) rfl rfl rfl ?_
  refine jc_aload_n C dX0_init_97 rfl ?_
  refine jc_bipush C (v := (14 : Int32)) dX0_init_98 (by decide) ?_
  refine jc_newa_i C hE (N := 14) dX0_init_100 ac_int (by omega) (hE.at hsz (by omega)) (by decide) (by decide) (by decide) ⟨by decide, by decide⟩ ?_
  refine jc_n (n2 := c + 35) (by omega) ?_
  refine jc_congr (cg := W0 c cf 0 [.ref (adr M (c + 1)), .ref (adr M (c + 20)), .int (0 : Int32), .ref (adr M (c + 25)), .ref (adr M (c + 26)), .ref (adr M (c + 27)), .ref (adr M (c + 28)), .ref (adr M (c + 29)), .ref (adr M (c + 30)), .ref (adr M (c + 31)), .ref (adr M (c + 32)), .ref (adr M (c + 33)), .null, .int 0, .int 0] (va_up (celX M sg0) (c + 25) (.inl (M.2.1 17, 5, .inr (.inr (.inr (.inr fun _ => none))))))) (up_a (by omega) ((va_up_ne _ _ (by omega)).trans (celX_arr0 (sh_0_11 hc) (by decide) (by decide))) _) ?_
  refine jc_putF C (fs2 := [.ref (adr M (c + 1)), .ref (adr M (c + 20)), .int (0 : Int32), .ref (adr M (c + 25)), .ref (adr M (c + 26)), .ref (adr M (c + 27)), .ref (adr M (c + 28)), .ref (adr M (c + 29)), .ref (adr M (c + 30)), .ref (adr M (c + 31)), .ref (adr M (c + 32)), .ref (adr M (c + 33)), .ref (adr M (c + 34)), .int 0, .int 0]) dX0_init_102 fl_RX0_60 ff_0_12 hin (by omega) (by omega) (Nat.le_of_ble_eq_true rfl) rfl rfl rfl ?_
  refine jc_aload_n C dX0_init_105 rfl ?_
  refine jc_iconst C (v := (0 : Int32)) dX0_init_106 (by decide) ?_
  refine jc_put C (fs2 := [.ref (adr M (c + 1)), .ref (adr M (c + 20)), .int (0 : Int32), .ref (adr M (c + 25)), .ref (adr M (c + 26)), .ref (adr M (c + 27)), .ref (adr M (c + 28)), .ref (adr M (c + 29)), .ref (adr M (c + 30)), .ref (adr M (c + 31)), .ref (adr M (c + 32)), .ref (adr M (c + 33)), .ref (adr M (c + 34)), .int (0 : Int32), .int 0]) dX0_init_107 fl_RX0_63 fs_0_13 (by omega) (by omega) (Nat.le_of_ble_eq_true rfl) rfl rfl rfl ?_
  refine jc_aload_n C dX0_init_110 rfl ?_
  refine jc_iconst C (v := (0 : Int32)) dX0_init_111 (by decide) ?_
  refine jc_put C (fs2 := [.ref (adr M (c + 1)), .ref (adr M (c + 20)), .int (0 : Int32), .ref (adr M (c + 25)), .ref (adr M (c + 26)), .ref (adr M (c + 27)), .ref (adr M (c + 28)), .ref (adr M (c + 29)), .ref (adr M (c + 30)), .ref (adr M (c + 31)), .ref (adr M (c + 32)), .ref (adr M (c + 33)), .ref (adr M (c + 34)), .int (0 : Int32), .int (0 : Int32)]) dX0_init_112 fl_RX0_67 fs_0_14 (by omega) (by omega) (Nat.le_of_ble_eq_true rfl) rfl rfl rfl ?_
  refine jc_iconst C (v := (0 : Int32)) dX0_init_115 (by decide) ?_
  refine jc_istore_n C (Ls' := [(1, .int (0 : Int32)), (0, .ref (adr M c))]) dX0_init_116 (by decide) rfl ?_
  refine jc_iload_n C dX0_init_117 rfl ?_
  refine jc_iconst C (v := (5 : Int32)) dX0_init_118 (by decide) ?_
  refine jc_ge_f C (tgt := 142) dX0_init_119 (by decide) (by decide) ?_
  refine jc_aload_n C dX0_init_122 rfl ?_
  refine jc_get C (v := .ref (adr M (c + 25))) dX0_init_123 fl_RX0_31 (by omega) W0_self rfl ?_
  refine jc_iload_n C dX0_init_126 rfl ?_
  refine jc_new C hE dX0_init_127 nw_RX0_29 (by omega) (hE.at hsz (by omega)) ⟨by decide, by decide⟩ ?_
  refine jc_n (n2 := c + 36) (by omega) ?_
  refine jc_congr (cg := W0 c cf 0 [.ref (adr M (c + 1)), .ref (adr M (c + 20)), .int (0 : Int32), .ref (adr M (c + 25)), .ref (adr M (c + 26)), .ref (adr M (c + 27)), .ref (adr M (c + 28)), .ref (adr M (c + 29)), .ref (adr M (c + 30)), .ref (adr M (c + 31)), .ref (adr M (c + 32)), .ref (adr M (c + 33)), .ref (adr M (c + 34)), .int (0 : Int32), .int (0 : Int32)] (va_up (va_up (celX M sg0) (c + 25) (.inl (M.2.1 17, 5, .inr (.inr (.inr (.inr fun _ => none)))))) (c + 35) (.inr (6, [.int 0, .int 0, .int 0, .int 0, .int 0, .null, .null, .null])))) (up_b (by omega) _) ?_
  refine jc_dup C dX0_init_130 rfl ?_
  refine jc_iload_n C dX0_init_131 rfl ?_
  refine jc_init C hE hAO (As := [.int (0 : Int32)]) dX0_init_132 (KX6_init l M hE (c + 35) ⟨by omega, (sh_0_12 hc)⟩ _ (by rw [W0_hi (by omega)]; simp [va_up]) (0 : Int32) (by rw [(sh_0_13 hc)])) vi_RX0_70 ⟨rfl, (mem_g 304 (by decide +kernel) (by decide))⟩ rfl rfl ⟨rfl, rfl⟩ (by decide) (Nat.le_of_ble_eq_true rfl) ⟨by decide, by decide⟩ (by omega) (hE.at hsz (by omega)) ?_
  refine jc_n (n2 := c + 39) (by omega) ?_
  refine jc_congr (cg := W0 c cf 0 [.ref (adr M (c + 1)), .ref (adr M (c + 20)), .int (0 : Int32), .ref (adr M (c + 25)), .ref (adr M (c + 26)), .ref (adr M (c + 27)), .ref (adr M (c + 28)), .ref (adr M (c + 29)), .ref (adr M (c + 30)), .ref (adr M (c + 31)), .ref (adr M (c + 32)), .ref (adr M (c + 33)), .ref (adr M (c + 34)), .int (0 : Int32), .int (0 : Int32)] (va_up (celX M sg0) (c + 25) (.inl (M.2.1 17, 5, .inr (.inr (.inr (.inr fun _ => none))))))) (up_c (by omega) (fun q h1 h2 => by rw [va_up_ne _ _ (by omega)])) ?_
  refine jc_aast C (a := c + 25) (o := c + 35) (k := 17) (kk := 6) (N := 5) (f := fun _ => none) (t0 := 5) dX0_init_135 (by omega) (by omega) (by omega) ((W0_hi (by omega)).trans (by simp [va_up])) ((W0_hi (by omega)).trans ((va_up_ne _ _ (by omega)).trans (celX_obj (sh_0_12 hc) (by decide)))) rfl rfl (by decide) ?_
  refine jc_congr (cg := W0 c cf 0 [.ref (adr M (c + 1)), .ref (adr M (c + 20)), .int (0 : Int32), .ref (adr M (c + 25)), .ref (adr M (c + 26)), .ref (adr M (c + 27)), .ref (adr M (c + 28)), .ref (adr M (c + 29)), .ref (adr M (c + 30)), .ref (adr M (c + 31)), .ref (adr M (c + 32)), .ref (adr M (c + 33)), .ref (adr M (c + 34)), .int (0 : Int32), .int (0 : Int32)] (va_up (celX M sg0) (c + 25) (.inl (M.2.1 17, 5, .inr (.inr (.inr (.inr (va_up (fun _ => none) 0 (some (adr M (c + 35))))))))))) (up_d (by omega) _) ?_
  refine jc_iinc C (v := (1 : Int32)) (Ls' := [(1, .int (1 : Int32)), (0, .ref (adr M c))]) dX0_init_136 0 rfl (by decide) (by decide) rfl ?_
  refine jc_goto C (tgt := 117) dX0_init_139 (by decide) ?_
  refine jc_iload_n C dX0_init_117 rfl ?_
  refine jc_iconst C (v := (5 : Int32)) dX0_init_118 (by decide) ?_
  refine jc_ge_f C (tgt := 142) dX0_init_119 (by decide) (by decide) ?_
  refine jc_aload_n C dX0_init_122 rfl ?_
  refine jc_get C (v := .ref (adr M (c + 25))) dX0_init_123 fl_RX0_31 (by omega) W0_self rfl ?_
  refine jc_iload_n C dX0_init_126 rfl ?_
  refine jc_new C hE dX0_init_127 nw_RX0_29 (by omega) (hE.at hsz (by omega)) ⟨by decide, by decide⟩ ?_
  refine jc_n (n2 := c + 40) (by omega) ?_
  refine jc_congr (cg := W0 c cf 0 [.ref (adr M (c + 1)), .ref (adr M (c + 20)), .int (0 : Int32), .ref (adr M (c + 25)), .ref (adr M (c + 26)), .ref (adr M (c + 27)), .ref (adr M (c + 28)), .ref (adr M (c + 29)), .ref (adr M (c + 30)), .ref (adr M (c + 31)), .ref (adr M (c + 32)), .ref (adr M (c + 33)), .ref (adr M (c + 34)), .int (0 : Int32), .int (0 : Int32)] (va_up (va_up (celX M sg0) (c + 25) (.inl (M.2.1 17, 5, .inr (.inr (.inr (.inr (va_up (fun _ => none) 0 (some (adr M (c + 35)))))))))) (c + 39) (.inr (6, [.int 0, .int 0, .int 0, .int 0, .int 0, .null, .null, .null])))) (up_b (by omega) _) ?_
  refine jc_dup C dX0_init_130 rfl ?_
  refine jc_iload_n C dX0_init_131 rfl ?_
  refine jc_init C hE hAO (As := [.int (1 : Int32)]) dX0_init_132 (KX6_init l M hE (c + 39) ⟨by omega, (sh_0_14 hc)⟩ _ (by rw [W0_hi (by omega)]; simp [va_up]) (1 : Int32) (by rw [(sh_0_15 hc)])) vi_RX0_70 ⟨rfl, (mem_g 304 (by decide +kernel) (by decide))⟩ rfl rfl ⟨rfl, rfl⟩ (by decide) (Nat.le_of_ble_eq_true rfl) ⟨by decide, by decide⟩ (by omega) (hE.at hsz (by omega)) ?_
  refine jc_n (n2 := c + 43) (by omega) ?_
  refine jc_congr (cg := W0 c cf 0 [.ref (adr M (c + 1)), .ref (adr M (c + 20)), .int (0 : Int32), .ref (adr M (c + 25)), .ref (adr M (c + 26)), .ref (adr M (c + 27)), .ref (adr M (c + 28)), .ref (adr M (c + 29)), .ref (adr M (c + 30)), .ref (adr M (c + 31)), .ref (adr M (c + 32)), .ref (adr M (c + 33)), .ref (adr M (c + 34)), .int (0 : Int32), .int (0 : Int32)] (va_up (celX M sg0) (c + 25) (.inl (M.2.1 17, 5, .inr (.inr (.inr (.inr (va_up (fun _ => none) 0 (some (adr M (c + 35))))))))))) (up_c (by omega) (fun q h1 h2 => by rw [va_up_ne _ _ (by omega)])) ?_
  refine jc_aast C (a := c + 25) (o := c + 39) (k := 17) (kk := 6) (N := 5) (f := va_up (fun _ => none) 0 (some (adr M (c + 35)))) (t0 := 5) dX0_init_135 (by omega) (by omega) (by omega) ((W0_hi (by omega)).trans (by simp [va_up])) ((W0_hi (by omega)).trans ((va_up_ne _ _ (by omega)).trans (celX_obj (sh_0_14 hc) (by decide)))) rfl rfl (by decide) ?_
  refine jc_congr (cg := W0 c cf 0 [.ref (adr M (c + 1)), .ref (adr M (c + 20)), .int (0 : Int32), .ref (adr M (c + 25)), .ref (adr M (c + 26)), .ref (adr M (c + 27)), .ref (adr M (c + 28)), .ref (adr M (c + 29)), .ref (adr M (c + 30)), .ref (adr M (c + 31)), .ref (adr M (c + 32)), .ref (adr M (c + 33)), .ref (adr M (c + 34)), .int (0 : Int32), .int (0 : Int32)] (va_up (celX M sg0) (c + 25) (.inl (M.2.1 17, 5, .inr (.inr (.inr (.inr (va_up (va_up (fun _ => none) 0 (some (adr M (c + 35)))) 1 (some (adr M (c + 39))))))))))) (up_d (by omega) _) ?_
  refine jc_iinc C (v := (2 : Int32)) (Ls' := [(1, .int (2 : Int32)), (0, .ref (adr M c))]) dX0_init_136 0 rfl (by decide) (by decide) rfl ?_
  refine jc_goto C (tgt := 117) dX0_init_139 (by decide) ?_
  refine jc_iload_n C dX0_init_117 rfl ?_
  refine jc_iconst C (v := (5 : Int32)) dX0_init_118 (by decide) ?_
  refine jc_ge_f C (tgt := 142) dX0_init_119 (by decide) (by decide) ?_
  refine jc_aload_n C dX0_init_122 rfl ?_
  refine jc_get C (v := .ref (adr M (c + 25))) dX0_init_123 fl_RX0_31 (by omega) W0_self rfl ?_
  refine jc_iload_n C dX0_init_126 rfl ?_
  refine jc_new C hE dX0_init_127 nw_RX0_29 (by omega) (hE.at hsz (by omega)) ⟨by decide, by decide⟩ ?_
  refine jc_n (n2 := c + 44) (by omega) ?_
  refine jc_congr (cg := W0 c cf 0 [.ref (adr M (c + 1)), .ref (adr M (c + 20)), .int (0 : Int32), .ref (adr M (c + 25)), .ref (adr M (c + 26)), .ref (adr M (c + 27)), .ref (adr M (c + 28)), .ref (adr M (c + 29)), .ref (adr M (c + 30)), .ref (adr M (c + 31)), .ref (adr M (c + 32)), .ref (adr M (c + 33)), .ref (adr M (c + 34)), .int (0 : Int32), .int (0 : Int32)] (va_up (va_up (celX M sg0) (c + 25) (.inl (M.2.1 17, 5, .inr (.inr (.inr (.inr (va_up (va_up (fun _ => none) 0 (some (adr M (c + 35)))) 1 (some (adr M (c + 39)))))))))) (c + 43) (.inr (6, [.int 0, .int 0, .int 0, .int 0, .int 0, .null, .null, .null])))) (up_b (by omega) _) ?_
  refine jc_dup C dX0_init_130 rfl ?_
  refine jc_iload_n C dX0_init_131 rfl ?_
  refine jc_init C hE hAO (As := [.int (2 : Int32)]) dX0_init_132 (KX6_init l M hE (c + 43) ⟨by omega, (sh_0_16 hc)⟩ _ (by rw [W0_hi (by omega)]; simp [va_up]) (2 : Int32) (by rw [(sh_0_17 hc)])) vi_RX0_70 ⟨rfl, (mem_g 304 (by decide +kernel) (by decide))⟩ rfl rfl ⟨rfl, rfl⟩ (by decide) (Nat.le_of_ble_eq_true rfl) ⟨by decide, by decide⟩ (by omega) (hE.at hsz (by omega)) ?_
  refine jc_n (n2 := c + 47) (by omega) ?_
  refine jc_congr (cg := W0 c cf 0 [.ref (adr M (c + 1)), .ref (adr M (c + 20)), .int (0 : Int32), .ref (adr M (c + 25)), .ref (adr M (c + 26)), .ref (adr M (c + 27)), .ref (adr M (c + 28)), .ref (adr M (c + 29)), .ref (adr M (c + 30)), .ref (adr M (c + 31)), .ref (adr M (c + 32)), .ref (adr M (c + 33)), .ref (adr M (c + 34)), .int (0 : Int32), .int (0 : Int32)] (va_up (celX M sg0) (c + 25) (.inl (M.2.1 17, 5, .inr (.inr (.inr (.inr (va_up (va_up (fun _ => none) 0 (some (adr M (c + 35)))) 1 (some (adr M (c + 39))))))))))) (up_c (by omega) (fun q h1 h2 => by rw [va_up_ne _ _ (by omega)])) ?_
  refine jc_aast C (a := c + 25) (o := c + 43) (k := 17) (kk := 6) (N := 5) (f := va_up (va_up (fun _ => none) 0 (some (adr M (c + 35)))) 1 (some (adr M (c + 39)))) (t0 := 5) dX0_init_135 (by omega) (by omega) (by omega) ((W0_hi (by omega)).trans (by simp [va_up])) ((W0_hi (by omega)).trans ((va_up_ne _ _ (by omega)).trans (celX_obj (sh_0_16 hc) (by decide)))) rfl rfl (by decide) ?_
  refine jc_congr (cg := W0 c cf 0 [.ref (adr M (c + 1)), .ref (adr M (c + 20)), .int (0 : Int32), .ref (adr M (c + 25)), .ref (adr M (c + 26)), .ref (adr M (c + 27)), .ref (adr M (c + 28)), .ref (adr M (c + 29)), .ref (adr M (c + 30)), .ref (adr M (c + 31)), .ref (adr M (c + 32)), .ref (adr M (c + 33)), .ref (adr M (c + 34)), .int (0 : Int32), .int (0 : Int32)] (va_up (celX M sg0) (c + 25) (.inl (M.2.1 17, 5, .inr (.inr (.inr (.inr (va_up (va_up (va_up (fun _ => none) 0 (some (adr M (c + 35)))) 1 (some (adr M (c + 39)))) 2 (some (adr M (c + 43))))))))))) (up_d (by omega) _) ?_
  refine jc_iinc C (v := (3 : Int32)) (Ls' := [(1, .int (3 : Int32)), (0, .ref (adr M c))]) dX0_init_136 0 rfl (by decide) (by decide) rfl ?_
  refine jc_goto C (tgt := 117) dX0_init_139 (by decide) ?_
  refine jc_iload_n C dX0_init_117 rfl ?_
  refine jc_iconst C (v := (5 : Int32)) dX0_init_118 (by decide) ?_
  refine jc_ge_f C (tgt := 142) dX0_init_119 (by decide) (by decide) ?_
  refine jc_aload_n C dX0_init_122 rfl ?_
  refine jc_get C (v := .ref (adr M (c + 25))) dX0_init_123 fl_RX0_31 (by omega) W0_self rfl ?_
  refine jc_iload_n C dX0_init_126 rfl ?_
  refine jc_new C hE dX0_init_127 nw_RX0_29 (by omega) (hE.at hsz (by omega)) ⟨by decide, by decide⟩ ?_
  refine jc_n (n2 := c + 48) (by omega) ?_
  refine jc_congr (cg := W0 c cf 0 [.ref (adr M (c + 1)), .ref (adr M (c + 20)), .int (0 : Int32), .ref (adr M (c + 25)), .ref (adr M (c + 26)), .ref (adr M (c + 27)), .ref (adr M (c + 28)), .ref (adr M (c + 29)), .ref (adr M (c + 30)), .ref (adr M (c + 31)), .ref (adr M (c + 32)), .ref (adr M (c + 33)), .ref (adr M (c + 34)), .int (0 : Int32), .int (0 : Int32)] (va_up (va_up (celX M sg0) (c + 25) (.inl (M.2.1 17, 5, .inr (.inr (.inr (.inr (va_up (va_up (va_up (fun _ => none) 0 (some (adr M (c + 35)))) 1 (some (adr M (c + 39)))) 2 (some (adr M (c + 43)))))))))) (c + 47) (.inr (6, [.int 0, .int 0, .int 0, .int 0, .int 0, .null, .null, .null])))) (up_b (by omega) _) ?_
  refine jc_dup C dX0_init_130 rfl ?_
  refine jc_iload_n C dX0_init_131 rfl ?_
  refine jc_init C hE hAO (As := [.int (3 : Int32)]) dX0_init_132 (KX6_init l M hE (c + 47) ⟨by omega, (sh_0_18 hc)⟩ _ (by rw [W0_hi (by omega)]; simp [va_up]) (3 : Int32) (by rw [(sh_0_19 hc)])) vi_RX0_70 ⟨rfl, (mem_g 304 (by decide +kernel) (by decide))⟩ rfl rfl ⟨rfl, rfl⟩ (by decide) (Nat.le_of_ble_eq_true rfl) ⟨by decide, by decide⟩ (by omega) (hE.at hsz (by omega)) ?_
  refine jc_n (n2 := c + 51) (by omega) ?_
  refine jc_congr (cg := W0 c cf 0 [.ref (adr M (c + 1)), .ref (adr M (c + 20)), .int (0 : Int32), .ref (adr M (c + 25)), .ref (adr M (c + 26)), .ref (adr M (c + 27)), .ref (adr M (c + 28)), .ref (adr M (c + 29)), .ref (adr M (c + 30)), .ref (adr M (c + 31)), .ref (adr M (c + 32)), .ref (adr M (c + 33)), .ref (adr M (c + 34)), .int (0 : Int32), .int (0 : Int32)] (va_up (celX M sg0) (c + 25) (.inl (M.2.1 17, 5, .inr (.inr (.inr (.inr (va_up (va_up (va_up (fun _ => none) 0 (some (adr M (c + 35)))) 1 (some (adr M (c + 39)))) 2 (some (adr M (c + 43))))))))))) (up_c (by omega) (fun q h1 h2 => by rw [va_up_ne _ _ (by omega)])) ?_
  refine jc_aast C (a := c + 25) (o := c + 47) (k := 17) (kk := 6) (N := 5) (f := va_up (va_up (va_up (fun _ => none) 0 (some (adr M (c + 35)))) 1 (some (adr M (c + 39)))) 2 (some (adr M (c + 43)))) (t0 := 5) dX0_init_135 (by omega) (by omega) (by omega) ((W0_hi (by omega)).trans (by simp [va_up])) ((W0_hi (by omega)).trans ((va_up_ne _ _ (by omega)).trans (celX_obj (sh_0_18 hc) (by decide)))) rfl rfl (by decide) ?_
  refine jc_congr (cg := W0 c cf 0 [.ref (adr M (c + 1)), .ref (adr M (c + 20)), .int (0 : Int32), .ref (adr M (c + 25)), .ref (adr M (c + 26)), .ref (adr M (c + 27)), .ref (adr M (c + 28)), .ref (adr M (c + 29)), .ref (adr M (c + 30)), .ref (adr M (c + 31)), .ref (adr M (c + 32)), .ref (adr M (c + 33)), .ref (adr M (c + 34)), .int (0 : Int32), .int (0 : Int32)] (va_up (celX M sg0) (c + 25) (.inl (M.2.1 17, 5, .inr (.inr (.inr (.inr (va_up (va_up (va_up (va_up (fun _ => none) 0 (some (adr M (c + 35)))) 1 (some (adr M (c + 39)))) 2 (some (adr M (c + 43)))) 3 (some (adr M (c + 47))))))))))) (up_d (by omega) _) ?_
  refine jc_iinc C (v := (4 : Int32)) (Ls' := [(1, .int (4 : Int32)), (0, .ref (adr M c))]) dX0_init_136 0 rfl (by decide) (by decide) rfl ?_
  refine jc_goto C (tgt := 117) dX0_init_139 (by decide) ?_
  refine jc_iload_n C dX0_init_117 rfl ?_
  refine jc_iconst C (v := (5 : Int32)) dX0_init_118 (by decide) ?_
  refine jc_ge_f C (tgt := 142) dX0_init_119 (by decide) (by decide) ?_
  refine jc_aload_n C dX0_init_122 rfl ?_
  refine jc_get C (v := .ref (adr M (c + 25))) dX0_init_123 fl_RX0_31 (by omega) W0_self rfl ?_
  refine jc_iload_n C dX0_init_126 rfl ?_
  refine jc_new C hE dX0_init_127 nw_RX0_29 (by omega) (hE.at hsz (by omega)) ⟨by decide, by decide⟩ ?_
  refine jc_n (n2 := c + 52) (by omega) ?_
  refine jc_congr (cg := W0 c cf 0 [.ref (adr M (c + 1)), .ref (adr M (c + 20)), .int (0 : Int32), .ref (adr M (c + 25)), .ref (adr M (c + 26)), .ref (adr M (c + 27)), .ref (adr M (c + 28)), .ref (adr M (c + 29)), .ref (adr M (c + 30)), .ref (adr M (c + 31)), .ref (adr M (c + 32)), .ref (adr M (c + 33)), .ref (adr M (c + 34)), .int (0 : Int32), .int (0 : Int32)] (va_up (va_up (celX M sg0) (c + 25) (.inl (M.2.1 17, 5, .inr (.inr (.inr (.inr (va_up (va_up (va_up (va_up (fun _ => none) 0 (some (adr M (c + 35)))) 1 (some (adr M (c + 39)))) 2 (some (adr M (c + 43)))) 3 (some (adr M (c + 47)))))))))) (c + 51) (.inr (6, [.int 0, .int 0, .int 0, .int 0, .int 0, .null, .null, .null])))) (up_b (by omega) _) ?_
  refine jc_dup C dX0_init_130 rfl ?_
  refine jc_iload_n C dX0_init_131 rfl ?_
  refine jc_init C hE hAO (As := [.int (4 : Int32)]) dX0_init_132 (KX6_init l M hE (c + 51) ⟨by omega, (sh_0_20 hc)⟩ _ (by rw [W0_hi (by omega)]; simp [va_up]) (4 : Int32) (by rw [(sh_0_21 hc)])) vi_RX0_70 ⟨rfl, (mem_g 304 (by decide +kernel) (by decide))⟩ rfl rfl ⟨rfl, rfl⟩ (by decide) (Nat.le_of_ble_eq_true rfl) ⟨by decide, by decide⟩ (by omega) (hE.at hsz (by omega)) ?_
  refine jc_n (n2 := c + 55) (by omega) ?_
  refine jc_congr (cg := W0 c cf 0 [.ref (adr M (c + 1)), .ref (adr M (c + 20)), .int (0 : Int32), .ref (adr M (c + 25)), .ref (adr M (c + 26)), .ref (adr M (c + 27)), .ref (adr M (c + 28)), .ref (adr M (c + 29)), .ref (adr M (c + 30)), .ref (adr M (c + 31)), .ref (adr M (c + 32)), .ref (adr M (c + 33)), .ref (adr M (c + 34)), .int (0 : Int32), .int (0 : Int32)] (va_up (celX M sg0) (c + 25) (.inl (M.2.1 17, 5, .inr (.inr (.inr (.inr (va_up (va_up (va_up (va_up (fun _ => none) 0 (some (adr M (c + 35)))) 1 (some (adr M (c + 39)))) 2 (some (adr M (c + 43)))) 3 (some (adr M (c + 47))))))))))) (up_c (by omega) (fun q h1 h2 => by rw [va_up_ne _ _ (by omega)])) ?_
  refine jc_aast C (a := c + 25) (o := c + 51) (k := 17) (kk := 6) (N := 5) (f := va_up (va_up (va_up (va_up (fun _ => none) 0 (some (adr M (c + 35)))) 1 (some (adr M (c + 39)))) 2 (some (adr M (c + 43)))) 3 (some (adr M (c + 47)))) (t0 := 5) dX0_init_135 (by omega) (by omega) (by omega) ((W0_hi (by omega)).trans (by simp [va_up])) ((W0_hi (by omega)).trans ((va_up_ne _ _ (by omega)).trans (celX_obj (sh_0_20 hc) (by decide)))) rfl rfl (by decide) ?_
  refine jc_congr (cg := W0 c cf 0 [.ref (adr M (c + 1)), .ref (adr M (c + 20)), .int (0 : Int32), .ref (adr M (c + 25)), .ref (adr M (c + 26)), .ref (adr M (c + 27)), .ref (adr M (c + 28)), .ref (adr M (c + 29)), .ref (adr M (c + 30)), .ref (adr M (c + 31)), .ref (adr M (c + 32)), .ref (adr M (c + 33)), .ref (adr M (c + 34)), .int (0 : Int32), .int (0 : Int32)] (va_up (celX M sg0) (c + 25) (.inl (M.2.1 17, 5, .inr (.inr (.inr (.inr (va_up (va_up (va_up (va_up (va_up (fun _ => none) 0 (some (adr M (c + 35)))) 1 (some (adr M (c + 39)))) 2 (some (adr M (c + 43)))) 3 (some (adr M (c + 47)))) 4 (some (adr M (c + 51))))))))))) (up_d (by omega) _) ?_
  refine jc_iinc C (v := (5 : Int32)) (Ls' := [(1, .int (5 : Int32)), (0, .ref (adr M c))]) dX0_init_136 0 rfl (by decide) (by decide) rfl ?_
  refine jc_goto C (tgt := 117) dX0_init_139 (by decide) ?_
  refine jc_iload_n C dX0_init_117 rfl ?_
  refine jc_iconst C (v := (5 : Int32)) dX0_init_118 (by decide) ?_
  refine jc_ge_t C (tgt := 142) dX0_init_119 (by decide) (by decide) ?_
  exact jc_vret C hE dX0_init_142 (fin0 hself (fun q _ _ => ov_ok hov q)) (by omega) (hE.at hsz (by omega))
