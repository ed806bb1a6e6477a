theorem ff_11_0 : FSF RX11 11 0 (tyX11 0) := ⟨RX11, TX11, 41, tyX11, rfl, tyX11_ok, nmX11, rfl, by decide +kernel, rfl⟩
theorem ff_11_1 : FSF RX11 11 1 (tyX11 1) := ⟨RX11, TX11, 41, tyX11, rfl, tyX11_ok, nmX11, rfl, by decide +kernel, rfl⟩
theorem ff_11_5 : FSF RX11 11 5 (tyX11 5) := ⟨RX11, TX11, 41, tyX11, rfl, tyX11_ok, nmX11, rfl, by decide +kernel, rfl⟩
theorem ff_11_6 : FSF RX11 11 6 (tyX11 6) := ⟨RX11, TX11, 41, tyX11, rfl, tyX11_ok, nmX11, rfl, by decide +kernel, rfl⟩
theorem ff_11_7 : FSF RX11 11 7 (tyX11 7) := ⟨RX11, TX11, 41, tyX11, rfl, tyX11_ok, nmX11, rfl, by decide +kernel, rfl⟩
theorem ff_11_8 : FSF RX11 11 8 (tyX11 8) := ⟨RX11, TX11, 41, tyX11, rfl, tyX11_ok, nmX11, rfl, by decide +kernel, rfl⟩
theorem ff_11_10 : FSF RX11 11 10 (tyX11 10) := ⟨RX11, TX11, 41, tyX11, rfl, tyX11_ok, nmX11, rfl, by decide +kernel, rfl⟩
theorem ff_11_11 : FSF RX11 11 11 (tyX11 11) := ⟨RX11, TX11, 41, tyX11, rfl, tyX11_ok, nmX11, rfl, by decide +kernel, rfl⟩
theorem ff_11_12 : FSF RX11 11 12 (tyX11 12) := ⟨RX11, TX11, 41, tyX11, rfl, tyX11_ok, nmX11, rfl, by decide +kernel, rfl⟩
theorem ff_11_13 : FSF RX11 11 13 (tyX11 13) := ⟨RX11, TX11, 41, tyX11, rfl, tyX11_ok, nmX11, rfl, by decide +kernel, rfl⟩
theorem ff_11_14 : FSF RX11 11 14 (tyX11 14) := ⟨RX11, TX11, 41, tyX11, rfl, tyX11_ok, nmX11, rfl, by decide +kernel, rfl⟩
theorem ff_11_15 : FSF RX11 11 15 (tyX11 15) := ⟨RX11, TX11, 41, tyX11, rfl, tyX11_ok, nmX11, rfl, by decide +kernel, rfl⟩
theorem ff_11_16 : FSF RX11 11 16 (tyX11 16) := ⟨RX11, TX11, 41, tyX11, rfl, tyX11_ok, nmX11, rfl, by decide +kernel, rfl⟩
theorem ff_11_17 : FSF RX11 11 17 (tyX11 17) := ⟨RX11, TX11, 41, tyX11, rfl, tyX11_ok, nmX11, rfl, by decide +kernel, rfl⟩
theorem ff_11_18 : FSF RX11 11 18 (tyX11 18) := ⟨RX11, TX11, 41, tyX11, rfl, tyX11_ok, nmX11, rfl, by decide +kernel, rfl⟩
theorem ff_11_19 : FSF RX11 11 19 (tyX11 19) := ⟨RX11, TX11, 41, tyX11, rfl, tyX11_ok, nmX11, rfl, by decide +kernel, rfl⟩
theorem ff_11_20 : FSF RX11 11 20 (tyX11 20) := ⟨RX11, TX11, 41, tyX11, rfl, tyX11_ok, nmX11, rfl, by decide +kernel, rfl⟩
theorem ff_11_21 : FSF RX11 11 21 (tyX11 21) := ⟨RX11, TX11, 41, tyX11, rfl, tyX11_ok, nmX11, rfl, by decide +kernel, rfl⟩
theorem ff_11_22 : FSF RX11 11 22 (tyX11 22) := ⟨RX11, TX11, 41, tyX11, rfl, tyX11_ok, nmX11, rfl, by decide +kernel, rfl⟩
theorem ff_11_23 : FSF RX11 11 23 (tyX11 23) := ⟨RX11, TX11, 41, tyX11, rfl, tyX11_ok, nmX11, rfl, by decide +kernel, rfl⟩
theorem ff_11_24 : FSF RX11 11 24 (tyX11 24) := ⟨RX11, TX11, 41, tyX11, rfl, tyX11_ok, nmX11, rfl, by decide +kernel, rfl⟩
theorem ff_11_35 : FSF RX11 11 35 (tyX11 35) := ⟨RX11, TX11, 41, tyX11, rfl, tyX11_ok, nmX11, rfl, by decide +kernel, rfl⟩
theorem ff_11_36 : FSF RX11 11 36 (tyX11 36) := ⟨RX11, TX11, 41, tyX11, rfl, tyX11_ok, nmX11, rfl, by decide +kernel, rfl⟩
theorem ff_11_37 : FSF RX11 11 37 (tyX11 37) := ⟨RX11, TX11, 41, tyX11, rfl, tyX11_ok, nmX11, rfl, by decide +kernel, rfl⟩
theorem ff_11_38 : FSF RX11 11 38 (tyX11 38) := ⟨RX11, TX11, 41, tyX11, rfl, tyX11_ok, nmX11, rfl, by decide +kernel, rfl⟩
theorem shb_11_0 : ((List.range NC).all fun c => decide (kd c = 11 → (c + 26 ≤ NC ∧ (kd (c + 1) = 13 ∧ ln (c + 1) = 174 ∧ frT.getD (c + 1) 0 = 2) ∧ (kd (c + 2) = 13 ∧ ln (c + 2) = 2784 ∧ frT.getD (c + 2) 0 = 0) ∧ (kd (c + 3) = 13 ∧ ln (c + 3) = 4 ∧ frT.getD (c + 3) 0 = 0) ∧ (kd (c + 4) = 13 ∧ ln (c + 4) = 4 ∧ frT.getD (c + 4) 0 = 0) ∧ (kd (c + 5) = 13 ∧ ln (c + 5) = 240 ∧ frT.getD (c + 5) 0 = 0) ∧ (kd (c + 6) = 13 ∧ ln (c + 6) = 60 ∧ frT.getD (c + 6) 0 = 0) ∧ (kd (c + 7) = 15 ∧ ln (c + 7) = 12 ∧ frT.getD (c + 7) 0 = 0) ∧ (kd (c + 8) = 13 ∧ ln (c + 8) = 5 ∧ frT.getD (c + 8) 0 = 0) ∧ (kd (c + 9) = 13 ∧ ln (c + 9) = 5 ∧ frT.getD (c + 9) 0 = 0) ∧ (kd (c + 10) = 13 ∧ ln (c + 10) = 5 ∧ frT.getD (c + 10) 0 = 0) ∧ (kd (c + 11) = 13 ∧ ln (c + 11) = 5 ∧ frT.getD (c + 11) 0 = 0)))) = true := by decide +kernel
theorem shc_11_0 {c : Nat} (h : isK c 11) : c + 26 ≤ NC ∧ (kd (c + 1) = 13 ∧ ln (c + 1) = 174 ∧ frT.getD (c + 1) 0 = 2) ∧ (kd (c + 2) = 13 ∧ ln (c + 2) = 2784 ∧ frT.getD (c + 2) 0 = 0) ∧ (kd (c + 3) = 13 ∧ ln (c + 3) = 4 ∧ frT.getD (c + 3) 0 = 0) ∧ (kd (c + 4) = 13 ∧ ln (c + 4) = 4 ∧ frT.getD (c + 4) 0 = 0) ∧ (kd (c + 5) = 13 ∧ ln (c + 5) = 240 ∧ frT.getD (c + 5) 0 = 0) ∧ (kd (c + 6) = 13 ∧ ln (c + 6) = 60 ∧ frT.getD (c + 6) 0 = 0) ∧ (kd (c + 7) = 15 ∧ ln (c + 7) = 12 ∧ frT.getD (c + 7) 0 = 0) ∧ (kd (c + 8) = 13 ∧ ln (c + 8) = 5 ∧ frT.getD (c + 8) 0 = 0) ∧ (kd (c + 9) = 13 ∧ ln (c + 9) = 5 ∧ frT.getD (c + 9) 0 = 0) ∧ (kd (c + 10) = 13 ∧ ln (c + 10) = 5 ∧ frT.getD (c + 10) 0 = 0) ∧ (kd (c + 11) = 13 ∧ ln (c + 11) = 5 ∧ frT.getD (c + 11) 0 = 0) := of_decide_eq_true (List.all_eq_true.mp shb_11_0 c (List.mem_range.mpr h.1)) h.2
theorem shb_11_12 : ((List.range NC).all fun c => decide (kd c = 11 → ((kd (c + 12) = 13 ∧ ln (c + 12) = 5 ∧ frT.getD (c + 12) 0 = 0) ∧ (kd (c + 13) = 13 ∧ ln (c + 13) = 35 ∧ frT.getD (c + 13) 0 = 0) ∧ (kd (c + 14) = 13 ∧ ln (c + 14) = 35 ∧ frT.getD (c + 14) 0 = 0) ∧ (kd (c + 15) = 13 ∧ ln (c + 15) = 14 ∧ frT.getD (c + 15) 0 = 0) ∧ (kd (c + 16) = 13 ∧ ln (c + 16) = 2505 ∧ frT.getD (c + 16) 0 = 0) ∧ (kd (c + 17) = 13 ∧ ln (c + 17) = 2505 ∧ frT.getD (c + 17) 0 = 0) ∧ (kd (c + 18) = 15 ∧ ln (c + 18) = 5 ∧ frT.getD (c + 18) 0 = 0) ∧ (kd (c + 19) = 15 ∧ ln (c + 19) = 35 ∧ frT.getD (c + 19) 0 = 0) ∧ (kd (c + 20) = 15 ∧ ln (c + 20) = 35 ∧ frT.getD (c + 20) 0 = 0) ∧ (kd (c + 21) = 15 ∧ ln (c + 21) = 25 ∧ frT.getD (c + 21) 0 = 0) ∧ (kd (c + 22) = 13 ∧ ln (c + 22) = 42 ∧ frT.getD (c + 22) 0 = 0) ∧ (kd (c + 23) = 13 ∧ ln (c + 23) = 42 ∧ frT.getD (c + 23) 0 = 0)))) = true := by decide +kernel
theorem shc_11_12 {c : Nat} (h : isK c 11) : (kd (c + 12) = 13 ∧ ln (c + 12) = 5 ∧ frT.getD (c + 12) 0 = 0) ∧ (kd (c + 13) = 13 ∧ ln (c + 13) = 35 ∧ frT.getD (c + 13) 0 = 0) ∧ (kd (c + 14) = 13 ∧ ln (c + 14) = 35 ∧ frT.getD (c + 14) 0 = 0) ∧ (kd (c + 15) = 13 ∧ ln (c + 15) = 14 ∧ frT.getD (c + 15) 0 = 0) ∧ (kd (c + 16) = 13 ∧ ln (c + 16) = 2505 ∧ frT.getD (c + 16) 0 = 0) ∧ (kd (c + 17) = 13 ∧ ln (c + 17) = 2505 ∧ frT.getD (c + 17) 0 = 0) ∧ (kd (c + 18) = 15 ∧ ln (c + 18) = 5 ∧ frT.getD (c + 18) 0 = 0) ∧ (kd (c + 19) = 15 ∧ ln (c + 19) = 35 ∧ frT.getD (c + 19) 0 = 0) ∧ (kd (c + 20) = 15 ∧ ln (c + 20) = 35 ∧ frT.getD (c + 20) 0 = 0) ∧ (kd (c + 21) = 15 ∧ ln (c + 21) = 25 ∧ frT.getD (c + 21) 0 = 0) ∧ (kd (c + 22) = 13 ∧ ln (c + 22) = 42 ∧ frT.getD (c + 22) 0 = 0) ∧ (kd (c + 23) = 13 ∧ ln (c + 23) = 42 ∧ frT.getD (c + 23) 0 = 0) := of_decide_eq_true (List.all_eq_true.mp shb_11_12 c (List.mem_range.mpr h.1)) h.2
theorem shb_11_24 : ((List.range NC).all fun c => decide (kd c = 11 → ((kd (c + 24) = 13 ∧ ln (c + 24) = 42 ∧ frT.getD (c + 24) 0 = 0) ∧ (kd (c + 25) = 13 ∧ ln (c + 25) = 42 ∧ frT.getD (c + 25) 0 = 0) ∧ rf c 0 = c + 1 ∧ rf c 1 = c + 2 ∧ rf c 5 = c + 3 ∧ rf c 6 = c + 4 ∧ rf c 7 = c + 5 ∧ rf c 8 = c + 6 ∧ rf c 10 = c + 7 ∧ rf c 11 = c + 8 ∧ rf c 12 = c + 9 ∧ rf c 13 = c + 10))) = true := by decide +kernel
theorem shc_11_24 {c : Nat} (h : isK c 11) : (kd (c + 24) = 13 ∧ ln (c + 24) = 42 ∧ frT.getD (c + 24) 0 = 0) ∧ (kd (c + 25) = 13 ∧ ln (c + 25) = 42 ∧ frT.getD (c + 25) 0 = 0) ∧ rf c 0 = c + 1 ∧ rf c 1 = c + 2 ∧ rf c 5 = c + 3 ∧ rf c 6 = c + 4 ∧ rf c 7 = c + 5 ∧ rf c 8 = c + 6 ∧ rf c 10 = c + 7 ∧ rf c 11 = c + 8 ∧ rf c 12 = c + 9 ∧ rf c 13 = c + 10 := of_decide_eq_true (List.all_eq_true.mp shb_11_24 c (List.mem_range.mpr h.1)) h.2
theorem shb_11_36 : ((List.range NC).all fun c => decide (kd c = 11 → (rf c 14 = c + 11 ∧ rf c 15 = c + 12 ∧ rf c 16 = c + 13 ∧ rf c 17 = c + 14 ∧ rf c 18 = c + 15 ∧ rf c 19 = c + 16 ∧ rf c 20 = c + 17 ∧ rf c 21 = c + 18 ∧ rf c 22 = c + 19 ∧ rf c 23 = c + 20 ∧ rf c 24 = c + 21 ∧ rf c 35 = c + 22))) = true := by decide +kernel
theorem shc_11_36 {c : Nat} (h : isK c 11) : rf c 14 = c + 11 ∧ rf c 15 = c + 12 ∧ rf c 16 = c + 13 ∧ rf c 17 = c + 14 ∧ rf c 18 = c + 15 ∧ rf c 19 = c + 16 ∧ rf c 20 = c + 17 ∧ rf c 21 = c + 18 ∧ rf c 22 = c + 19 ∧ rf c 23 = c + 20 ∧ rf c 24 = c + 21 ∧ rf c 35 = c + 22 := of_decide_eq_true (List.all_eq_true.mp shb_11_36 c (List.mem_range.mpr h.1)) h.2
theorem shb_11_48 : ((List.range NC).all fun c => decide (kd c = 11 → (rf c 36 = c + 23 ∧ rf c 37 = c + 24 ∧ rf c 38 = c + 25 ∧ obT.getD c [] = [0, 0, 0, 0, 0, 0, 0, 0, 0, 0, 0, 0, 0, 0, 0, 0, 0, 0, 0, 0, 0, 0, 0, 0, 0, 0, 0, 0, 0, 0, 0, 0, 0, 0, 0, 0, 0, 0, 0, 0, 0]))) = true := by decide +kernel
theorem shc_11_48 {c : Nat} (h : isK c 11) : rf c 36 = c + 23 ∧ rf c 37 = c + 24 ∧ rf c 38 = c + 25 ∧ obT.getD c [] = [0, 0, 0, 0, 0, 0, 0, 0, 0, 0, 0, 0, 0, 0, 0, 0, 0, 0, 0, 0, 0, 0, 0, 0, 0, 0, 0, 0, 0, 0, 0, 0, 0, 0, 0, 0, 0, 0, 0, 0, 0] := of_decide_eq_true (List.all_eq_true.mp shb_11_48 c (List.mem_range.mpr h.1)) h.2
theorem sh_11_0 {c : Nat} (h : isK c 11) : c + 26 ≤ NC := (shc_11_0 h).1
theorem sh_11_1 {c : Nat} (h : isK c 11) : (kd (c + 1) = 13 ∧ ln (c + 1) = 174 ∧ frT.getD (c + 1) 0 = 2) := (shc_11_0 h).2.1
theorem sh_11_2 {c : Nat} (h : isK c 11) : (kd (c + 2) = 13 ∧ ln (c + 2) = 2784 ∧ frT.getD (c + 2) 0 = 0) := (shc_11_0 h).2.2.1
theorem sh_11_3 {c : Nat} (h : isK c 11) : (kd (c + 3) = 13 ∧ ln (c + 3) = 4 ∧ frT.getD (c + 3) 0 = 0) := (shc_11_0 h).2.2.2.1
theorem sh_11_4 {c : Nat} (h : isK c 11) : (kd (c + 4) = 13 ∧ ln (c + 4) = 4 ∧ frT.getD (c + 4) 0 = 0) := (shc_11_0 h).2.2.2.2.1
theorem sh_11_5 {c : Nat} (h : isK c 11) : (kd (c + 5) = 13 ∧ ln (c + 5) = 240 ∧ frT.getD (c + 5) 0 = 0) := (shc_11_0 h).2.2.2.2.2.1
theorem sh_11_6 {c : Nat} (h : isK c 11) : (kd (c + 6) = 13 ∧ ln (c + 6) = 60 ∧ frT.getD (c + 6) 0 = 0) := (shc_11_0 h).2.2.2.2.2.2.1
theorem sh_11_7 {c : Nat} (h : isK c 11) : (kd (c + 7) = 15 ∧ ln (c + 7) = 12 ∧ frT.getD (c + 7) 0 = 0) := (shc_11_0 h).2.2.2.2.2.2.2.1
theorem sh_11_8 {c : Nat} (h : isK c 11) : (kd (c + 8) = 13 ∧ ln (c + 8) = 5 ∧ frT.getD (c + 8) 0 = 0) := (shc_11_0 h).2.2.2.2.2.2.2.2.1
theorem sh_11_9 {c : Nat} (h : isK c 11) : (kd (c + 9) = 13 ∧ ln (c + 9) = 5 ∧ frT.getD (c + 9) 0 = 0) := (shc_11_0 h).2.2.2.2.2.2.2.2.2.1
theorem sh_11_10 {c : Nat} (h : isK c 11) : (kd (c + 10) = 13 ∧ ln (c + 10) = 5 ∧ frT.getD (c + 10) 0 = 0) := (shc_11_0 h).2.2.2.2.2.2.2.2.2.2.1
theorem sh_11_11 {c : Nat} (h : isK c 11) : (kd (c + 11) = 13 ∧ ln (c + 11) = 5 ∧ frT.getD (c + 11) 0 = 0) := (shc_11_0 h).2.2.2.2.2.2.2.2.2.2.2
theorem sh_11_12 {c : Nat} (h : isK c 11) : (kd (c + 12) = 13 ∧ ln (c + 12) = 5 ∧ frT.getD (c + 12) 0 = 0) := (shc_11_12 h).1
theorem sh_11_13 {c : Nat} (h : isK c 11) : (kd (c + 13) = 13 ∧ ln (c + 13) = 35 ∧ frT.getD (c + 13) 0 = 0) := (shc_11_12 h).2.1
theorem sh_11_14 {c : Nat} (h : isK c 11) : (kd (c + 14) = 13 ∧ ln (c + 14) = 35 ∧ frT.getD (c + 14) 0 = 0) := (shc_11_12 h).2.2.1
theorem sh_11_15 {c : Nat} (h : isK c 11) : (kd (c + 15) = 13 ∧ ln (c + 15) = 14 ∧ frT.getD (c + 15) 0 = 0) := (shc_11_12 h).2.2.2.1
theorem sh_11_16 {c : Nat} (h : isK c 11) : (kd (c + 16) = 13 ∧ ln (c + 16) = 2505 ∧ frT.getD (c + 16) 0 = 0) := (shc_11_12 h).2.2.2.2.1
theorem sh_11_17 {c : Nat} (h : isK c 11) : (kd (c + 17) = 13 ∧ ln (c + 17) = 2505 ∧ frT.getD (c + 17) 0 = 0) := (shc_11_12 h).2.2.2.2.2.1
theorem sh_11_18 {c : Nat} (h : isK c 11) : (kd (c + 18) = 15 ∧ ln (c + 18) = 5 ∧ frT.getD (c + 18) 0 = 0) := (shc_11_12 h).2.2.2.2.2.2.1
theorem sh_11_19 {c : Nat} (h : isK c 11) : (kd (c + 19) = 15 ∧ ln (c + 19) = 35 ∧ frT.getD (c + 19) 0 = 0) := (shc_11_12 h).2.2.2.2.2.2.2.1
theorem sh_11_20 {c : Nat} (h : isK c 11) : (kd (c + 20) = 15 ∧ ln (c + 20) = 35 ∧ frT.getD (c + 20) 0 = 0) := (shc_11_12 h).2.2.2.2.2.2.2.2.1
theorem sh_11_21 {c : Nat} (h : isK c 11) : (kd (c + 21) = 15 ∧ ln (c + 21) = 25 ∧ frT.getD (c + 21) 0 = 0) := (shc_11_12 h).2.2.2.2.2.2.2.2.2.1
theorem sh_11_22 {c : Nat} (h : isK c 11) : (kd (c + 22) = 13 ∧ ln (c + 22) = 42 ∧ frT.getD (c + 22) 0 = 0) := (shc_11_12 h).2.2.2.2.2.2.2.2.2.2.1
theorem sh_11_23 {c : Nat} (h : isK c 11) : (kd (c + 23) = 13 ∧ ln (c + 23) = 42 ∧ frT.getD (c + 23) 0 = 0) := (shc_11_12 h).2.2.2.2.2.2.2.2.2.2.2
theorem sh_11_24 {c : Nat} (h : isK c 11) : (kd (c + 24) = 13 ∧ ln (c + 24) = 42 ∧ frT.getD (c + 24) 0 = 0) := (shc_11_24 h).1
theorem sh_11_25 {c : Nat} (h : isK c 11) : (kd (c + 25) = 13 ∧ ln (c + 25) = 42 ∧ frT.getD (c + 25) 0 = 0) := (shc_11_24 h).2.1
theorem sh_11_26 {c : Nat} (h : isK c 11) : rf c 0 = c + 1 := (shc_11_24 h).2.2.1
theorem sh_11_27 {c : Nat} (h : isK c 11) : rf c 1 = c + 2 := (shc_11_24 h).2.2.2.1
theorem sh_11_28 {c : Nat} (h : isK c 11) : rf c 5 = c + 3 := (shc_11_24 h).2.2.2.2.1
theorem sh_11_29 {c : Nat} (h : isK c 11) : rf c 6 = c + 4 := (shc_11_24 h).2.2.2.2.2.1
theorem sh_11_30 {c : Nat} (h : isK c 11) : rf c 7 = c + 5 := (shc_11_24 h).2.2.2.2.2.2.1
theorem sh_11_31 {c : Nat} (h : isK c 11) : rf c 8 = c + 6 := (shc_11_24 h).2.2.2.2.2.2.2.1
theorem sh_11_32 {c : Nat} (h : isK c 11) : rf c 10 = c + 7 := (shc_11_24 h).2.2.2.2.2.2.2.2.1
theorem sh_11_33 {c : Nat} (h : isK c 11) : rf c 11 = c + 8 := (shc_11_24 h).2.2.2.2.2.2.2.2.2.1
theorem sh_11_34 {c : Nat} (h : isK c 11) : rf c 12 = c + 9 := (shc_11_24 h).2.2.2.2.2.2.2.2.2.2.1
theorem sh_11_35 {c : Nat} (h : isK c 11) : rf c 13 = c + 10 := (shc_11_24 h).2.2.2.2.2.2.2.2.2.2.2
theorem sh_11_36 {c : Nat} (h : isK c 11) : rf c 14 = c + 11 := (shc_11_36 h).1
theorem sh_11_37 {c : Nat} (h : isK c 11) : rf c 15 = c + 12 := (shc_11_36 h).2.1
theorem sh_11_38 {c : Nat} (h : isK c 11) : rf c 16 = c + 13 := (shc_11_36 h).2.2.1
theorem sh_11_39 {c : Nat} (h : isK c 11) : rf c 17 = c + 14 := (shc_11_36 h).2.2.2.1
theorem sh_11_40 {c : Nat} (h : isK c 11) : rf c 18 = c + 15 := (shc_11_36 h).2.2.2.2.1
theorem sh_11_41 {c : Nat} (h : isK c 11) : rf c 19 = c + 16 := (shc_11_36 h).2.2.2.2.2.1
theorem sh_11_42 {c : Nat} (h : isK c 11) : rf c 20 = c + 17 := (shc_11_36 h).2.2.2.2.2.2.1
theorem sh_11_43 {c : Nat} (h : isK c 11) : rf c 21 = c + 18 := (shc_11_36 h).2.2.2.2.2.2.2.1
theorem sh_11_44 {c : Nat} (h : isK c 11) : rf c 22 = c + 19 := (shc_11_36 h).2.2.2.2.2.2.2.2.1
theorem sh_11_45 {c : Nat} (h : isK c 11) : rf c 23 = c + 20 := (shc_11_36 h).2.2.2.2.2.2.2.2.2.1
theorem sh_11_46 {c : Nat} (h : isK c 11) : rf c 24 = c + 21 := (shc_11_36 h).2.2.2.2.2.2.2.2.2.2.1
theorem sh_11_47 {c : Nat} (h : isK c 11) : rf c 35 = c + 22 := (shc_11_36 h).2.2.2.2.2.2.2.2.2.2.2
theorem sh_11_48 {c : Nat} (h : isK c 11) : rf c 36 = c + 23 := (shc_11_48 h).1
theorem sh_11_49 {c : Nat} (h : isK c 11) : rf c 37 = c + 24 := (shc_11_48 h).2.1
theorem sh_11_50 {c : Nat} (h : isK c 11) : rf c 38 = c + 25 := (shc_11_48 h).2.2.1
theorem sh_11_51 {c : Nat} (h : isK c 11) : obT.getD c [] = [0, 0, 0, 0, 0, 0, 0, 0, 0, 0, 0, 0, 0, 0, 0, 0, 0, 0, 0, 0, 0, 0, 0, 0, 0, 0, 0, 0, 0, 0, 0, 0, 0, 0, 0, 0, 0, 0, 0, 0, 0] := (shc_11_48 h).2.2.2
set_option maxRecDepth 100000 in
set_option maxHeartbeats 40000000 in
theorem KX11_init (l : Launch) (M : Mc) (hE : Ex M) (c : Nat) (hc : isK c 11) (cf : Nat → va_E) (hz : cf c = .inr (11, [.null, .null, .int 0, .int 0, .int 0, .null, .null, .null, .null, .int 0, .null, .null, .null, .null, .null, .null, .null, .null, .null, .null, .null, .null, .null, .null, .null, .int 0, .int 0, .int 0, .int 0, .int 0, .int 0, .int 0, .int 0, .int 0, .int 0, .null, .null, .null, .null, .int 0, .int 0])) : CtC l M yX11_init cX11_init 2 { frames := 1, cells := 25, slots := 8665, locals := 30 } 25 8665 [.ref (adr M c)] (c + 1) cf (c + 26) (mix M c cf) := by
  have hh0 := sh_11_0 hc
  have hi2 : sg0 c 2 = (0 : Int32) := by rw [sg0_obj hc.2 (by decide) (sh_11_51 hc)]; rfl
  have hi3 : sg0 c 3 = (0 : Int32) := by rw [sg0_obj hc.2 (by decide) (sh_11_51 hc)]; rfl
  have hi4 : sg0 c 4 = (0 : Int32) := by rw [sg0_obj hc.2 (by decide) (sh_11_51 hc)]; rfl
  have hi9 : sg0 c 9 = (0 : Int32) := by rw [sg0_obj hc.2 (by decide) (sh_11_51 hc)]; rfl
  have hi25 : sg0 c 25 = (0 : Int32) := by rw [sg0_obj hc.2 (by decide) (sh_11_51 hc)]; rfl
  have hi26 : sg0 c 26 = (0 : Int32) := by rw [sg0_obj hc.2 (by decide) (sh_11_51 hc)]; rfl
  have hi27 : sg0 c 27 = (0 : Int32) := by rw [sg0_obj hc.2 (by decide) (sh_11_51 hc)]; rfl
  have hi28 : sg0 c 28 = (0 : Int32) := by rw [sg0_obj hc.2 (by decide) (sh_11_51 hc)]; rfl
  have hi29 : sg0 c 29 = (0 : Int32) := by rw [sg0_obj hc.2 (by decide) (sh_11_51 hc)]; rfl
  have hi30 : sg0 c 30 = (0 : Int32) := by rw [sg0_obj hc.2 (by decide) (sh_11_51 hc)]; rfl
  have hi31 : sg0 c 31 = (0 : Int32) := by rw [sg0_obj hc.2 (by decide) (sh_11_51 hc)]; rfl
  have hi32 : sg0 c 32 = (0 : Int32) := by rw [sg0_obj hc.2 (by decide) (sh_11_51 hc)]; rfl
  have hi33 : sg0 c 33 = (0 : Int32) := by rw [sg0_obj hc.2 (by decide) (sh_11_51 hc)]; rfl
  have hi34 : sg0 c 34 = (0 : Int32) := by rw [sg0_obj hc.2 (by decide) (sh_11_51 hc)]; rfl
  have hi39 : sg0 c 39 = (0 : Int32) := by rw [sg0_obj hc.2 (by decide) (sh_11_51 hc)]; rfl
  have hi40 : sg0 c 40 = (0 : Int32) := by rw [sg0_obj hc.2 (by decide) (sh_11_51 hc)]; rfl
  have hself : celX M sg0 c = .inr (11, [.ref (adr M (c + 1)), .ref (adr M (c + 2)), .int 0, .int 0, .int 0, .ref (adr M (c + 3)), .ref (adr M (c + 4)), .ref (adr M (c + 5)), .ref (adr M (c + 6)), .int 0, .ref (adr M (c + 7)), .ref (adr M (c + 8)), .ref (adr M (c + 9)), .ref (adr M (c + 10)), .ref (adr M (c + 11)), .ref (adr M (c + 12)), .ref (adr M (c + 13)), .ref (adr M (c + 14)), .ref (adr M (c + 15)), .ref (adr M (c + 16)), .ref (adr M (c + 17)), .ref (adr M (c + 18)), .ref (adr M (c + 19)), .ref (adr M (c + 20)), .ref (adr M (c + 21)), .int 0, .int 0, .int 0, .int 0, .int 0, .int 0, .int 0, .int 0, .int 0, .int 0, .ref (adr M (c + 22)), .ref (adr M (c + 23)), .ref (adr M (c + 24)), .ref (adr M (c + 25)), .int 0, .int 0]) := by
    rw [celX_obj hc.2 (by decide), mp_eq]
    show (Sum.inr (11, [.ref (adr M (rf c 0)), .ref (adr M (rf c 1)), .int (sg0 c 2), .int (sg0 c 3), .int (sg0 c 4), .ref (adr M (rf c 5)), .ref (adr M (rf c 6)), .ref (adr M (rf c 7)), .ref (adr M (rf c 8)), .int (sg0 c 9), .ref (adr M (rf c 10)), .ref (adr M (rf c 11)), .ref (adr M (rf c 12)), .ref (adr M (rf c 13)), .ref (adr M (rf c 14)), .ref (adr M (rf c 15)), .ref (adr M (rf c 16)), .ref (adr M (rf c 17)), .ref (adr M (rf c 18)), .ref (adr M (rf c 19)), .ref (adr M (rf c 20)), .ref (adr M (rf c 21)), .ref (adr M (rf c 22)), .ref (adr M (rf c 23)), .ref (adr M (rf c 24)), .int (sg0 c 25), .int (sg0 c 26), .int (sg0 c 27), .int (sg0 c 28), .int (sg0 c 29), .int (sg0 c 30), .int (sg0 c 31), .int (sg0 c 32), .int (sg0 c 33), .int (sg0 c 34), .ref (adr M (rf c 35)), .ref (adr M (rf c 36)), .ref (adr M (rf c 37)), .ref (adr M (rf c 38)), .int (sg0 c 39), .int (sg0 c 40)]) : va_E) = _
    rw [hi2, hi3, hi4, hi9, hi25, hi26, hi27, hi28, hi29, hi30, hi31, hi32, hi33, hi34, hi39, hi40, (sh_11_26 hc), (sh_11_27 hc), (sh_11_28 hc), (sh_11_29 hc), (sh_11_30 hc), (sh_11_31 hc), (sh_11_32 hc), (sh_11_33 hc), (sh_11_34 hc), (sh_11_35 hc), (sh_11_36 hc), (sh_11_37 hc), (sh_11_38 hc), (sh_11_39 hc), (sh_11_40 hc), (sh_11_41 hc), (sh_11_42 hc), (sh_11_43 hc), (sh_11_44 hc), (sh_11_45 hc), (sh_11_46 hc), (sh_11_47 hc), (sh_11_48 hc), (sh_11_49 hc), (sh_11_50 hc)]
  have hov : (.inl (M.2.1 13, 174, .inl (flx 101 60 (-1) (flx 8 6 10 (flx 1 7 10 (upd (fun _ => 0) 0 3))))) : va_E) = celX M sg0 (c + 1) := (by rw [now_ok, celX_arr2 (sh_11_1 hc)])
  refine ctc_of (l := l) hE.Dj (by decide) (Nat.le_of_ble_eq_true rfl) ?_
  intro p e s m args below meth cd C hin hsz hAO
  refine jc_congr (cg := W0 c cf 11 [.null, .null, .int 0, .int 0, .int 0, .null, .null, .null, .null, .int 0, .null, .null, .null, .null, .null, .null, .null, .null, .null, .null, .null, .null, .null, .null, .null, .int 0, .int 0, .int 0, .int 0, .int 0, .int 0, .int 0, .int 0, .int 0, .int 0, .null, .null, .null, .null, .int 0, .int 0] (celX M sg0)) (ent0 hz) ?_
  refine jc_aload_n C dX11_init_0 rfl ?_
  refine jc_obj C dX11_init_1 (mem_g 1009 (by decide +kernel) (by decide)) lo_1 lo_2 (by decide) (Nat.le_of_ble_eq_true rfl) ?_
  refine jc_aload_n C dX11_init_4 rfl ?_
  refine jc_sipush C (v := (174 : Int32)) dX11_init_5 (by decide) ?_
  refine jc_newa_i C hE (N := 174) dX11_init_8 ac_int (by omega) (hE.at hsz (by omega)) (by decide) (by decide) (by decide) ⟨by decide, by decide⟩ ?_
  refine jc_n (n2 := c + 2) (by omega) ?_
  refine jc_congr (cg := W0 c cf 11 [.null, .null, .int 0, .int 0, .int 0, .null, .null, .null, .null, .int 0, .null, .null, .null, .null, .null, .null, .null, .null, .null, .null, .null, .null, .null, .null, .null, .int 0, .int 0, .int 0, .int 0, .int 0, .int 0, .int 0, .int 0, .int 0, .int 0, .null, .null, .null, .null, .int 0, .int 0] (va_up (celX M sg0) (c + 1) (.inl (M.2.1 13, 174, .inl fun _ => 0)))) (up_b (by omega) _) ?_
  refine jc_putF C (fs2 := [.ref (adr M (c + 1)), .null, .int 0, .int 0, .int 0, .null, .null, .null, .null, .int 0, .null, .null, .null, .null, .null, .null, .null, .null, .null, .null, .null, .null, .null, .null, .null, .int 0, .int 0, .int 0, .int 0, .int 0, .int 0, .int 0, .int 0, .int 0, .int 0, .null, .null, .null, .null, .int 0, .int 0]) dX11_init_10 fl_RX11_7 ff_11_0 hin (by omega) (by omega) (Nat.le_of_ble_eq_true rfl) rfl rfl rfl ?_
  refine jc_aload_n C dX11_init_13 rfl ?_
  refine jc_sipush C (v := (2784 : Int32)) dX11_init_14 (by decide) ?_
  refine jc_newa_i C hE (N := 2784) dX11_init_17 ac_int (by omega) (hE.at hsz (by omega)) (by decide) (by decide) (by decide) ⟨by decide, by decide⟩ ?_
  refine jc_n (n2 := c + 3) (by omega) ?_
  refine jc_congr (cg := W0 c cf 11 [.ref (adr M (c + 1)), .null, .int 0, .int 0, .int 0, .null, .null, .null, .null, .int 0, .null, .null, .null, .null, .null, .null, .null, .null, .null, .null, .null, .null, .null, .null, .null, .int 0, .int 0, .int 0, .int 0, .int 0, .int 0, .int 0, .int 0, .int 0, .int 0, .null, .null, .null, .null, .int 0, .int 0] (va_up (celX M sg0) (c + 1) (.inl (M.2.1 13, 174, .inl fun _ => 0)))) (up_a (by omega) ((va_up_ne _ _ (by omega)).trans (celX_arr0 (sh_11_2 hc) (by decide) (by decide))) _) ?_
  refine jc_putF C (fs2 := [.ref (adr M (c + 1)), .ref (adr M (c + 2)), .int 0, .int 0, .int 0, .null, .null, .null, .null, .int 0, .null, .null, .null, .null, .null, .null, .null, .null, .null, .null, .null, .null, .null, .null, .null, .int 0, .int 0, .int 0, .int 0, .int 0, .int 0, .int 0, .int 0, .int 0, .int 0, .null, .null, .null, .null, .int 0, .int 0]) dX11_init_19 fl_RX11_13 ff_11_1 hin (by omega) (by omega) (Nat.le_of_ble_eq_true rfl) rfl rfl rfl ?_
  refine jc_aload_n C dX11_init_22 rfl ?_
  refine jc_iconst C (v := (4 : Int32)) dX11_init_23 (by decide) ?_
  refine jc_newa_i C hE (N := 4) dX11_init_24 ac_int (by omega) (hE.at hsz (by omega)) (by decide) (by decide) (by decide) ⟨by decide, by decide⟩ ?_
  refine jc_n (n2 := c + 4) (by omega) ?_
  refine jc_congr (cg := W0 c cf 11 [.ref (adr M (c + 1)), .ref (adr M (c + 2)), .int 0, .int 0, .int 0, .null, .null, .null, .null, .int 0, .null, .null, .null, .null, .null, .null, .null, .null, .null, .null, .null, .null, .null, .null, .null, .int 0, .int 0, .int 0, .int 0, .int 0, .int 0, .int 0, .int 0, .int 0, .int 0, .null, .null, .null, .null, .int 0, .int 0] (va_up (celX M sg0) (c + 1) (.inl (M.2.1 13, 174, .inl fun _ => 0)))) (up_a (by omega) ((va_up_ne _ _ (by omega)).trans (celX_arr0 (sh_11_3 hc) (by decide) (by decide))) _) ?_
  refine jc_putF C (fs2 := [.ref (adr M (c + 1)), .ref (adr M (c + 2)), .int 0, .int 0, .int 0, .ref (adr M (c + 3)), .null, .null, .null, .int 0, .null, .null, .null, .null, .null, .null, .null, .null, .null, .null, .null, .null, .null, .null, .null, .int 0, .int 0, .int 0, .int 0, .int 0, .int 0, .int 0, .int 0, .int 0, .int 0, .null, .null, .null, .null, .int 0, .int 0]) dX11_init_26 fl_RX11_16 ff_11_5 hin (by omega) (by omega) (Nat.le_of_ble_eq_true rfl) rfl rfl rfl ?_
  refine jc_aload_n C dX11_init_29 rfl ?_
  refine jc_iconst C (v := (4 : Int32)) dX11_init_30 (by decide) ?_
  refine jc_newa_i C hE (N := 4) dX11_init_31 ac_int (by omega) (hE.at hsz (by omega)) (by decide) (by decide) (by decide) ⟨by decide, by decide⟩ ?_
  refine jc_n (n2 := c + 5) (by omega) ?_
  refine jc_congr (cg := W0 c cf 11 [.ref (adr M (c + 1)), .ref (adr M (c + 2)), .int 0, .int 0, .int 0, .ref (adr M (c + 3)), .null, .null, .null, .int 0, .null, .null, .null, .null, .null, .null, .null, .null, .null, .null, .null, .null, .null, .null, .null, .int 0, .int 0, .int 0, .int 0, .int 0, .int 0, .int 0, .int 0, .int 0, .int 0, .null, .null, .null, .null, .int 0, .int 0] (va_up (celX M sg0) (c + 1) (.inl (M.2.1 13, 174, .inl fun _ => 0)))) (up_a (by omega) ((va_up_ne _ _ (by omega)).trans (celX_arr0 (sh_11_4 hc) (by decide) (by decide))) _) ?_
  refine jc_putF C (fs2 := [.ref (adr M (c + 1)), .ref (adr M (c + 2)), .int 0, .int 0, .int 0, .ref (adr M (c + 3)), .ref (adr M (c + 4)), .null, .null, .int 0, .null, .null, .null, .null, .null, .null, .null, .null, .null, .null, .null, .null, .null, .null, .null, .int 0, .int 0, .int 0, .int 0, .int 0, .int 0, .int 0, .int 0, .int 0, .int 0, .null, .null, .null, .null, .int 0, .int 0]) dX11_init_33 fl_RX11_19 ff_11_6 hin (by omega) (by omega) (Nat.le_of_ble_eq_true rfl) rfl rfl rfl ?_
  refine jc_aload_n C dX11_init_36 rfl ?_
  refine jc_sipush C (v := (240 : Int32)) dX11_init_37 (by decide) ?_
  refine jc_newa_i C hE (N := 240) dX11_init_40 ac_int (by omega) (hE.at hsz (by omega)) (by decide) (by decide) (by decide) ⟨by decide, by decide⟩ ?_
  refine jc_n (n2 := c + 6) (by omega) ?_
  refine jc_congr (cg := W0 c cf 11 [.ref (adr M (c + 1)), .ref (adr M (c + 2)), .int 0, .int 0, .int 0, .ref (adr M (c + 3)), .ref (adr M (c + 4)), .null, .null, .int 0, .null, .null, .null, .null, .null, .null, .null, .null, .null, .null, .null, .null, .null, .null, .null, .int 0, .int 0, .int 0, .int 0, .int 0, .int 0, .int 0, .int 0, .int 0, .int 0, .null, .null, .null, .null, .int 0, .int 0] (va_up (celX M sg0) (c + 1) (.inl (M.2.1 13, 174, .inl fun _ => 0)))) (up_a (by omega) ((va_up_ne _ _ (by omega)).trans (celX_arr0 (sh_11_5 hc) (by decide) (by decide))) _) ?_
  refine jc_putF C (fs2 := [.ref (adr M (c + 1)), .ref (adr M (c + 2)), .int 0, .int 0, .int 0, .ref (adr M (c + 3)), .ref (adr M (c + 4)), .ref (adr M (c + 5)), .null, .int 0, .null, .null, .null, .null, .null, .null, .null, .null, .null, .null, .null, .null, .null, .null, .null, .int 0, .int 0, .int 0, .int 0, .int 0, .int 0, .int 0, .int 0, .int 0, .int 0, .null, .null, .null, .null, .int 0, .int 0]) dX11_init_42 fl_RX11_22 ff_11_7 hin (by omega) (by omega) (Nat.le_of_ble_eq_true rfl) rfl rfl rfl ?_
  refine jc_aload_n C dX11_init_45 rfl ?_
  refine jc_bipush C (v := (60 : Int32)) dX11_init_46 (by decide) ?_
  refine jc_newa_i C hE (N := 60) dX11_init_48 ac_int (by omega) (hE.at hsz (by omega)) (by decide) (by decide) (by decide) ⟨by decide, by decide⟩ ?_
  refine jc_n (n2 := c + 7) (by omega) ?_
  refine jc_congr (cg := W0 c cf 11 [.ref (adr M (c + 1)), .ref (adr M (c + 2)), .int 0, .int 0, .int 0, .ref (adr M (c + 3)), .ref (adr M (c + 4)), .ref (adr M (c + 5)), .null, .int 0, .null, .null, .null, .null, .null, .null, .null, .null, .null, .null, .null, .null, .null, .null, .null, .int 0, .int 0, .int 0, .int 0, .int 0, .int 0, .int 0, .int 0, .int 0, .int 0, .null, .null, .null, .null, .int 0, .int 0] (va_up (celX M sg0) (c + 1) (.inl (M.2.1 13, 174, .inl fun _ => 0)))) (up_a (by omega) ((va_up_ne _ _ (by omega)).trans (celX_arr0 (sh_11_6 hc) (by decide) (by decide))) _) ?_
  refine jc_putF C (fs2 := [.ref (adr M (c + 1)), .ref (adr M (c + 2)), .int 0, .int 0, .int 0, .ref (adr M (c + 3)), .ref (adr M (c + 4)), .ref (adr M (c + 5)), .ref (adr M (c + 6)), .int 0, .null, .null, .null, .null, .null, .null, .null, .null, .null, .null, .null, .null, .null, .null, .null, .int 0, .int 0, .int 0, .int 0, .int 0, .int 0, .int 0, .int 0, .int 0, .int 0, .null, .null, .null, .null, .int 0, .int 0]) dX11_init_50 fl_RX11_25 ff_11_8 hin (by omega) (by omega) (Nat.le_of_ble_eq_true rfl) rfl rfl rfl ?_
  refine jc_aload_n C dX11_init_53 rfl ?_
  refine jc_bipush C (v := (12 : Int32)) dX11_init_54 (by decide) ?_
  refine jc_newa_z C hE (N := 12) dX11_init_56 ac_boolean (by omega) (hE.at hsz (by omega)) (by decide) (by decide) (by decide) ⟨by decide, by decide⟩ ?_
  refine jc_n (n2 := c + 8) (by omega) ?_
  refine jc_congr (cg := W0 c cf 11 [.ref (adr M (c + 1)), .ref (adr M (c + 2)), .int 0, .int 0, .int 0, .ref (adr M (c + 3)), .ref (adr M (c + 4)), .ref (adr M (c + 5)), .ref (adr M (c + 6)), .int 0, .null, .null, .null, .null, .null, .null, .null, .null, .null, .null, .null, .null, .null, .null, .null, .int 0, .int 0, .int 0, .int 0, .int 0, .int 0, .int 0, .int 0, .int 0, .int 0, .null, .null, .null, .null, .int 0, .int 0] (va_up (celX M sg0) (c + 1) (.inl (M.2.1 13, 174, .inl fun _ => 0)))) (up_a (by omega) ((va_up_ne _ _ (by omega)).trans (celX_arr0 (sh_11_7 hc) (by decide) (by decide))) _) ?_
  refine jc_putF C (fs2 := [.ref (adr M (c + 1)), .ref (adr M (c + 2)), .int 0, .int 0, .int 0, .ref (adr M (c + 3)), .ref (adr M (c + 4)), .ref (adr M (c + 5)), .ref (adr M (c + 6)), .int 0, .ref (adr M (c + 7)), .null, .null, .null, .null, .null, .null, .null, .null, .null, .null, .null, .null, .null, .null, .int 0, .int 0, .int 0, .int 0, .int 0, .int 0, .int 0, .int 0, .int 0, .int 0, .null, .null, .null, .null, .int 0, .int 0]) dX11_init_58 fl_RX11_28 ff_11_10 hin (by omega) (by omega) (Nat.le_of_ble_eq_true rfl) rfl rfl rfl ?_
  refine jc_aload_n C dX11_init_61 rfl ?_
  refine jc_iconst C (v := (5 : Int32)) dX11_init_62 (by decide) ?_
  refine jc_newa_i C hE (N := 5) dX11_init_63 ac_int (by omega) (hE.at hsz (by omega)) (by decide) (by decide) (by decide) ⟨by decide, by decide⟩ ?_
  refine jc_n (n2 := c + 9) (by omega) ?_
  refine jc_congr (cg := W0 c cf 11 [.ref (adr M (c + 1)), .ref (adr M (c + 2)), .int 0, .int 0, .int 0, .ref (adr M (c + 3)), .ref (adr M (c + 4)), .ref (adr M (c + 5)), .ref (adr M (c + 6)), .int 0, .ref (adr M (c + 7)), .null, .null, .null, .null, .null, .null, .null, .null, .null, .null, .null, .null, .null, .null, .int 0, .int 0, .int 0, .int 0, .int 0, .int 0, .int 0, .int 0, .int 0, .int 0, .null, .null, .null, .null, .int 0, .int 0] (va_up (celX M sg0) (c + 1) (.inl (M.2.1 13, 174, .inl fun _ => 0)))) (up_a (by omega) ((va_up_ne _ _ (by omega)).trans (celX_arr0 (sh_11_8 hc) (by decide) (by decide))) _) ?_
  refine jc_putF C (fs2 := [.ref (adr M (c + 1)), .ref (adr M (c + 2)), .int 0, .int 0, .int 0, .ref (adr M (c + 3)), .ref (adr M (c + 4)), .ref (adr M (c + 5)), .ref (adr M (c + 6)), .int 0, .ref (adr M (c + 7)), .ref (adr M (c + 8)), .null, .null, .null, .null, .null, .null, .null, .null, .null, .null, .null, .null, .null, .int 0, .int 0, .int 0, .int 0, .int 0, .int 0, .int 0, .int 0, .int 0, .int 0, .null, .null, .null, .null, .int 0, .int 0]) dX11_init_65 fl_RX11_32 ff_11_11 hin (by omega) (by omega) (Nat.le_of_ble_eq_true rfl) rfl rfl rfl ?_
  refine jc_aload_n C dX11_init_68 rfl ?_
  refine jc_iconst C (v := (5 : Int32)) dX11_init_69 (by decide) ?_
  refine jc_newa_i C hE (N := 5) dX11_init_70 ac_int (by omega) (hE.at hsz (by omega)) (by decide) (by decide) (by decide) ⟨by decide, by decide⟩ ?_
  refine jc_n (n2 := c + 10) (by omega) ?_
  refine jc_congr (cg := W0 c cf 11 [.ref (adr M (c + 1)), .ref (adr M (c + 2)), .int 0, .int 0, .int 0, .ref (adr M (c + 3)), .ref (adr M (c + 4)), .ref (adr M (c + 5)), .ref (adr M (c + 6)), .int 0, .ref (adr M (c + 7)), .ref (adr M (c + 8)), .null, .null, .null, .null, .null, .null, .null, .null, .null, .null, .null, .null, .null, .int 0, .int 0, .int 0, .int 0, .int 0, .int 0, .int 0, .int 0, .int 0, .int 0, .null, .null, .null, .null, .int 0, .int 0] (va_up (celX M sg0) (c + 1) (.inl (M.2.1 13, 174, .inl fun _ => 0)))) (up_a (by omega) ((va_up_ne _ _ (by omega)).trans (celX_arr0 (sh_11_9 hc) (by decide) (by decide))) _) ?_
  refine jc_putF C (fs2 := [.ref (adr M (c + 1)), .ref (adr M (c + 2)), .int 0, .int 0, .int 0, .ref (adr M (c + 3)), .ref (adr M (c + 4)), .ref (adr M (c + 5)), .ref (adr M (c + 6)), .int 0, .ref (adr M (c + 7)), .ref (adr M (c + 8)), .ref (adr M (c + 9)), .null, .null, .null, .null, .null, .null, .null, .null, .null, .null, .null, .null, .int 0, .int 0, .int 0, .int 0, .int 0, .int 0, .int 0, .int 0, .int 0, .int 0, .null, .null, .null, .null, .int 0, .int 0]) dX11_init_72 fl_RX11_35 ff_11_12 hin (by omega) (by omega) (Nat.le_of_ble_eq_true rfl) rfl rfl rfl ?_
  refine jc_aload_n C dX11_init_75 rfl ?_
  refine jc_iconst C (v := (5 : Int32)) dX11_init_76 (by decide) ?_
  refine jc_newa_i C hE (N := 5) dX11_init_77 ac_int (by omega) (hE.at hsz (by omega)) (by decide) (by decide) (by decide) ⟨by decide, by decide⟩ ?_
  refine jc_n (n2 := c + 11) (by omega) ?_
  refine jc_congr (cg := W0 c cf 11 [.ref (adr M (c + 1)), .ref (adr M (c + 2)), .int 0, .int 0, .int 0, .ref (adr M (c + 3)), .ref (adr M (c + 4)), .ref (adr M (c + 5)), .ref (adr M (c + 6)), .int 0, .ref (adr M (c + 7)), .ref (adr M (c + 8)), .ref (adr M (c + 9)), .null, .null, .null, .null, .null, .null, .null, .null, .null, .null, .null, .null, .int 0, .int 0, .int 0, .int 0, .int 0, .int 0, .int 0, .int 0, .int 0, .int 0, .null, .null, .null, .null, .int 0, .int 0] (va_up (celX M sg0) (c + 1) (.inl (M.2.1 13, 174, .inl fun _ => 0)))) (up_a (by omega) ((va_up_ne _ _ (by omega)).trans (celX_arr0 (sh_11_10 hc) (by decide) (by decide))) _) ?_
  refine jc_putF C (fs2 := [.ref (adr M (c + 1)), .ref (adr M (c + 2)), .int 0, .int 0, .int 0, .ref (adr M (c + 3)), .ref (adr M (c + 4)), .ref (adr M (c + 5)), .ref (adr M (c + 6)), .int 0, .ref (adr M (c + 7)), .ref (adr M (c + 8)), .ref (adr M (c + 9)), .ref (adr M (c + 10)), .null, .null, .null, .null, .null, .null, .null, .null, .null, .null, .null, .int 0, .int 0, .int 0, .int 0, .int 0, .int 0, .int 0, .int 0, .int 0, .int 0, .null, .null, .null, .null, .int 0, .int 0]) dX11_init_79 fl_RX11_38 ff_11_13 hin (by omega) (by omega) (Nat.le_of_ble_eq_true rfl) rfl rfl rfl ?_
  refine jc_aload_n C dX11_init_82 rfl ?_
  refine jc_iconst C (v := (5 : Int32)) dX11_init_83 (by decide) ?_
  refine jc_newa_i C hE (N := 5) dX11_init_84 ac_int (by omega) (hE.at hsz (by omega)) (by decide) (by decide) (by decide) ⟨by decide, by decide⟩ ?_
  refine jc_n (n2 := c + 12) (by omega) ?_
  refine jc_congr (cg := W0 c cf 11 [.ref (adr M (c + 1)), .ref (adr M (c + 2)), .int 0, .int 0, .int 0, .ref (adr M (c + 3)), .ref (adr M (c + 4)), .ref (adr M (c + 5)), .ref (adr M (c + 6)), .int 0, .ref (adr M (c + 7)), .ref (adr M (c + 8)), .ref (adr M (c + 9)), .ref (adr M (c + 10)), .null, .null, .null, .null, .null, .null, .null, .null, .null, .null, .null, .int 0, .int 0, .int 0, .int 0, .int 0, .int 0, .int 0, .int 0, .int 0, .int 0, .null, .null, .null, .null, .int 0, .int 0] (va_up (celX M sg0) (c + 1) (.inl (M.2.1 13, 174, .inl fun _ => 0)))) (up_a (by omega) ((va_up_ne _ _ (by omega)).trans (celX_arr0 (sh_11_11 hc) (by decide) (by decide))) _) ?_
  refine jc_putF C (fs2 := [.ref (adr M (c + 1)), .ref (adr M (c + 2)), .int 0, .int 0, .int 0, .ref (adr M (c + 3)), .ref (adr M (c + 4)), .ref (adr M (c + 5)), .ref (adr M (c + 6)), .int 0, .ref (adr M (c + 7)), .ref (adr M (c + 8)), .ref (adr M (c + 9)), .ref (adr M (c + 10)), .ref (adr M (c + 11)), .null, .null, .null, .null, .null, .null, .null, .null, .null, .null, .int 0, .int 0, .int 0, .int 0, .int 0, .int 0, .int 0, .int 0, .int 0, .int 0, .null, .null, .null, .null, .int 0, .int 0]) dX11_init_86 fl_RX11_41 ff_11_14 hin (by omega) (by omega) (Nat.le_of_ble_eq_true rfl) rfl rfl rfl ?_
  refine jc_aload_n C dX11_init_89 rfl ?_
  refine jc_iconst C (v := (5 : Int32)) dX11_init_90 (by decide) ?_
  refine jc_newa_i C hE (N := 5) dX11_init_91 ac_int (by omega) (hE.at hsz (by omega)) (by decide) (by decide) (by decide) ⟨by decide, by decide⟩ ?_
  refine jc_n (n2 := c + 13) (by omega) ?_
  refine jc_congr (cg := W0 c cf 11 [.ref (adr M (c + 1)), .ref (adr M (c + 2)), .int 0, .int 0, .int 0, .ref (adr M (c + 3)), .ref (adr M (c + 4)), .ref (adr M (c + 5)), .ref (adr M (c + 6)), .int 0, .ref (adr M (c + 7)), .ref (adr M (c + 8)), .ref (adr M (c + 9)), .ref (adr M (c + 10)), .ref (adr M (c + 11)), .null, .null, .null, .null, .null, .null, .null, .null, .null, .null, .int 0, .int 0, .int 0, .int 0, .int 0, .int 0, .int 0, .int 0, .int 0, .int 0, .null, .null, .null, .null, .int 0, .int 0] (va_up (celX M sg0) (c + 1) (.inl (M.2.1 13, 174, .inl fun _ => 0)))) (up_a (by omega) ((va_up_ne _ _ (by omega)).trans (celX_arr0 (sh_11_12 hc) (by decide) (by decide))) _) ?_
  refine jc_putF C (fs2 := [.ref (adr M (c + 1)), .ref (adr M (c + 2)), .int 0, .int 0, .int 0, .ref (adr M (c + 3)), .ref (adr M (c + 4)), .ref (adr M (c + 5)), .ref (adr M (c + 6)), .int 0, .ref (adr M (c + 7)), .ref (adr M (c + 8)), .ref (adr M (c + 9)), .ref (adr M (c + 10)), .ref (adr M (c + 11)), .ref (adr M (c + 12)), .null, .null, .null, .null, .null, .null, .null, .null, .null, .int 0, .int 0, .int 0, .int 0, .int 0, .int 0, .int 0, .int 0, .int 0, .int 0, .null, .null, .null, .null, .int 0, .int 0]) dX11_init_93 fl_RX11_44 ff_11_15 hin (by omega) (by omega) (Nat.le_of_ble_eq_true rfl) rfl rfl rfl ?_
  refine jc_aload_n C dX11_init_96 rfl ?_
  refine jc_bipush C (v := (35 : Int32)) dX11_init_97 (by decide) ?_
  refine jc_newa_i C hE (N := 35) dX11_init_99 ac_int (by omega) (hE.at hsz (by omega)) (by decide) (by decide) (by decide) ⟨by decide, by decide⟩ ?_
  refine jc_n (n2 := c + 14) (by omega) ?_
  refine jc_congr (cg := W0 c cf 11 [.ref (adr M (c + 1)), .ref (adr M (c + 2)), .int 0, .int 0, .int 0, .ref (adr M (c + 3)), .ref (adr M (c + 4)), .ref (adr M (c + 5)), .ref (adr M (c + 6)), .int 0, .ref (adr M (c + 7)), .ref (adr M (c + 8)), .ref (adr M (c + 9)), .ref (adr M (c + 10)), .ref (adr M (c + 11)), .ref (adr M (c + 12)), .null, .null, .null, .null, .null, .null, .null, .null, .null, .int 0, .int 0, .int 0, .int 0, .int 0, .int 0, .int 0, .int 0, .int 0, .int 0, .null, .null, .null, .null, .int 0, .int 0] (va_up (celX M sg0) (c + 1) (.inl (M.2.1 13, 174, .inl fun _ => 0)))) (up_a (by omega) ((va_up_ne _ _ (by omega)).trans (celX_arr0 (sh_11_13 hc) (by decide) (by decide))) _) ?_
  refine jc_putF C (fs2 := [.ref (adr M (c + 1)), .ref (adr M (c + 2)), .int 0, .int 0, .int 0, .ref (adr M (c + 3)), .ref (adr M (c + 4)), .ref (adr M (c + 5)), .ref (adr M (c + 6)), .int 0, .ref (adr M (c + 7)), .ref (adr M (c + 8)), .ref (adr M (c + 9)), .ref (adr M (c + 10)), .ref (adr M (c + 11)), .ref (adr M (c + 12)), .ref (adr M (c + 13)), .null, .null, .null, .null, .null, .null, .null, .null, .int 0, .int 0, .int 0, .int 0, .int 0, .int 0, .int 0, .int 0, .int 0, .int 0, .null, .null, .null, .null, .int 0, .int 0]) dX11_init_101 fl_RX11_47 ff_11_16 hin (by omega) (by omega) (Nat.le_of_ble_eq_true rfl) rfl rfl rfl ?_
  refine jc_aload_n C dX11_init_104 rfl ?_
  refine jc_bipush C (v := (35 : Int32)) dX11_init_105 (by decide) ?_
  refine jc_newa_i C hE (N := 35) dX11_init_107 ac_int (by omega) (hE.at hsz (by omega)) (by decide) (by decide) (by decide) ⟨by decide, by decide⟩ ?_
  refine jc_n (n2 := c + 15) (by omega) ?_
  refine jc_congr (cg := W0 c cf 11 [.ref (adr M (c + 1)), .ref (adr M (c + 2)), .int 0, .int 0, .int 0, .ref (adr M (c + 3)), .ref (adr M (c + 4)), .ref (adr M (c + 5)), .ref (adr M (c + 6)), .int 0, .ref (adr M (c + 7)), .ref (adr M (c + 8)), .ref (adr M (c + 9)), .ref (adr M (c + 10)), .ref (adr M (c + 11)), .ref (adr M (c + 12)), .ref (adr M (c + 13)), .null, .null, .null, .null, .null, .null, .null, .null, .int 0, .int 0, .int 0, .int 0, .int 0, .int 0, .int 0, .int 0, .int 0, .int 0, .null, .null, .null, .null, .int 0, .int 0] (va_up (celX M sg0) (c + 1) (.inl (M.2.1 13, 174, .inl fun _ => 0)))) (up_a (by omega) ((va_up_ne _ _ (by omega)).trans (celX_arr0 (sh_11_14 hc) (by decide) (by decide))) _) ?_
  refine jc_putF C (fs2 := [.ref (adr M (c + 1)), .ref (adr M (c + 2)), .int 0, .int 0, .int 0, .ref (adr M (c + 3)), .ref (adr M (c + 4)), .ref (adr M (c + 5)), .ref (adr M (c + 6)), .int 0, .ref (adr M (c + 7)), .ref (adr M (c + 8)), .ref (adr M (c + 9)), .ref (adr M (c + 10)), .ref (adr M (c + 11)), .ref (adr M (c + 12)), .ref (adr M (c + 13)), .ref (adr M (c + 14)), .null, .null, .null, .null, .null, .null, .null, .int 0, .int 0, .int 0, .int 0, .int 0, .int 0, .int 0, .int 0, .int 0, .int 0, .null, .null, .null, .null, .int 0, .int 0]) dX11_init_109 fl_RX11_50 ff_11_17 hin (by omega) (by omega) (Nat.le_of_ble_eq_true rfl) rfl rfl rfl ?_
  refine jc_aload_n C dX11_init_112 rfl ?_
  refine jc_bipush C (v := (14 : Int32)) dX11_init_113 (by decide) ?_
  refine jc_newa_i C hE (N := 14) dX11_init_115 ac_int (by omega) (hE.at hsz (by omega)) (by decide) (by decide) (by decide) ⟨by decide, by decide⟩ ?_
  refine jc_n (n2 := c + 16) (by omega) ?_
  refine jc_congr (cg := W0 c cf 11 [.ref (adr M (c + 1)), .ref (adr M (c + 2)), .int 0, .int 0, .int 0, .ref (adr M (c + 3)), .ref (adr M (c + 4)), .ref (adr M (c + 5)), .ref (adr M (c + 6)), .int 0, .ref (adr M (c + 7)), .ref (adr M (c + 8)), .ref (adr M (c + 9)), .ref (adr M (c + 10)), .ref (adr M (c + 11)), .ref (adr M (c + 12)), .ref (adr M (c + 13)), .ref (adr M (c + 14)), .null, .null, .null, .null, .null, .null, .null, .int 0, .int 0, .int 0, .int 0, .int 0, .int 0, .int 0, .int 0, .int 0, .int 0, .null, .null, .null, .null, .int 0, .int 0] (va_up (celX M sg0) (c + 1) (.inl (M.2.1 13, 174, .inl fun _ => 0)))) (up_a (by omega) ((va_up_ne _ _ (by omega)).trans (celX_arr0 (sh_11_15 hc) (by decide) (by decide))) _) ?_
  refine jc_putF C (fs2 := [.ref (adr M (c + 1)), .ref (adr M (c + 2)), .int 0, .int 0, .int 0, .ref (adr M (c + 3)), .ref (adr M (c + 4)), .ref (adr M (c + 5)), .ref (adr M (c + 6)), .int 0, .ref (adr M (c + 7)), .ref (adr M (c + 8)), .ref (adr M (c + 9)), .ref (adr M (c + 10)), .ref (adr M (c + 11)), .ref (adr M (c + 12)), .ref (adr M (c + 13)), .ref (adr M (c + 14)), .ref (adr M (c + 15)), .null, .null, .null, .null, .null, .null, .int 0, .int 0, .int 0, .int 0, .int 0, .int 0, .int 0, .int 0, .int 0, .int 0, .null, .null, .null, .null, .int 0, .int 0]) dX11_init_117 fl_RX11_53 ff_11_18 hin (by omega) (by omega) (Nat.le_of_ble_eq_true rfl) rfl rfl rfl ?_
  refine jc_aload_n C dX11_init_120 rfl ?_
  refine jc_sipush C (v := (2505 : Int32)) dX11_init_121 (by decide) ?_
  refine jc_newa_i C hE (N := 2505) dX11_init_124 ac_int (by omega) (hE.at hsz (by omega)) (by decide) (by decide) (by decide) ⟨by decide, by decide⟩ ?_
  refine jc_n (n2 := c + 17) (by omega) ?_
  refine jc_congr (cg := W0 c cf 11 [.ref (adr M (c + 1)), .ref (adr M (c + 2)), .int 0, .int 0, .int 0, .ref (adr M (c + 3)), .ref (adr M (c + 4)), .ref (adr M (c + 5)), .ref (adr M (c + 6)), .int 0, .ref (adr M (c + 7)), .ref (adr M (c + 8)), .ref (adr M (c + 9)), .ref (adr M (c + 10)), .ref (adr M (c + 11)), .ref (adr M (c + 12)), .ref (adr M (c + 13)), .ref (adr M (c + 14)), .ref (adr M (c + 15)), .null, .null, .null, .null, .null, .null, .int 0, .int 0, .int 0, .int 0, .int 0, .int 0, .int 0, .int 0, .int 0, .int 0, .null, .null, .null, .null, .int 0, .int 0] (va_up (celX M sg0) (c + 1) (.inl (M.2.1 13, 174, .inl fun _ => 0)))) (up_a (by omega) ((va_up_ne _ _ (by omega)).trans (celX_arr0 (sh_11_16 hc) (by decide) (by decide))) _) ?_
  refine jc_putF C (fs2 := [.ref (adr M (c + 1)), .ref (adr M (c + 2)), .int 0, .int 0, .int 0, .ref (adr M (c + 3)), .ref (adr M (c + 4)), .ref (adr M (c + 5)), .ref (adr M (c + 6)), .int 0, .ref (adr M (c + 7)), .ref (adr M (c + 8)), .ref (adr M (c + 9)), .ref (adr M (c + 10)), .ref (adr M (c + 11)), .ref (adr M (c + 12)), .ref (adr M (c + 13)), .ref (adr M (c + 14)), .ref (adr M (c + 15)), .ref (adr M (c + 16)), .null, .null, .null, .null, .null, .int 0, .int 0, .int 0, .int 0, .int 0, .int 0, .int 0, .int 0, .int 0, .int 0, .null, .null, .null, .null, .int 0, .int 0]) dX11_init_126 fl_RX11_56 ff_11_19 hin (by omega) (by omega) (Nat.le_of_ble_eq_true rfl) rfl rfl rfl ?_
  refine jc_aload_n C dX11_init_129 rfl ?_
  refine jc_sipush C (v := (2505 : Int32)) dX11_init_130 (by decide) ?_
  refine jc_newa_i C hE (N := 2505) dX11_init_133 ac_int (by omega) (hE.at hsz (by omega)) (by decide) (by decide) (by decide) ⟨by decide, by decide⟩ ?_
  refine jc_n (n2 := c + 18) (by omega) ?_
  refine jc_congr (cg := W0 c cf 11 [.ref (adr M (c + 1)), .ref (adr M (c + 2)), .int 0, .int 0, .int 0, .ref (adr M (c + 3)), .ref (adr M (c + 4)), .ref (adr M (c + 5)), .ref (adr M (c + 6)), .int 0, .ref (adr M (c + 7)), .ref (adr M (c + 8)), .ref (adr M (c + 9)), .ref (adr M (c + 10)), .ref (adr M (c + 11)), .ref (adr M (c + 12)), .ref (adr M (c + 13)), .ref (adr M (c + 14)), .ref (adr M (c + 15)), .ref (adr M (c + 16)), .null, .null, .null, .null, .null, .int 0, .int 0, .int 0, .int 0, .int 0, .int 0, .int 0, .int 0, .int 0, .int 0, .null, .null, .null, .null, .int 0, .int 0] (va_up (celX M sg0) (c + 1) (.inl (M.2.1 13, 174, .inl fun _ => 0)))) (up_a (by omega) ((va_up_ne _ _ (by omega)).trans (celX_arr0 (sh_11_17 hc) (by decide) (by decide))) _) ?_
  refine jc_putF C (fs2 := [.ref (adr M (c + 1)), .ref (adr M (c + 2)), .int 0, .int 0, .int 0, .ref (adr M (c + 3)), .ref (adr M (c + 4)), .ref (adr M (c + 5)), .ref (adr M (c + 6)), .int 0, .ref (adr M (c + 7)), .ref (adr M (c + 8)), .ref (adr M (c + 9)), .ref (adr M (c + 10)), .ref (adr M (c + 11)), .ref (adr M (c + 12)), .ref (adr M (c + 13)), .ref (adr M (c + 14)), .ref (adr M (c + 15)), .ref (adr M (c + 16)), .ref (adr M (c + 17)), .null, .null, .null, .null, .int 0, .int 0, .int 0, .int 0, .int 0, .int 0, .int 0, .int 0, .int 0, .int 0, .null, .null, .null, .null, .int 0, .int 0]) dX11_init_135 fl_RX11_59 ff_11_20 hin (by omega) (by omega) (Nat.le_of_ble_eq_true rfl) rfl rfl rfl ?_
  refine jc_aload_n C dX11_init_138 rfl ?_
  refine jc_iconst C (v := (5 : Int32)) dX11_init_139 (by decide) ?_
  refine jc_newa_z C hE (N := 5) dX11_init_140 ac_boolean (by omega) (hE.at hsz (by omega)) (by decide) (by decide) (by decide) ⟨by decide, by decide⟩ ?_
  refine jc_n (n2 := c + 19) (by omega) ?_
  refine jc_congr (cg := W0 c cf 11 [.ref (adr M (c + 1)), .ref (adr M (c + 2)), .int 0, .int 0, .int 0, .ref (adr M (c + 3)), .ref (adr M (c + 4)), .ref (adr M (c + 5)), .ref (adr M (c + 6)), .int 0, .ref (adr M (c + 7)), .ref (adr M (c + 8)), .ref (adr M (c + 9)), .ref (adr M (c + 10)), .ref (adr M (c + 11)), .ref (adr M (c + 12)), .ref (adr M (c + 13)), .ref (adr M (c + 14)), .ref (adr M (c + 15)), .ref (adr M (c + 16)), .ref (adr M (c + 17)), .null, .null, .null, .null, .int 0, .int 0, .int 0, .int 0, .int 0, .int 0, .int 0, .int 0, .int 0, .int 0, .null, .null, .null, .null, .int 0, .int 0] (va_up (celX M sg0) (c + 1) (.inl (M.2.1 13, 174, .inl fun _ => 0)))) (up_a (by omega) ((va_up_ne _ _ (by omega)).trans (celX_arr0 (sh_11_18 hc) (by decide) (by decide))) _) ?_
  refine jc_putF C (fs2 := [.ref (adr M (c + 1)), .ref (adr M (c + 2)), .int 0, .int 0, .int 0, .ref (adr M (c + 3)), .ref (adr M (c + 4)), .ref (adr M (c + 5)), .ref (adr M (c + 6)), .int 0, .ref (adr M (c + 7)), .ref (adr M (c + 8)), .ref (adr M (c + 9)), .ref (adr M (c + 10)), .ref (adr M (c + 11)), .ref (adr M (c + 12)), .ref (adr M (c + 13)), .ref (adr M (c + 14)), .ref (adr M (c + 15)), .ref (adr M (c + 16)), .ref (adr M (c + 17)), .ref (adr M (c + 18)), .null, .null, .null, .int 0, .int 0, .int 0, .int 0, .int 0, .int 0, .int 0, .int 0, .int 0, .int 0, .null, .null, .null, .null, .int 0, .int 0]) dX11_init_142 fl_RX11_62 ff_11_21 hin (by omega) (by omega) (Nat.le_of_ble_eq_true rfl) rfl rfl rfl ?_
  refine jc_aload_n C dX11_init_145 rfl ?_
  refine jc_bipush C (v := (35 : Int32)) dX11_init_146 (by decide) ?_
  refine jc_newa_z C hE (N := 35) dX11_init_148 ac_boolean (by omega) (hE.at hsz (by omega)) (by decide) (by decide) (by decide) ⟨by decide, by decide⟩ ?_
  refine jc_n (n2 := c + 20) (by omega) ?_
  refine jc_congr (cg := W0 c cf 11 [.ref (adr M (c + 1)), .ref (adr M (c + 2)), .int 0, .int 0, .int 0, .ref (adr M (c + 3)), .ref (adr M (c + 4)), .ref (adr M (c + 5)), .ref (adr M (c + 6)), .int 0, .ref (adr M (c + 7)), .ref (adr M (c + 8)), .ref (adr M (c + 9)), .ref (adr M (c + 10)), .ref (adr M (c + 11)), .ref (adr M (c + 12)), .ref (adr M (c + 13)), .ref (adr M (c + 14)), .ref (adr M (c + 15)), .ref (adr M (c + 16)), .ref (adr M (c + 17)), .ref (adr M (c + 18)), .null, .null, .null, .int 0, .int 0, .int 0, .int 0, .int 0, .int 0, .int 0, .int 0, .int 0, .int 0, .null, .null, .null, .null, .int 0, .int 0] (va_up (celX M sg0) (c + 1) (.inl (M.2.1 13, 174, .inl fun _ => 0)))) (up_a (by omega) ((va_up_ne _ _ (by omega)).trans (celX_arr0 (sh_11_19 hc) (by decide) (by decide))) _) ?_
  refine jc_putF C (fs2 := [.ref (adr M (c + 1)), .ref (adr M (c + 2)), .int 0, .int 0, .int 0, .ref (adr M (c + 3)), .ref (adr M (c + 4)), .ref (adr M (c + 5)), .ref (adr M (c + 6)), .int 0, .ref (adr M (c + 7)), .ref (adr M (c + 8)), .ref (adr M (c + 9)), .ref (adr M (c + 10)), .ref (adr M (c + 11)), .ref (adr M (c + 12)), .ref (adr M (c + 13)), .ref (adr M (c + 14)), .ref (adr M (c + 15)), .ref (adr M (c + 16)), .ref (adr M (c + 17)), .ref (adr M (c + 18)), .ref (adr M (c + 19)), .null, .null, .int 0, .int 0, .int 0, .int 0, .int 0, .int 0, .int 0, .int 0, .int 0, .int 0, .null, .null, .null, .null, .int 0, .int 0]) dX11_init_150 fl_RX11_65 ff_11_22 hin (by omega) (by omega) (Nat.le_of_ble_eq_true rfl) rfl rfl rfl ?_
  refine jc_aload_n C dX11_init_153 rfl ?_
  refine jc_bipush C (v := (35 : Int32)) dX11_init_154 (by decide) ?_
  refine jc_newa_z C hE (N := 35) dX11_init_156 ac_boolean (by omega) (hE.at hsz (by omega)) (by decide) (by decide) (by decide) ⟨by decide, by decide⟩ ?_
  refine jc_n (n2 := c + 21) (by omega) ?_
  refine jc_congr (cg := W0 c cf 11 [.ref (adr M (c + 1)), .ref (adr M (c + 2)), .int 0, .int 0, .int 0, .ref (adr M (c + 3)), .ref (adr M (c + 4)), .ref (adr M (c + 5)), .ref (adr M (c + 6)), .int 0, .ref (adr M (c + 7)), .ref (adr M (c + 8)), .ref (adr M (c + 9)), .ref (adr M (c + 10)), .ref (adr M (c + 11)), .ref (adr M (c + 12)), .ref (adr M (c + 13)), .ref (adr M (c + 14)), .ref (adr M (c + 15)), .ref (adr M (c + 16)), .ref (adr M (c + 17)), .ref (adr M (c + 18)), .ref (adr M (c + 19)), .null, .null, .int 0, .int 0, .int 0, .int 0, .int 0, .int 0, .int 0, .int 0, .int 0, .int 0, .null, .null, .null, .null, .int 0, .int 0] (va_up (celX M sg0) (c + 1) (.inl (M.2.1 13, 174, .inl fun _ => 0)))) (up_a (by omega) ((va_up_ne _ _ (by omega)).trans (celX_arr0 (sh_11_20 hc) (by decide) (by decide))) _) ?_
  refine jc_putF C (fs2 := [.ref (adr M (c + 1)), .ref (adr M (c + 2)), .int 0, .int 0, .int 0, .ref (adr M (c + 3)), .ref (adr M (c + 4)), .ref (adr M (c + 5)), .ref (adr M (c + 6)), .int 0, .ref (adr M (c + 7)), .ref (adr M (c + 8)), .ref (adr M (c + 9)), .ref (adr M (c + 10)), .ref (adr M (c + 11)), .ref (adr M (c + 12)), .ref (adr M (c + 13)), .ref (adr M (c + 14)), .ref (adr M (c + 15)), .ref (adr M (c + 16)), .ref (adr M (c + 17)), .ref (adr M (c + 18)), .ref (adr M (c + 19)), .ref (adr M (c + 20)), .null, .int 0, .int 0, .int 0, .int 0, .int 0, .int 0, .int 0, .int 0, .int 0, .int 0, .null, .null, .null, .null, .int 0, .int 0]) dX11_init_158 fl_RX11_68 ff_11_23 hin (by omega) (by omega) (Nat.le_of_ble_eq_true rfl) rfl rfl rfl ?_
  refine jc_aload_n C dX11_init_161 rfl ?_
  refine jc_bipush C (v := (25 : Int32)) dX11_init_162 (by decide) ?_
  refine jc_newa_z C hE (N := 25) dX11_init_164 ac_boolean (by omega) (hE.at hsz (by omega)) (by decide) (by decide) (by decide) ⟨by decide, by decide⟩ ?_
  refine jc_n (n2 := c + 22) (by omega) ?_
  refine jc_congr (cg := W0 c cf 11 [.ref (adr M (c + 1)), .ref (adr M (c + 2)), .int 0, .int 0, .int 0, .ref (adr M (c + 3)), .ref (adr M (c + 4)), .ref (adr M (c + 5)), .ref (adr M (c + 6)), .int 0, .ref (adr M (c + 7)), .ref (adr M (c + 8)), .ref (adr M (c + 9)), .ref (adr M (c + 10)), .ref (adr M (c + 11)), .ref (adr M (c + 12)), .ref (adr M (c + 13)), .ref (adr M (c + 14)), .ref (adr M (c + 15)), .ref (adr M (c + 16)), .ref (adr M (c + 17)), .ref (adr M (c + 18)), .ref (adr M (c + 19)), .ref (adr M (c + 20)), .null, .int 0, .int 0, .int 0, .int 0, .int 0, .int 0, .int 0, .int 0, .int 0, .int 0, .null, .null, .null, .null, .int 0, .int 0] (va_up (celX M sg0) (c + 1) (.inl (M.2.1 13, 174, .inl fun _ => 0)))) (up_a (by omega) ((va_up_ne _ _ (by omega)).trans (celX_arr0 (sh_11_21 hc) (by decide) (by decide))) _) ?_
  refine jc_putF C (fs2 := [.ref (adr M (c + 1)), .ref (adr M (c + 2)), .int 0, .int 0, .int 0, .ref (adr M (c + 3)), .ref (adr M (c + 4)), .ref (adr M (c + 5)), .ref (adr M (c + 6)), .int 0, .ref (adr M (c + 7)), .ref (adr M (c + 8)), .ref (adr M (c + 9)), .ref (adr M (c + 10)), .ref (adr M (c + 11)), .ref (adr M (c + 12)), .ref (adr M (c + 13)), .ref (adr M (c + 14)), .ref (adr M (c + 15)), .ref (adr M (c + 16)), .ref (adr M (c + 17)), .ref (adr M (c + 18)), .ref (adr M (c + 19)), .ref (adr M (c + 20)), .ref (adr M (c + 21)), .int 0, .int 0, .int 0, .int 0, .int 0, .int 0, .int 0, .int 0, .int 0, .int 0, .null, .null, .null, .null, .int 0, .int 0]) dX11_init_166 fl_RX11_71 ff_11_24 hin (by omega) (by omega) (Nat.le_of_ble_eq_true rfl) rfl rfl rfl ?_
  refine jc_aload_n C dX11_init_169 rfl ?_
  refine jc_bipush C (v := (42 : Int32)) dX11_init_170 (by decide) ?_
  refine jc_newa_i C hE (N := 42) dX11_init_172 ac_int (by omega) (hE.at hsz (by omega)) (by decide) (by decide) (by decide) ⟨by decide, by decide⟩ ?_
  refine jc_n (n2 := c + 23) (by omega) ?_
  refine jc_congr (cg := W0 c cf 11 [.ref (adr M (c + 1)), .ref (adr M (c + 2)), .int 0, .int 0, .int 0, .ref (adr M (c + 3)), .ref (adr M (c + 4)), .ref (adr M (c + 5)), .ref (adr M (c + 6)), .int 0, .ref (adr M (c + 7)), .ref (adr M (c + 8)), .ref (adr M (c + 9)), .ref (adr M (c + 10)), .ref (adr M (c + 11)), .ref (adr M (c + 12)), .ref (adr M (c + 13)), .ref (adr M (c + 14)), .ref (adr M (c + 15)), .ref (adr M (c + 16)), .ref (adr M (c + 17)), .ref (adr M (c + 18)), .ref (adr M (c + 19)), .ref (adr M (c + 20)), .ref (adr M (c + 21)), .int 0, .int 0, .int 0, .int 0, .int 0, .int 0, .int 0, .int 0, .int 0, .int 0, .null, .null, .null, .null, .int 0, .int 0] (va_up (celX M sg0) (c + 1) (.inl (M.2.1 13, 174, .inl fun _ => 0)))) (up_a (by omega) ((va_up_ne _ _ (by omega)).trans (celX_arr0 (sh_11_22 hc) (by decide) (by decide))) _) ?_
  refine jc_putF C (fs2 := [.ref (adr M (c + 1)), .ref (adr M (c + 2)), .int 0, .int 0, .int 0, .ref (adr M (c + 3)), .ref (adr M (c + 4)), .ref (adr M (c + 5)), .ref (adr M (c + 6)), .int 0, .ref (adr M (c + 7)), .ref (adr M (c + 8)), .ref (adr M (c + 9)), .ref (adr M (c + 10)), .ref (adr M (c + 11)), .ref (adr M (c + 12)), .ref (adr M (c + 13)), .ref (adr M (c + 14)), .ref (adr M (c + 15)), .ref (adr M (c + 16)), .ref (adr M (c + 17)), .ref (adr M (c + 18)), .ref (adr M (c + 19)), .ref (adr M (c + 20)), .ref (adr M (c + 21)), .int 0, .int 0, .int 0, .int 0, .int 0, .int 0, .int 0, .int 0, .int 0, .int 0, .ref (adr M (c + 22)), .null, .null, .null, .int 0, .int 0]) dX11_init_174 fl_RX11_74 ff_11_35 hin (by omega) (by omega) (Nat.le_of_ble_eq_true rfl) rfl rfl rfl ?_
  refine jc_aload_n C dX11_init_177 rfl ?_
  refine jc_bipush C (v := (42 : Int32)) dX11_init_178 (by decide) ?_
  refine jc_newa_i C hE (N := 42) dX11_init_180 ac_int (by omega) (hE.at hsz (by omega)) (by decide) (by decide) (by decide) ⟨by decide, by decide⟩ ?_
  refine jc_n (n2 := c + 24) (by omega) ?_
  refine jc_congr (cg := W0 c cf 11 [.ref (adr M (c + 1)), .ref (adr M (c + 2)), .int 0, .int 0, .int 0, .ref (adr M (c + 3)), .ref (adr M (c + 4)), .ref (adr M (c + 5)), .ref (adr M (c + 6)), .int 0, .ref (adr M (c + 7)), .ref (adr M (c + 8)), .ref (adr M (c + 9)), .ref (adr M (c + 10)), .ref (adr M (c + 11)), .ref (adr M (c + 12)), .ref (adr M (c + 13)), .ref (adr M (c + 14)), .ref (adr M (c + 15)), .ref (adr M (c + 16)), .ref (adr M (c + 17)), .ref (adr M (c + 18)), .ref (adr M (c + 19)), .ref (adr M (c + 20)), .ref (adr M (c + 21)), .int 0, .int 0, .int 0, .int 0, .int 0, .int 0, .int 0, .int 0, .int 0, .int 0, .ref (adr M (c + 22)), .null, .null, .null, .int 0, .int 0] (va_up (celX M sg0) (c + 1) (.inl (M.2.1 13, 174, .inl fun _ => 0)))) (up_a (by omega) ((va_up_ne _ _ (by omega)).trans (celX_arr0 (sh_11_23 hc) (by decide) (by decide))) _) ?_
  refine jc_putF C (fs2 := [.ref (adr M (c + 1)), .ref (adr M (c + 2)), .int 0, .int 0, .int 0, .ref (adr M (c + 3)), .ref (adr M (c + 4)), .ref (adr M (c + 5)), .ref (adr M (c + 6)), .int 0, .ref (adr M (c + 7)), .ref (adr M (c + 8)), .ref (adr M (c + 9)), .ref (adr M (c + 10)), .ref (adr M (c + 11)), .ref (adr M (c + 12)), .ref (adr M (c + 13)), .ref (adr M (c + 14)), .ref (adr M (c + 15)), .ref (adr M (c + 16)), .ref (adr M (c + 17)), .ref (adr M (c + 18)), .ref (adr M (c + 19)), .ref (adr M (c + 20)), .ref (adr M (c + 21)), .int 0, .int 0, .int 0, .int 0, .int 0, .int 0, .int 0, .int 0, .int 0, .int 0, .ref (adr M (c + 22)), .ref (adr M (c + 23)), .null, .null, .int 0, .int 0]) dX11_init_182 fl_RX11_77 ff_11_36 hin (by omega) (by omega) (Nat.le_of_ble_eq_true rfl) rfl rfl rfl ?_
  refine jc_aload_n C dX11_init_185 rfl ?_
  refine jc_bipush C (v := (42 : Int32)) dX11_init_186 (by decide) ?_
  refine jc_newa_i C hE (N := 42) dX11_init_188 ac_int (by omega) (hE.at hsz (by omega)) (by decide) (by decide) (by decide) ⟨by decide, by decide⟩ ?_
  refine jc_n (n2 := c + 25) (by omega) ?_
  refine jc_congr (cg := W0 c cf 11 [.ref (adr M (c + 1)), .ref (adr M (c + 2)), .int 0, .int 0, .int 0, .ref (adr M (c + 3)), .ref (adr M (c + 4)), .ref (adr M (c + 5)), .ref (adr M (c + 6)), .int 0, .ref (adr M (c + 7)), .ref (adr M (c + 8)), .ref (adr M (c + 9)), .ref (adr M (c + 10)), .ref (adr M (c + 11)), .ref (adr M (c + 12)), .ref (adr M (c + 13)), .ref (adr M (c + 14)), .ref (adr M (c + 15)), .ref (adr M (c + 16)), .ref (adr M (c + 17)), .ref (adr M (c + 18)), .ref (adr M (c + 19)), .ref (adr M (c + 20)), .ref (adr M (c + 21)), .int 0, .int 0, .int 0, .int 0, .int 0, .int 0, .int 0, .int 0, .int 0, .int 0, .ref (adr M (c + 22)), .ref (adr M (c + 23)), .null, .null, .int 0, .int 0] (va_up (celX M sg0) (c + 1) (.inl (M.2.1 13, 174, .inl fun _ => 0)))) (up_a (by omega) ((va_up_ne _ _ (by omega)).trans (celX_arr0 (sh_11_24 hc) (by decide) (by decide))) _) ?_
  refine jc_putF C (fs2 := [.ref (adr M (c + 1)), .ref (adr M (c + 2)), .int 0, .int 0, .int 0, .ref (adr M (c + 3)), .ref (adr M (c + 4)), .ref (adr M (c + 5)), .ref (adr M (c + 6)), .int 0, .ref (adr M (c + 7)), .ref (adr M (c + 8)), .ref (adr M (c + 9)), .ref (adr M (c + 10)), .ref (adr M (c + 11)), .ref (adr M (c + 12)), .ref (adr M (c + 13)), .ref (adr M (c + 14)), .ref (adr M (c + 15)), .ref (adr M (c + 16)), .ref (adr M (c + 17)), .ref (adr M (c + 18)), .ref (adr M (c + 19)), .ref (adr M (c + 20)), .ref (adr M (c + 21)), .int 0, .int 0, .int 0, .int 0, .int 0, .int 0, .int 0, .int 0, .int 0, .int 0, .ref (adr M (c + 22)), .ref (adr M (c + 23)), .ref (adr M (c + 24)), .null, .int 0, .int 0]) dX11_init_190 fl_RX11_80 ff_11_37 hin (by omega) (by omega) (Nat.le_of_ble_eq_true rfl) rfl rfl rfl ?_
  refine jc_aload_n C dX11_init_193 rfl ?_
  refine jc_bipush C (v := (42 : Int32)) dX11_init_194 (by decide) ?_
  refine jc_newa_i C hE (N := 42) dX11_init_196 ac_int (by omega) (hE.at hsz (by omega)) (by decide) (by decide) (by decide) ⟨by decide, by decide⟩ ?_
  refine jc_n (n2 := c + 26) (by omega) ?_
  refine jc_congr (cg := W0 c cf 11 [.ref (adr M (c + 1)), .ref (adr M (c + 2)), .int 0, .int 0, .int 0, .ref (adr M (c + 3)), .ref (adr M (c + 4)), .ref (adr M (c + 5)), .ref (adr M (c + 6)), .int 0, .ref (adr M (c + 7)), .ref (adr M (c + 8)), .ref (adr M (c + 9)), .ref (adr M (c + 10)), .ref (adr M (c + 11)), .ref (adr M (c + 12)), .ref (adr M (c + 13)), .ref (adr M (c + 14)), .ref (adr M (c + 15)), .ref (adr M (c + 16)), .ref (adr M (c + 17)), .ref (adr M (c + 18)), .ref (adr M (c + 19)), .ref (adr M (c + 20)), .ref (adr M (c + 21)), .int 0, .int 0, .int 0, .int 0, .int 0, .int 0, .int 0, .int 0, .int 0, .int 0, .ref (adr M (c + 22)), .ref (adr M (c + 23)), .ref (adr M (c + 24)), .null, .int 0, .int 0] (va_up (celX M sg0) (c + 1) (.inl (M.2.1 13, 174, .inl fun _ => 0)))) (up_a (by omega) ((va_up_ne _ _ (by omega)).trans (celX_arr0 (sh_11_25 hc) (by decide) (by decide))) _) ?_
  refine jc_putF C (fs2 := [.ref (adr M (c + 1)), .ref (adr M (c + 2)), .int 0, .int 0, .int 0, .ref (adr M (c + 3)), .ref (adr M (c + 4)), .ref (adr M (c + 5)), .ref (adr M (c + 6)), .int 0, .ref (adr M (c + 7)), .ref (adr M (c + 8)), .ref (adr M (c + 9)), .ref (adr M (c + 10)), .ref (adr M (c + 11)), .ref (adr M (c + 12)), .ref (adr M (c + 13)), .ref (adr M (c + 14)), .ref (adr M (c + 15)), .ref (adr M (c + 16)), .ref (adr M (c + 17)), .ref (adr M (c + 18)), .ref (adr M (c + 19)), .ref (adr M (c + 20)), .ref (adr M (c + 21)), .int 0, .int 0, .int 0, .int 0, .int 0, .int 0, .int 0, .int 0, .int 0, .int 0, .ref (adr M (c + 22)), .ref (adr M (c + 23)), .ref (adr M (c + 24)), .ref (adr M (c + 25)), .int 0, .int 0]) dX11_init_198 fl_RX11_83 ff_11_38 hin (by omega) (by omega) (Nat.le_of_ble_eq_true rfl) rfl rfl rfl ?_
  refine jc_aload_n C dX11_init_201 rfl ?_
  refine jc_get C (v := .ref (adr M (c + 1))) dX11_init_202 fl_RX11_7 (by omega) W0_self rfl ?_
  refine jc_iconst C (v := (0 : Int32)) dX11_init_205 (by decide) ?_
  refine jc_iconst C (v := (3 : Int32)) dX11_init_206 (by decide) ?_
  refine jc_iast2 C (a := c + 1) (N := 174) (f := fun _ => 0) (f2 := upd (fun _ => 0) 0 3) dX11_init_207 (by omega) (by omega) (by omega) (by decide) (by rw [show ((0 : Int32)).toNatClampNeg = 0 from by decide]) ?_
  refine jc_iconst C (v := (0 : Int32)) dX11_init_208 (by decide) ?_
  refine jc_istore_n C (Ls' := [(1, .int (0 : Int32)), (0, .ref (adr M c))]) dX11_init_209 (by decide) rfl ?_
  refine jc_iload_n C dX11_init_210 rfl ?_
  refine jc_bipush C (v := (7 : Int32)) dX11_init_211 (by decide) ?_
  refine jc_ge_f C (tgt := 232) dX11_init_213 (by decide) (by decide) ?_
  refine jc_aload_n C dX11_init_216 rfl ?_
  refine jc_get C (v := .ref (adr M (c + 1))) dX11_init_217 fl_RX11_7 (by omega) W0_self rfl ?_
  refine jc_iconst C (v := (1 : Int32)) dX11_init_220 (by decide) ?_
  refine jc_iload_n C dX11_init_221 rfl ?_
  refine jc_iadd C (v := (1 : Int32)) dX11_init_222 (by decide) ?_
  refine jc_bipush C (v := (10 : Int32)) dX11_init_223 (by decide) ?_
  rw [← flx_0 1 10 (upd (fun _ => 0) 0 3)]
  refine jc_iast2 C (a := c + 1) (N := 174) (f := flx 1 0 10 (upd (fun _ => 0) 0 3)) (f2 := flx 1 1 10 (upd (fun _ => 0) 0 3)) dX11_init_225 (by omega) (by omega) (by omega) (by decide) (by rw [show ((1 : Int32)).toNatClampNeg = 1 + 0 from by decide]; exact flx_s _ _ _ _) ?_
  refine jc_iinc C (v := (1 : Int32)) (Ls' := [(1, .int (1 : Int32)), (0, .ref (adr M c))]) dX11_init_226 0 rfl (by decide) (by decide) rfl ?_
  refine jc_goto C (tgt := 210) dX11_init_229 (by decide) ?_
  refine jc_iload_n C dX11_init_210 rfl ?_
  refine jc_bipush C (v := (7 : Int32)) dX11_init_211 (by decide) ?_
  refine jc_ge_f C (tgt := 232) dX11_init_213 (by decide) (by decide) ?_
  refine jc_aload_n C dX11_init_216 rfl ?_
  refine jc_get C (v := .ref (adr M (c + 1))) dX11_init_217 fl_RX11_7 (by omega) W0_self rfl ?_
  refine jc_iconst C (v := (1 : Int32)) dX11_init_220 (by decide) ?_
  refine jc_iload_n C dX11_init_221 rfl ?_
  refine jc_iadd C (v := (2 : Int32)) dX11_init_222 (by decide) ?_
  refine jc_bipush C (v := (10 : Int32)) dX11_init_223 (by decide) ?_
  refine jc_iast2 C (a := c + 1) (N := 174) (f := flx 1 1 10 (upd (fun _ => 0) 0 3)) (f2 := flx 1 2 10 (upd (fun _ => 0) 0 3)) dX11_init_225 (by omega) (by omega) (by omega) (by decide) (by rw [show ((2 : Int32)).toNatClampNeg = 1 + 1 from by decide]; exact flx_s _ _ _ _) ?_
  refine jc_iinc C (v := (2 : Int32)) (Ls' := [(1, .int (2 : Int32)), (0, .ref (adr M c))]) dX11_init_226 0 rfl (by decide) (by decide) rfl ?_
  refine jc_goto C (tgt := 210) dX11_init_229 (by decide) ?_
  refine jc_iload_n C dX11_init_210 rfl ?_
  refine jc_bipush C (v := (7 : Int32)) dX11_init_211 (by decide) ?_
  refine jc_ge_f C (tgt := 232) dX11_init_213 (by decide) (by decide) ?_
  refine jc_aload_n C dX11_init_216 rfl ?_
  refine jc_get C (v := .ref (adr M (c + 1))) dX11_init_217 fl_RX11_7 (by omega) W0_self rfl ?_
  refine jc_iconst C (v := (1 : Int32)) dX11_init_220 (by decide) ?_
  refine jc_iload_n C dX11_init_221 rfl ?_
  refine jc_iadd C (v := (3 : Int32)) dX11_init_222 (by decide) ?_
  refine jc_bipush C (v := (10 : Int32)) dX11_init_223 (by decide) ?_
  refine jc_iast2 C (a := c + 1) (N := 174) (f := flx 1 2 10 (upd (fun _ => 0) 0 3)) (f2 := flx 1 3 10 (upd (fun _ => 0) 0 3)) dX11_init_225 (by omega) (by omega) (by omega) (by decide) (by rw [show ((3 : Int32)).toNatClampNeg = 1 + 2 from by decide]; exact flx_s _ _ _ _) ?_
  refine jc_iinc C (v := (3 : Int32)) (Ls' := [(1, .int (3 : Int32)), (0, .ref (adr M c))]) dX11_init_226 0 rfl (by decide) (by decide) rfl ?_
  refine jc_goto C (tgt := 210) dX11_init_229 (by decide) ?_
  refine jc_iload_n C dX11_init_210 rfl ?_
  refine jc_bipush C (v := (7 : Int32)) dX11_init_211 (by decide) ?_
  refine jc_ge_f C (tgt := 232) dX11_init_213 (by decide) (by decide) ?_
  refine jc_aload_n C dX11_init_216 rfl ?_
  refine jc_get C (v := .ref (adr M (c + 1))) dX11_init_217 fl_RX11_7 (by omega) W0_self rfl ?_
  refine jc_iconst C (v := (1 : Int32)) dX11_init_220 (by decide) ?_
  refine jc_iload_n C dX11_init_221 rfl ?_
  refine jc_iadd C (v := (4 : Int32)) dX11_init_222 (by decide) ?_
  refine jc_bipush C (v := (10 : Int32)) dX11_init_223 (by decide) ?_
  refine jc_iast2 C (a := c + 1) (N := 174) (f := flx 1 3 10 (upd (fun _ => 0) 0 3)) (f2 := flx 1 4 10 (upd (fun _ => 0) 0 3)) dX11_init_225 (by omega) (by omega) (by omega) (by decide) (by rw [show ((4 : Int32)).toNatClampNeg = 1 + 3 from by decide]; exact flx_s _ _ _ _) ?_
  refine jc_iinc C (v := (4 : Int32)) (Ls' := [(1, .int (4 : Int32)), (0, .ref (adr M c))]) dX11_init_226 0 rfl (by decide) (by decide) rfl ?_
  refine jc_goto C (tgt := 210) dX11_init_229 (by decide) ?_
  refine jc_iload_n C dX11_init_210 rfl ?_
  refine jc_bipush C (v := (7 : Int32)) dX11_init_211 (by decide) ?_
  refine jc_ge_f C (tgt := 232) dX11_init_213 (by decide) (by decide) ?_
  refine jc_aload_n C dX11_init_216 rfl ?_
  refine jc_get C (v := .ref (adr M (c + 1))) dX11_init_217 fl_RX11_7 (by omega) W0_self rfl ?_
  refine jc_iconst C (v := (1 : Int32)) dX11_init_220 (by decide) ?_
  refine jc_iload_n C dX11_init_221 rfl ?_
  refine jc_iadd C (v := (5 : Int32)) dX11_init_222 (by decide) ?_
  refine jc_bipush C (v := (10 : Int32)) dX11_init_223 (by decide) ?_
  refine jc_iast2 C (a := c + 1) (N := 174) (f := flx 1 4 10 (upd (fun _ => 0) 0 3)) (f2 := flx 1 5 10 (upd (fun _ => 0) 0 3)) dX11_init_225 (by omega) (by omega) (by omega) (by decide) (by rw [show ((5 : Int32)).toNatClampNeg = 1 + 4 from by decide]; exact flx_s _ _ _ _) ?_
  refine jc_iinc C (v := (5 : Int32)) (Ls' := [(1, .int (5 : Int32)), (0, .ref (adr M c))]) dX11_init_226 0 rfl (by decide) (by decide) rfl ?_
  refine jc_goto C (tgt := 210) dX11_init_229 (by decide) ?_
  refine jc_iload_n C dX11_init_210 rfl ?_
  refine jc_bipush C (v := (7 : Int32)) dX11_init_211 (by decide) ?_
  refine jc_ge_f C (tgt := 232) dX11_init_213 (by decide) (by decide) ?_
  refine jc_aload_n C dX11_init_216 rfl ?_
  refine jc_get C (v := .ref (adr M (c + 1))) dX11_init_217 fl_RX11_7 (by omega) W0_self rfl ?_
  refine jc_iconst C (v := (1 : Int32)) dX11_init_220 (by decide) ?_
  refine jc_iload_n C dX11_init_221 rfl ?_
  refine jc_iadd C (v := (6 : Int32)) dX11_init_222 (by decide) ?_
  refine jc_bipush C (v := (10 : Int32)) dX11_init_223 (by decide) ?_
  refine jc_iast2 C (a := c + 1) (N := 174) (f := flx 1 5 10 (upd (fun _ => 0) 0 3)) (f2 := flx 1 6 10 (upd (fun _ => 0) 0 3)) dX11_init_225 (by omega) (by omega) (by omega) (by decide) (by rw [show ((6 : Int32)).toNatClampNeg = 1 + 5 from by decide]; exact flx_s _ _ _ _) ?_
  refine jc_iinc C (v := (6 : Int32)) (Ls' := [(1, .int (6 : Int32)), (0, .ref (adr M c))]) dX11_init_226 0 rfl (by decide) (by decide) rfl ?_
  refine jc_goto C (tgt := 210) dX11_init_229 (by decide) ?_
  refine jc_iload_n C dX11_init_210 rfl ?_
  refine jc_bipush C (v := (7 : Int32)) dX11_init_211 (by decide) ?_
  refine jc_ge_f C (tgt := 232) dX11_init_213 (by decide) (by decide) ?_
  refine jc_aload_n C dX11_init_216 rfl ?_
  refine jc_get C (v := .ref (adr M (c + 1))) dX11_init_217 fl_RX11_7 (by omega) W0_self rfl ?_
  refine jc_iconst C (v := (1 : Int32)) dX11_init_220 (by decide) ?_
  refine jc_iload_n C dX11_init_221 rfl ?_
  refine jc_iadd C (v := (7 : Int32)) dX11_init_222 (by decide) ?_
  refine jc_bipush C (v := (10 : Int32)) dX11_init_223 (by decide) ?_
  refine jc_iast2 C (a := c + 1) (N := 174) (f := flx 1 6 10 (upd (fun _ => 0) 0 3)) (f2 := flx 1 7 10 (upd (fun _ => 0) 0 3)) dX11_init_225 (by omega) (by omega) (by omega) (by decide) (by rw [show ((7 : Int32)).toNatClampNeg = 1 + 6 from by decide]; exact flx_s _ _ _ _) ?_
  refine jc_iinc C (v := (7 : Int32)) (Ls' := [(1, .int (7 : Int32)), (0, .ref (adr M c))]) dX11_init_226 0 rfl (by decide) (by decide) rfl ?_
  refine jc_goto C (tgt := 210) dX11_init_229 (by decide) ?_
  refine jc_iload_n C dX11_init_210 rfl ?_
  refine jc_bipush C (v := (7 : Int32)) dX11_init_211 (by decide) ?_
  refine jc_ge_t C (tgt := 232) dX11_init_213 (by decide) (by decide) ?_
  refine jc_iconst C (v := (0 : Int32)) dX11_init_232 (by decide) ?_
  refine jc_istore_n C (Ls' := [(1, .int (0 : Int32)), (0, .ref (adr M c))]) dX11_init_233 (by decide) rfl ?_
  refine jc_iload_n C dX11_init_234 rfl ?_
  refine jc_bipush C (v := (6 : Int32)) dX11_init_235 (by decide) ?_
  refine jc_ge_f C (tgt := 257) dX11_init_237 (by decide) (by decide) ?_
  refine jc_aload_n C dX11_init_240 rfl ?_
  refine jc_get C (v := .ref (adr M (c + 1))) dX11_init_241 fl_RX11_7 (by omega) W0_self rfl ?_
  refine jc_bipush C (v := (8 : Int32)) dX11_init_244 (by decide) ?_
  refine jc_iload_n C dX11_init_246 rfl ?_
  refine jc_iadd C (v := (8 : Int32)) dX11_init_247 (by decide) ?_
  refine jc_bipush C (v := (10 : Int32)) dX11_init_248 (by decide) ?_
  rw [← flx_0 8 10 (flx 1 7 10 (upd (fun _ => 0) 0 3))]
  refine jc_iast2 C (a := c + 1) (N := 174) (f := flx 8 0 10 (flx 1 7 10 (upd (fun _ => 0) 0 3))) (f2 := flx 8 1 10 (flx 1 7 10 (upd (fun _ => 0) 0 3))) dX11_init_250 (by omega) (by omega) (by omega) (by decide) (by rw [show ((8 : Int32)).toNatClampNeg = 8 + 0 from by decide]; exact flx_s _ _ _ _) ?_
  refine jc_iinc C (v := (1 : Int32)) (Ls' := [(1, .int (1 : Int32)), (0, .ref (adr M c))]) dX11_init_251 0 rfl (by decide) (by decide) rfl ?_
  refine jc_goto C (tgt := 234) dX11_init_254 (by decide) ?_
  refine jc_iload_n C dX11_init_234 rfl ?_
  refine jc_bipush C (v := (6 : Int32)) dX11_init_235 (by decide) ?_
  refine jc_ge_f C (tgt := 257) dX11_init_237 (by decide) (by decide) ?_
  refine jc_aload_n C dX11_init_240 rfl ?_
  refine jc_get C (v := .ref (adr M (c + 1))) dX11_init_241 fl_RX11_7 (by omega) W0_self rfl ?_
  refine jc_bipush C (v := (8 : Int32)) dX11_init_244 (by decide) ?_
  refine jc_iload_n C dX11_init_246 rfl ?_
  refine jc_iadd C (v := (9 : Int32)) dX11_init_247 (by decide) ?_
  refine jc_bipush C (v := (10 : Int32)) dX11_init_248 (by decide) ?_
  refine jc_iast2 C (a := c + 1) (N := 174) (f := flx 8 1 10 (flx 1 7 10 (upd (fun _ => 0) 0 3))) (f2 := flx 8 2 10 (flx 1 7 10 (upd (fun _ => 0) 0 3))) dX11_init_250 (by omega) (by omega) (by omega) (by decide) (by rw [show ((9 : Int32)).toNatClampNeg = 8 + 1 from by decide]; exact flx_s _ _ _ _) ?_
  refine jc_iinc C (v := (2 : Int32)) (Ls' := [(1, .int (2 : Int32)), (0, .ref (adr M c))]) dX11_init_251 0 rfl (by decide) (by decide) rfl ?_
  refine jc_goto C (tgt := 234) dX11_init_254 (by decide) ?_
  refine jc_iload_n C dX11_init_234 rfl ?_
  refine jc_bipush C (v := (6 : Int32)) dX11_init_235 (by decide) ?_
  refine jc_ge_f C (tgt := 257) dX11_init_237 (by decide) (by decide) ?_
  refine jc_aload_n C dX11_init_240 rfl ?_
  refine jc_get C (v := .ref (adr M (c + 1))) dX11_init_241 fl_RX11_7 (by omega) W0_self rfl ?_
  refine jc_bipush C (v := (8 : Int32)) dX11_init_244 (by decide) ?_
  refine jc_iload_n C dX11_init_246 rfl ?_
  refine jc_iadd C (v := (10 : Int32)) dX11_init_247 (by decide) ?_
  refine jc_bipush C (v := (10 : Int32)) dX11_init_248 (by decide) ?_
  refine jc_iast2 C (a := c + 1) (N := 174) (f := flx 8 2 10 (flx 1 7 10 (upd (fun _ => 0) 0 3))) (f2 := flx 8 3 10 (flx 1 7 10 (upd (fun _ => 0) 0 3))) dX11_init_250 (by omega) (by omega) (by omega) (by decide) (by rw [show ((10 : Int32)).toNatClampNeg = 8 + 2 from by decide]; exact flx_s _ _ _ _) ?_
  refine jc_iinc C (v := (3 : Int32)) (Ls' := [(1, .int (3 : Int32)), (0, .ref (adr M c))]) dX11_init_251 0 rfl (by decide) (by decide) rfl ?_
  refine jc_goto C (tgt := 234) dX11_init_254 (by decide) ?_
  refine jc_iload_n C dX11_init_234 rfl ?_
  refine jc_bipush C (v := (6 : Int32)) dX11_init_235 (by decide) ?_
  refine jc_ge_f C (tgt := 257) dX11_init_237 (by decide) (by decide) ?_
  refine jc_aload_n C dX11_init_240 rfl ?_
  refine jc_get C (v := .ref (adr M (c + 1))) dX11_init_241 fl_RX11_7 (by omega) W0_self rfl ?_
  refine jc_bipush C (v := (8 : Int32)) dX11_init_244 (by decide) ?_
  refine jc_iload_n C dX11_init_246 rfl ?_
  refine jc_iadd C (v := (11 : Int32)) dX11_init_247 (by decide) ?_
  refine jc_bipush C (v := (10 : Int32)) dX11_init_248 (by decide) ?_
  refine jc_iast2 C (a := c + 1) (N := 174) (f := flx 8 3 10 (flx 1 7 10 (upd (fun _ => 0) 0 3))) (f2 := flx 8 4 10 (flx 1 7 10 (upd (fun _ => 0) 0 3))) dX11_init_250 (by omega) (by omega) (by omega) (by decide) (by rw [show ((11 : Int32)).toNatClampNeg = 8 + 3 from by decide]; exact flx_s _ _ _ _) ?_
  refine jc_iinc C (v := (4 : Int32)) (Ls' := [(1, .int (4 : Int32)), (0, .ref (adr M c))]) dX11_init_251 0 rfl (by decide) (by decide) rfl ?_
  refine jc_goto C (tgt := 234) dX11_init_254 (by decide) ?_
  refine jc_iload_n C dX11_init_234 rfl ?_
  refine jc_bipush C (v := (6 : Int32)) dX11_init_235 (by decide) ?_
  refine jc_ge_f C (tgt := 257) dX11_init_237 (by decide) (by decide) ?_
  refine jc_aload_n C dX11_init_240 rfl ?_
  refine jc_get C (v := .ref (adr M (c + 1))) dX11_init_241 fl_RX11_7 (by omega) W0_self rfl ?_
  refine jc_bipush C (v := (8 : Int32)) dX11_init_244 (by decide) ?_
  refine jc_iload_n C dX11_init_246 rfl ?_
  refine jc_iadd C (v := (12 : Int32)) dX11_init_247 (by decide) ?_
  refine jc_bipush C (v := (10 : Int32)) dX11_init_248 (by decide) ?_
  refine jc_iast2 C (a := c + 1) (N := 174) (f := flx 8 4 10 (flx 1 7 10 (upd (fun _ => 0) 0 3))) (f2 := flx 8 5 10 (flx 1 7 10 (upd (fun _ => 0) 0 3))) dX11_init_250 (by omega) (by omega) (by omega) (by decide) (by rw [show ((12 : Int32)).toNatClampNeg = 8 + 4 from by decide]; exact flx_s _ _ _ _) ?_
  refine jc_iinc C (v := (5 : Int32)) (Ls' := [(1, .int (5 : Int32)), (0, .ref (adr M c))]) dX11_init_251 0 rfl (by decide) (by decide) rfl ?_
  refine jc_goto C (tgt := 234) dX11_init_254 (by decide) ?_
  refine jc_iload_n C dX11_init_234 rfl ?_
  refine jc_bipush C (v := (6 : Int32)) dX11_init_235 (by decide) ?_
  refine jc_ge_f C (tgt := 257) dX11_init_237 (by decide) (by decide) ?_
  refine jc_aload_n C dX11_init_240 rfl ?_
  refine jc_get C (v := .ref (adr M (c + 1))) dX11_init_241 fl_RX11_7 (by omega) W0_self rfl ?_
  refine jc_bipush C (v := (8 : Int32)) dX11_init_244 (by decide) ?_
  refine jc_iload_n C dX11_init_246 rfl ?_
  refine jc_iadd C (v := (13 : Int32)) dX11_init_247 (by decide) ?_
  refine jc_bipush C (v := (10 : Int32)) dX11_init_248 (by decide) ?_
  refine jc_iast2 C (a := c + 1) (N := 174) (f := flx 8 5 10 (flx 1 7 10 (upd (fun _ => 0) 0 3))) (f2 := flx 8 6 10 (flx 1 7 10 (upd (fun _ => 0) 0 3))) dX11_init_250 (by omega) (by omega) (by omega) (by decide) (by rw [show ((13 : Int32)).toNatClampNeg = 8 + 5 from by decide]; exact flx_s _ _ _ _) ?_
  refine jc_iinc C (v := (6 : Int32)) (Ls' := [(1, .int (6 : Int32)), (0, .ref (adr M c))]) dX11_init_251 0 rfl (by decide) (by decide) rfl ?_
  refine jc_goto C (tgt := 234) dX11_init_254 (by decide) ?_
  refine jc_iload_n C dX11_init_234 rfl ?_
  refine jc_bipush C (v := (6 : Int32)) dX11_init_235 (by decide) ?_
  refine jc_ge_t C (tgt := 257) dX11_init_237 (by decide) (by decide) ?_
  refine jc_iconst C (v := (0 : Int32)) dX11_init_257 (by decide) ?_
  refine jc_istore_n C (Ls' := [(1, .int (0 : Int32)), (0, .ref (adr M c))]) dX11_init_258 (by decide) rfl ?_
  refine jc_iload_n C dX11_init_259 rfl ?_
  refine jc_bipush C (v := (60 : Int32)) dX11_init_260 (by decide) ?_
  refine jc_ge_f C (tgt := 281) dX11_init_262 (by decide) (by decide) ?_
  refine jc_aload_n C dX11_init_265 rfl ?_
  refine jc_get C (v := .ref (adr M (c + 1))) dX11_init_266 fl_RX11_7 (by omega) W0_self rfl ?_
  refine jc_bipush C (v := (101 : Int32)) dX11_init_269 (by decide) ?_
  refine jc_iload_n C dX11_init_271 rfl ?_
  refine jc_iadd C (v := (101 : Int32)) dX11_init_272 (by decide) ?_
  refine jc_iconst C (v := (-1 : Int32)) dX11_init_273 (by decide) ?_
  rw [← flx_0 101 (-1) (flx 8 6 10 (flx 1 7 10 (upd (fun _ => 0) 0 3)))]
  refine jc_iast2 C (a := c + 1) (N := 174) (f := flx 101 0 (-1) (flx 8 6 10 (flx 1 7 10 (upd (fun _ => 0) 0 3)))) (f2 := flx 101 1 (-1) (flx 8 6 10 (flx 1 7 10 (upd (fun _ => 0) 0 3)))) dX11_init_274 (by omega) (by omega) (by omega) (by decide) (by rw [show ((101 : Int32)).toNatClampNeg = 101 + 0 from by decide]; exact flx_s _ _ _ _) ?_
  refine jc_iinc C (v := (1 : Int32)) (Ls' := [(1, .int (1 : Int32)), (0, .ref (adr M c))]) dX11_init_275 0 rfl (by decide) (by decide) rfl ?_
  refine jc_goto C (tgt := 259) dX11_init_278 (by decide) ?_
  refine jc_iload_n C dX11_init_259 rfl ?_
  refine jc_bipush C (v := (60 : Int32)) dX11_init_260 (by decide) ?_
  refine jc_ge_f C (tgt := 281) dX11_init_262 (by decide) (by decide) ?_
  refine jc_aload_n C dX11_init_265 rfl ?_
  refine jc_get C (v := .ref (adr M (c + 1))) dX11_init_266 fl_RX11_7 (by omega) W0_self rfl ?_
  refine jc_bipush C (v := (101 : Int32)) dX11_init_269 (by decide) ?_
  refine jc_iload_n C dX11_init_271 rfl ?_
  refine jc_iadd C (v := (102 : Int32)) dX11_init_272 (by decide) ?_
  refine jc_iconst C (v := (-1 : Int32)) dX11_init_273 (by decide) ?_
  refine jc_iast2 C (a := c + 1) (N := 174) (f := flx 101 1 (-1) (flx 8 6 10 (flx 1 7 10 (upd (fun _ => 0) 0 3)))) (f2 := flx 101 2 (-1) (flx 8 6 10 (flx 1 7 10 (upd (fun _ => 0) 0 3)))) dX11_init_274 (by omega) (by omega) (by omega) (by decide) (by rw [show ((102 : Int32)).toNatClampNeg = 101 + 1 from by decide]; exact flx_s _ _ _ _) ?_
  refine jc_iinc C (v := (2 : Int32)) (Ls' := [(1, .int (2 : Int32)), (0, .ref (adr M c))]) dX11_init_275 0 rfl (by decide) (by decide) rfl ?_
  refine jc_goto C (tgt := 259) dX11_init_278 (by decide) ?_
  refine jc_iload_n C dX11_init_259 rfl ?_
  refine jc_bipush C (v := (60 : Int32)) dX11_init_260 (by decide) ?_
  refine jc_ge_f C (tgt := 281) dX11_init_262 (by decide) (by decide) ?_
  refine jc_aload_n C dX11_init_265 rfl ?_
  refine jc_get C (v := .ref (adr M (c + 1))) dX11_init_266 fl_RX11_7 (by omega) W0_self rfl ?_
  refine jc_bipush C (v := (101 : Int32)) dX11_init_269 (by decide) ?_
  refine jc_iload_n C dX11_init_271 rfl ?_
  refine jc_iadd C (v := (103 : Int32)) dX11_init_272 (by decide) ?_
  refine jc_iconst C (v := (-1 : Int32)) dX11_init_273 (by decide) ?_
  refine jc_iast2 C (a := c + 1) (N := 174) (f := flx 101 2 (-1) (flx 8 6 10 (flx 1 7 10 (upd (fun _ => 0) 0 3)))) (f2 := flx 101 3 (-1) (flx 8 6 10 (flx 1 7 10 (upd (fun _ => 0) 0 3)))) dX11_init_274 (by omega) (by omega) (by omega) (by decide) (by rw [show ((103 : Int32)).toNatClampNeg = 101 + 2 from by decide]; exact flx_s _ _ _ _) ?_
  refine jc_iinc C (v := (3 : Int32)) (Ls' := [(1, .int (3 : Int32)), (0, .ref (adr M c))]) dX11_init_275 0 rfl (by decide) (by decide) rfl ?_
  refine jc_goto C (tgt := 259) dX11_init_278 (by decide) ?_
  refine jc_iload_n C dX11_init_259 rfl ?_
  refine jc_bipush C (v := (60 : Int32)) dX11_init_260 (by decide) ?_
  refine jc_ge_f C (tgt := 281) dX11_init_262 (by decide) (by decide) ?_
  refine jc_aload_n C dX11_init_265 rfl ?_
  refine jc_get C (v := .ref (adr M (c + 1))) dX11_init_266 fl_RX11_7 (by omega) W0_self rfl ?_
  refine jc_bipush C (v := (101 : Int32)) dX11_init_269 (by decide) ?_
  refine jc_iload_n C dX11_init_271 rfl ?_
  refine jc_iadd C (v := (104 : Int32)) dX11_init_272 (by decide) ?_
  refine jc_iconst C (v := (-1 : Int32)) dX11_init_273 (by decide) ?_
  refine jc_iast2 C (a := c + 1) (N := 174) (f := flx 101 3 (-1) (flx 8 6 10 (flx 1 7 10 (upd (fun _ => 0) 0 3)))) (f2 := flx 101 4 (-1) (flx 8 6 10 (flx 1 7 10 (upd (fun _ => 0) 0 3)))) dX11_init_274 (by omega) (by omega) (by omega) (by decide) (by rw [show ((104 : Int32)).toNatClampNeg = 101 + 3 from by decide]; exact flx_s _ _ _ _) ?_
  refine jc_iinc C (v := (4 : Int32)) (Ls' := [(1, .int (4 : Int32)), (0, .ref (adr M c))]) dX11_init_275 0 rfl (by decide) (by decide) rfl ?_
  refine jc_goto C (tgt := 259) dX11_init_278 (by decide) ?_
  refine jc_iload_n C dX11_init_259 rfl ?_
  refine jc_bipush C (v := (60 : Int32)) dX11_init_260 (by decide) ?_
  refine jc_ge_f C (tgt := 281) dX11_init_262 (by decide) (by decide) ?_
  refine jc_aload_n C dX11_init_265 rfl ?_
  refine jc_get C (v := .ref (adr M (c + 1))) dX11_init_266 fl_RX11_7 (by omega) W0_self rfl ?_
  refine jc_bipush C (v := (101 : Int32)) dX11_init_269 (by decide) ?_
  refine jc_iload_n C dX11_init_271 rfl ?_
  refine jc_iadd C (v := (105 : Int32)) dX11_init_272 (by decide) ?_
  refine jc_iconst C (v := (-1 : Int32)) dX11_init_273 (by decide) ?_
  refine jc_iast2 C (a := c + 1) (N := 174) (f := flx 101 4 (-1) (flx 8 6 10 (flx 1 7 10 (upd (fun _ => 0) 0 3)))) (f2 := flx 101 5 (-1) (flx 8 6 10 (flx 1 7 10 (upd (fun _ => 0) 0 3)))) dX11_init_274 (by omega) (by omega) (by omega) (by decide) (by rw [show ((105 : Int32)).toNatClampNeg = 101 + 4 from by decide]; exact flx_s _ _ _ _) ?_
  refine jc_iinc C (v := (5 : Int32)) (Ls' := [(1, .int (5 : Int32)), (0, .ref (adr M c))]) dX11_init_275 0 rfl (by decide) (by decide) rfl ?_
  refine jc_goto C (tgt := 259) dX11_init_278 (by decide) ?_
  refine jc_iload_n C dX11_init_259 rfl ?_
  refine jc_bipush C (v := (60 : Int32)) dX11_init_260 (by decide) ?_
  refine jc_ge_f C (tgt := 281) dX11_init_262 (by decide) (by decide) ?_
  refine jc_aload_n C dX11_init_265 rfl ?_
  refine jc_get C (v := .ref (adr M (c + 1))) dX11_init_266 fl_RX11_7 (by omega) W0_self rfl ?_
  refine jc_bipush C (v := (101 : Int32)) dX11_init_269 (by decide) ?_
  refine jc_iload_n C dX11_init_271 rfl ?_
  refine jc_iadd C (v := (106 : Int32)) dX11_init_272 (by decide) ?_
  refine jc_iconst C (v := (-1 : Int32)) dX11_init_273 (by decide) ?_
  refine jc_iast2 C (a := c + 1) (N := 174) (f := flx 101 5 (-1) (flx 8 6 10 (flx 1 7 10 (upd (fun _ => 0) 0 3)))) (f2 := flx 101 6 (-1) (flx 8 6 10 (flx 1 7 10 (upd (fun _ => 0) 0 3)))) dX11_init_274 (by omega) (by omega) (by omega) (by decide) (by rw [show ((106 : Int32)).toNatClampNeg = 101 + 5 from by decide]; exact flx_s _ _ _ _) ?_
  refine jc_iinc C (v := (6 : Int32)) (Ls' := [(1, .int (6 : Int32)), (0, .ref (adr M c))]) dX11_init_275 0 rfl (by decide) (by decide) rfl ?_
  refine jc_goto C (tgt := 259) dX11_init_278 (by decide) ?_
  refine jc_iload_n C dX11_init_259 rfl ?_
  refine jc_bipush C (v := (60 : Int32)) dX11_init_260 (by decide) ?_
  refine jc_ge_f C (tgt := 281) dX11_init_262 (by decide) (by decide) ?_
  refine jc_aload_n C dX11_init_265 rfl ?_
  refine jc_get C (v := .ref (adr M (c + 1))) dX11_init_266 fl_RX11_7 (by omega) W0_self rfl ?_
  refine jc_bipush C (v := (101 : Int32)) dX11_init_269 (by decide) ?_
  refine jc_iload_n C dX11_init_271 rfl ?_
  refine jc_iadd C (v := (107 : Int32)) dX11_init_272 (by decide) ?_
  refine jc_iconst C (v := (-1 : Int32)) dX11_init_273 (by decide) ?_
  refine jc_iast2 C (a := c + 1) (N := 174) (f := flx 101 6 (-1) (flx 8 6 10 (flx 1 7 10 (upd (fun _ => 0) 0 3)))) (f2 := flx 101 7 (-1) (flx 8 6 10 (flx 1 7 10 (upd (fun _ => 0) 0 3)))) dX11_init_274 (by omega) (by omega) (by omega) (by decide) (by rw [show ((107 : Int32)).toNatClampNeg = 101 + 6 from by decide]; exact flx_s _ _ _ _) ?_
  refine jc_iinc C (v := (7 : Int32)) (Ls' := [(1, .int (7 : Int32)), (0, .ref (adr M c))]) dX11_init_275 0 rfl (by decide) (by decide) rfl ?_
  refine jc_goto C (tgt := 259) dX11_init_278 (by decide) ?_
  refine jc_iload_n C dX11_init_259 rfl ?_
  refine jc_bipush C (v := (60 : Int32)) dX11_init_260 (by decide) ?_
  refine jc_ge_f C (tgt := 281) dX11_init_262 (by decide) (by decide) ?_
  refine jc_aload_n C dX11_init_265 rfl ?_
  refine jc_get C (v := .ref (adr M (c + 1))) dX11_init_266 fl_RX11_7 (by omega) W0_self rfl ?_
  refine jc_bipush C (v := (101 : Int32)) dX11_init_269 (by decide) ?_
  refine jc_iload_n C dX11_init_271 rfl ?_
  refine jc_iadd C (v := (108 : Int32)) dX11_init_272 (by decide) ?_
  refine jc_iconst C (v := (-1 : Int32)) dX11_init_273 (by decide) ?_
  refine jc_iast2 C (a := c + 1) (N := 174) (f := flx 101 7 (-1) (flx 8 6 10 (flx 1 7 10 (upd (fun _ => 0) 0 3)))) (f2 := flx 101 8 (-1) (flx 8 6 10 (flx 1 7 10 (upd (fun _ => 0) 0 3)))) dX11_init_274 (by omega) (by omega) (by omega) (by decide) (by rw [show ((108 : Int32)).toNatClampNeg = 101 + 7 from by decide]; exact flx_s _ _ _ _) ?_
  refine jc_iinc C (v := (8 : Int32)) (Ls' := [(1, .int (8 : Int32)), (0, .ref (adr M c))]) dX11_init_275 0 rfl (by decide) (by decide) rfl ?_
  refine jc_goto C (tgt := 259) dX11_init_278 (by decide) ?_
  refine jc_iload_n C dX11_init_259 rfl ?_
  refine jc_bipush C (v := (60 : Int32)) dX11_init_260 (by decide) ?_
  refine jc_ge_f C (tgt := 281) dX11_init_262 (by decide) (by decide) ?_
  refine jc_aload_n C dX11_init_265 rfl ?_
  refine jc_get C (v := .ref (adr M (c + 1))) dX11_init_266 fl_RX11_7 (by omega) W0_self rfl ?_
  refine jc_bipush C (v := (101 : Int32)) dX11_init_269 (by decide) ?_
  refine jc_iload_n C dX11_init_271 rfl ?_
  refine jc_iadd C (v := (109 : Int32)) dX11_init_272 (by decide) ?_
  refine jc_iconst C (v := (-1 : Int32)) dX11_init_273 (by decide) ?_
  refine jc_iast2 C (a := c + 1) (N := 174) (f := flx 101 8 (-1) (flx 8 6 10 (flx 1 7 10 (upd (fun _ => 0) 0 3)))) (f2 := flx 101 9 (-1) (flx 8 6 10 (flx 1 7 10 (upd (fun _ => 0) 0 3)))) dX11_init_274 (by omega) (by omega) (by omega) (by decide) (by rw [show ((109 : Int32)).toNatClampNeg = 101 + 8 from by decide]; exact flx_s _ _ _ _) ?_
  refine jc_iinc C (v := (9 : Int32)) (Ls' := [(1, .int (9 : Int32)), (0, .ref (adr M c))]) dX11_init_275 0 rfl (by decide) (by decide) rfl ?_
  refine jc_goto C (tgt := 259) dX11_init_278 (by decide) ?_
  refine jc_iload_n C dX11_init_259 rfl ?_
  refine jc_bipush C (v := (60 : Int32)) dX11_init_260 (by decide) ?_
  refine jc_ge_f C (tgt := 281) dX11_init_262 (by decide) (by decide) ?_
  refine jc_aload_n C dX11_init_265 rfl ?_
  refine jc_get C (v := .ref (adr M (c + 1))) dX11_init_266 fl_RX11_7 (by omega) W0_self rfl ?_
  refine jc_bipush C (v := (101 : Int32)) dX11_init_269 (by decide) ?_
  refine jc_iload_n C dX11_init_271 rfl ?_
  refine jc_iadd C (v := (110 : Int32)) dX11_init_272 (by decide) ?_
  refine jc_iconst C (v := (-1 : Int32)) dX11_init_273 (by decide) ?_
  refine jc_iast2 C (a := c + 1) (N := 174) (f := flx 101 9 (-1) (flx 8 6 10 (flx 1 7 10 (upd (fun _ => 0) 0 3)))) (f2 := flx 101 10 (-1) (flx 8 6 10 (flx 1 7 10 (upd (fun _ => 0) 0 3)))) dX11_init_274 (by omega) (by omega) (by omega) (by decide) (by rw [show ((110 : Int32)).toNatClampNeg = 101 + 9 from by decide]; exact flx_s _ _ _ _) ?_
  refine jc_iinc C (v := (10 : Int32)) (Ls' := [(1, .int (10 : Int32)), (0, .ref (adr M c))]) dX11_init_275 0 rfl (by decide) (by decide) rfl ?_
  refine jc_goto C (tgt := 259) dX11_init_278 (by decide) ?_
  refine jc_iload_n C dX11_init_259 rfl ?_
  refine jc_bipush C (v := (60 : Int32)) dX11_init_260 (by decide) ?_
  refine jc_ge_f C (tgt := 281) dX11_init_262 (by decide) (by decide) ?_
  refine jc_aload_n C dX11_init_265 rfl ?_
  refine jc_get C (v := .ref (adr M (c + 1))) dX11_init_266 fl_RX11_7 (by omega) W0_self rfl ?_
  refine jc_bipush C (v := (101 : Int32)) dX11_init_269 (by decide) ?_
  refine jc_iload_n C dX11_init_271 rfl ?_
  refine jc_iadd C (v := (111 : Int32)) dX11_init_272 (by decide) ?_
  refine jc_iconst C (v := (-1 : Int32)) dX11_init_273 (by decide) ?_
  refine jc_iast2 C (a := c + 1) (N := 174) (f := flx 101 10 (-1) (flx 8 6 10 (flx 1 7 10 (upd (fun _ => 0) 0 3)))) (f2 := flx 101 11 (-1) (flx 8 6 10 (flx 1 7 10 (upd (fun _ => 0) 0 3)))) dX11_init_274 (by omega) (by omega) (by omega) (by decide) (by rw [show ((111 : Int32)).toNatClampNeg = 101 + 10 from by decide]; exact flx_s _ _ _ _) ?_
  refine jc_iinc C (v := (11 : Int32)) (Ls' := [(1, .int (11 : Int32)), (0, .ref (adr M c))]) dX11_init_275 0 rfl (by decide) (by decide) rfl ?_
  refine jc_goto C (tgt := 259) dX11_init_278 (by decide) ?_
  refine jc_iload_n C dX11_init_259 rfl ?_
  refine jc_bipush C (v := (60 : Int32)) dX11_init_260 (by decide) ?_
  refine jc_ge_f C (tgt := 281) dX11_init_262 (by decide) (by decide) ?_
  refine jc_aload_n C dX11_init_265 rfl ?_
  refine jc_get C (v := .ref (adr M (c + 1))) dX11_init_266 fl_RX11_7 (by omega) W0_self rfl ?_
  refine jc_bipush C (v := (101 : Int32)) dX11_init_269 (by decide) ?_
  refine jc_iload_n C dX11_init_271 rfl ?_
  refine jc_iadd C (v := (112 : Int32)) dX11_init_272 (by decide) ?_
  refine jc_iconst C (v := (-1 : Int32)) dX11_init_273 (by decide) ?_
  refine jc_iast2 C (a := c + 1) (N := 174) (f := flx 101 11 (-1) (flx 8 6 10 (flx 1 7 10 (upd (fun _ => 0) 0 3)))) (f2 := flx 101 12 (-1) (flx 8 6 10 (flx 1 7 10 (upd (fun _ => 0) 0 3)))) dX11_init_274 (by omega) (by omega) (by omega) (by decide) (by rw [show ((112 : Int32)).toNatClampNeg = 101 + 11 from by decide]; exact flx_s _ _ _ _) ?_
  refine jc_iinc C (v := (12 : Int32)) (Ls' := [(1, .int (12 : Int32)), (0, .ref (adr M c))]) dX11_init_275 0 rfl (by decide) (by decide) rfl ?_
  refine jc_goto C (tgt := 259) dX11_init_278 (by decide) ?_
  refine jc_iload_n C dX11_init_259 rfl ?_
  refine jc_bipush C (v := (60 : Int32)) dX11_init_260 (by decide) ?_
  refine jc_ge_f C (tgt := 281) dX11_init_262 (by decide) (by decide) ?_
  refine jc_aload_n C dX11_init_265 rfl ?_
  refine jc_get C (v := .ref (adr M (c + 1))) dX11_init_266 fl_RX11_7 (by omega) W0_self rfl ?_
  refine jc_bipush C (v := (101 : Int32)) dX11_init_269 (by decide) ?_
  refine jc_iload_n C dX11_init_271 rfl ?_
  refine jc_iadd C (v := (113 : Int32)) dX11_init_272 (by decide) ?_
  refine jc_iconst C (v := (-1 : Int32)) dX11_init_273 (by decide) ?_
  refine jc_iast2 C (a := c + 1) (N := 174) (f := flx 101 12 (-1) (flx 8 6 10 (flx 1 7 10 (upd (fun _ => 0) 0 3)))) (f2 := flx 101 13 (-1) (flx 8 6 10 (flx 1 7 10 (upd (fun _ => 0) 0 3)))) dX11_init_274 (by omega) (by omega) (by omega) (by decide) (by rw [show ((113 : Int32)).toNatClampNeg = 101 + 12 from by decide]; exact flx_s _ _ _ _) ?_
  refine jc_iinc C (v := (13 : Int32)) (Ls' := [(1, .int (13 : Int32)), (0, .ref (adr M c))]) dX11_init_275 0 rfl (by decide) (by decide) rfl ?_
  refine jc_goto C (tgt := 259) dX11_init_278 (by decide) ?_
  refine jc_iload_n C dX11_init_259 rfl ?_
  refine jc_bipush C (v := (60 : Int32)) dX11_init_260 (by decide) ?_
  refine jc_ge_f C (tgt := 281) dX11_init_262 (by decide) (by decide) ?_
  refine jc_aload_n C dX11_init_265 rfl ?_
  refine jc_get C (v := .ref (adr M (c + 1))) dX11_init_266 fl_RX11_7 (by omega) W0_self rfl ?_
  refine jc_bipush C (v := (101 : Int32)) dX11_init_269 (by decide) ?_
  refine jc_iload_n C dX11_init_271 rfl ?_
  refine jc_iadd C (v := (114 : Int32)) dX11_init_272 (by decide) ?_
  refine jc_iconst C (v := (-1 : Int32)) dX11_init_273 (by decide) ?_
  refine jc_iast2 C (a := c + 1) (N := 174) (f := flx 101 13 (-1) (flx 8 6 10 (flx 1 7 10 (upd (fun _ => 0) 0 3)))) (f2 := flx 101 14 (-1) (flx 8 6 10 (flx 1 7 10 (upd (fun _ => 0) 0 3)))) dX11_init_274 (by omega) (by omega) (by omega) (by decide) (by rw [show ((114 : Int32)).toNatClampNeg = 101 + 13 from by decide]; exact flx_s _ _ _ _) ?_
  refine jc_iinc C (v := (14 : Int32)) (Ls' := [(1, .int (14 : Int32)), (0, .ref (adr M c))]) dX11_init_275 0 rfl (by decide) (by decide) rfl ?_
  refine jc_goto C (tgt := 259) dX11_init_278 (by decide) ?_
  refine jc_iload_n C dX11_init_259 rfl ?_
  refine jc_bipush C (v := (60 : Int32)) dX11_init_260 (by decide) ?_
  refine jc_ge_f C (tgt := 281) dX11_init_262 (by decide) (by decide) ?_
  refine jc_aload_n C dX11_init_265 rfl ?_
  refine jc_get C (v := .ref (adr M (c + 1))) dX11_init_266 fl_RX11_7 (by omega) W0_self rfl ?_
  refine jc_bipush C (v := (101 : Int32)) dX11_init_269 (by decide) ?_
  refine jc_iload_n C dX11_init_271 rfl ?_
  refine jc_iadd C (v := (115 : Int32)) dX11_init_272 (by decide) ?_
  refine jc_iconst C (v := (-1 : Int32)) dX11_init_273 (by decide) ?_
  refine jc_iast2 C (a := c + 1) (N := 174) (f := flx 101 14 (-1) (flx 8 6 10 (flx 1 7 10 (upd (fun _ => 0) 0 3)))) (f2 := flx 101 15 (-1) (flx 8 6 10 (flx 1 7 10 (upd (fun _ => 0) 0 3)))) dX11_init_274 (by omega) (by omega) (by omega) (by decide) (by rw [show ((115 : Int32)).toNatClampNeg = 101 + 14 from by decide]; exact flx_s _ _ _ _) ?_
  refine jc_iinc C (v := (15 : Int32)) (Ls' := [(1, .int (15 : Int32)), (0, .ref (adr M c))]) dX11_init_275 0 rfl (by decide) (by decide) rfl ?_
  refine jc_goto C (tgt := 259) dX11_init_278 (by decide) ?_
  refine jc_iload_n C dX11_init_259 rfl ?_
  refine jc_bipush C (v := (60 : Int32)) dX11_init_260 (by decide) ?_
  refine jc_ge_f C (tgt := 281) dX11_init_262 (by decide) (by decide) ?_
  refine jc_aload_n C dX11_init_265 rfl ?_
  refine jc_get C (v := .ref (adr M (c + 1))) dX11_init_266 fl_RX11_7 (by omega) W0_self rfl ?_
  refine jc_bipush C (v := (101 : Int32)) dX11_init_269 (by decide) ?_
  refine jc_iload_n C dX11_init_271 rfl ?_
  refine jc_iadd C (v := (116 : Int32)) dX11_init_272 (by decide) ?_
  refine jc_iconst C (v := (-1 : Int32)) dX11_init_273 (by decide) ?_
  refine jc_iast2 C (a := c + 1) (N := 174) (f := flx 101 15 (-1) (flx 8 6 10 (flx 1 7 10 (upd (fun _ => 0) 0 3)))) (f2 := flx 101 16 (-1) (flx 8 6 10 (flx 1 7 10 (upd (fun _ => 0) 0 3)))) dX11_init_274 (by omega) (by omega) (by omega) (by decide) (by rw [show ((116 : Int32)).toNatClampNeg = 101 + 15 from by decide]; exact flx_s _ _ _ _) ?_
  refine jc_iinc C (v := (16 : Int32)) (Ls' := [(1, .int (16 : Int32)), (0, .ref (adr M c))]) dX11_init_275 0 rfl (by decide) (by decide) rfl ?_
  refine jc_goto C (tgt := 259) dX11_init_278 (by decide) ?_
  refine jc_iload_n C dX11_init_259 rfl ?_
  refine jc_bipush C (v := (60 : Int32)) dX11_init_260 (by decide) ?_
  refine jc_ge_f C (tgt := 281) dX11_init_262 (by decide) (by decide) ?_
  refine jc_aload_n C dX11_init_265 rfl ?_
  refine jc_get C (v := .ref (adr M (c + 1))) dX11_init_266 fl_RX11_7 (by omega) W0_self rfl ?_
  refine jc_bipush C (v := (101 : Int32)) dX11_init_269 (by decide) ?_
  refine jc_iload_n C dX11_init_271 rfl ?_
  refine jc_iadd C (v := (117 : Int32)) dX11_init_272 (by decide) ?_
  refine jc_iconst C (v := (-1 : Int32)) dX11_init_273 (by decide) ?_
  refine jc_iast2 C (a := c + 1) (N := 174) (f := flx 101 16 (-1) (flx 8 6 10 (flx 1 7 10 (upd (fun _ => 0) 0 3)))) (f2 := flx 101 17 (-1) (flx 8 6 10 (flx 1 7 10 (upd (fun _ => 0) 0 3)))) dX11_init_274 (by omega) (by omega) (by omega) (by decide) (by rw [show ((117 : Int32)).toNatClampNeg = 101 + 16 from by decide]; exact flx_s _ _ _ _) ?_
  refine jc_iinc C (v := (17 : Int32)) (Ls' := [(1, .int (17 : Int32)), (0, .ref (adr M c))]) dX11_init_275 0 rfl (by decide) (by decide) rfl ?_
  refine jc_goto C (tgt := 259) dX11_init_278 (by decide) ?_
  refine jc_iload_n C dX11_init_259 rfl ?_
  refine jc_bipush C (v := (60 : Int32)) dX11_init_260 (by decide) ?_
  refine jc_ge_f C (tgt := 281) dX11_init_262 (by decide) (by decide) ?_
  refine jc_aload_n C dX11_init_265 rfl ?_
  refine jc_get C (v := .ref (adr M (c + 1))) dX11_init_266 fl_RX11_7 (by omega) W0_self rfl ?_
  refine jc_bipush C (v := (101 : Int32)) dX11_init_269 (by decide) ?_
  refine jc_iload_n C dX11_init_271 rfl ?_
  refine jc_iadd C (v := (118 : Int32)) dX11_init_272 (by decide) ?_
  refine jc_iconst C (v := (-1 : Int32)) dX11_init_273 (by decide) ?_
  refine jc_iast2 C (a := c + 1) (N := 174) (f := flx 101 17 (-1) (flx 8 6 10 (flx 1 7 10 (upd (fun _ => 0) 0 3)))) (f2 := flx 101 18 (-1) (flx 8 6 10 (flx 1 7 10 (upd (fun _ => 0) 0 3)))) dX11_init_274 (by omega) (by omega) (by omega) (by decide) (by rw [show ((118 : Int32)).toNatClampNeg = 101 + 17 from by decide]; exact flx_s _ _ _ _) ?_
  refine jc_iinc C (v := (18 : Int32)) (Ls' := [(1, .int (18 : Int32)), (0, .ref (adr M c))]) dX11_init_275 0 rfl (by decide) (by decide) rfl ?_
  refine jc_goto C (tgt := 259) dX11_init_278 (by decide) ?_
  refine jc_iload_n C dX11_init_259 rfl ?_
  refine jc_bipush C (v := (60 : Int32)) dX11_init_260 (by decide) ?_
  refine jc_ge_f C (tgt := 281) dX11_init_262 (by decide) (by decide) ?_
  refine jc_aload_n C dX11_init_265 rfl ?_
  refine jc_get C (v := .ref (adr M (c + 1))) dX11_init_266 fl_RX11_7 (by omega) W0_self rfl ?_
  refine jc_bipush C (v := (101 : Int32)) dX11_init_269 (by decide) ?_
  refine jc_iload_n C dX11_init_271 rfl ?_
  refine jc_iadd C (v := (119 : Int32)) dX11_init_272 (by decide) ?_
  refine jc_iconst C (v := (-1 : Int32)) dX11_init_273 (by decide) ?_
  refine jc_iast2 C (a := c + 1) (N := 174) (f := flx 101 18 (-1) (flx 8 6 10 (flx 1 7 10 (upd (fun _ => 0) 0 3)))) (f2 := flx 101 19 (-1) (flx 8 6 10 (flx 1 7 10 (upd (fun _ => 0) 0 3)))) dX11_init_274 (by omega) (by omega) (by omega) (by decide) (by rw [show ((119 : Int32)).toNatClampNeg = 101 + 18 from by decide]; exact flx_s _ _ _ _) ?_
  refine jc_iinc C (v := (19 : Int32)) (Ls' := [(1, .int (19 : Int32)), (0, .ref (adr M c))]) dX11_init_275 0 rfl (by decide) (by decide) rfl ?_
  refine jc_goto C (tgt := 259) dX11_init_278 (by decide) ?_
  refine jc_iload_n C dX11_init_259 rfl ?_
  refine jc_bipush C (v := (60 : Int32)) dX11_init_260 (by decide) ?_
  refine jc_ge_f C (tgt := 281) dX11_init_262 (by decide) (by decide) ?_
  refine jc_aload_n C dX11_init_265 rfl ?_
  refine jc_get C (v := .ref (adr M (c + 1))) dX11_init_266 fl_RX11_7 (by omega) W0_self rfl ?_
  refine jc_bipush C (v := (101 : Int32)) dX11_init_269 (by decide) ?_
  refine jc_iload_n C dX11_init_271 rfl ?_
  refine jc_iadd C (v := (120 : Int32)) dX11_init_272 (by decide) ?_
  refine jc_iconst C (v := (-1 : Int32)) dX11_init_273 (by decide) ?_
  refine jc_iast2 C (a := c + 1) (N := 174) (f := flx 101 19 (-1) (flx 8 6 10 (flx 1 7 10 (upd (fun _ => 0) 0 3)))) (f2 := flx 101 20 (-1) (flx 8 6 10 (flx 1 7 10 (upd (fun _ => 0) 0 3)))) dX11_init_274 (by omega) (by omega) (by omega) (by decide) (by rw [show ((120 : Int32)).toNatClampNeg = 101 + 19 from by decide]; exact flx_s _ _ _ _) ?_
  refine jc_iinc C (v := (20 : Int32)) (Ls' := [(1, .int (20 : Int32)), (0, .ref (adr M c))]) dX11_init_275 0 rfl (by decide) (by decide) rfl ?_
  refine jc_goto C (tgt := 259) dX11_init_278 (by decide) ?_
  refine jc_iload_n C dX11_init_259 rfl ?_
  refine jc_bipush C (v := (60 : Int32)) dX11_init_260 (by decide) ?_
  refine jc_ge_f C (tgt := 281) dX11_init_262 (by decide) (by decide) ?_
  refine jc_aload_n C dX11_init_265 rfl ?_
  refine jc_get C (v := .ref (adr M (c + 1))) dX11_init_266 fl_RX11_7 (by omega) W0_self rfl ?_
  refine jc_bipush C (v := (101 : Int32)) dX11_init_269 (by decide) ?_
  refine jc_iload_n C dX11_init_271 rfl ?_
  refine jc_iadd C (v := (121 : Int32)) dX11_init_272 (by decide) ?_
  refine jc_iconst C (v := (-1 : Int32)) dX11_init_273 (by decide) ?_
  refine jc_iast2 C (a := c + 1) (N := 174) (f := flx 101 20 (-1) (flx 8 6 10 (flx 1 7 10 (upd (fun _ => 0) 0 3)))) (f2 := flx 101 21 (-1) (flx 8 6 10 (flx 1 7 10 (upd (fun _ => 0) 0 3)))) dX11_init_274 (by omega) (by omega) (by omega) (by decide) (by rw [show ((121 : Int32)).toNatClampNeg = 101 + 20 from by decide]; exact flx_s _ _ _ _) ?_
  refine jc_iinc C (v := (21 : Int32)) (Ls' := [(1, .int (21 : Int32)), (0, .ref (adr M c))]) dX11_init_275 0 rfl (by decide) (by decide) rfl ?_
  refine jc_goto C (tgt := 259) dX11_init_278 (by decide) ?_
  refine jc_iload_n C dX11_init_259 rfl ?_
  refine jc_bipush C (v := (60 : Int32)) dX11_init_260 (by decide) ?_
  refine jc_ge_f C (tgt := 281) dX11_init_262 (by decide) (by decide) ?_
  refine jc_aload_n C dX11_init_265 rfl ?_
  refine jc_get C (v := .ref (adr M (c + 1))) dX11_init_266 fl_RX11_7 (by omega) W0_self rfl ?_
  refine jc_bipush C (v := (101 : Int32)) dX11_init_269 (by decide) ?_
  refine jc_iload_n C dX11_init_271 rfl ?_
  refine jc_iadd C (v := (122 : Int32)) dX11_init_272 (by decide) ?_
  refine jc_iconst C (v := (-1 : Int32)) dX11_init_273 (by decide) ?_
  refine jc_iast2 C (a := c + 1) (N := 174) (f := flx 101 21 (-1) (flx 8 6 10 (flx 1 7 10 (upd (fun _ => 0) 0 3)))) (f2 := flx 101 22 (-1) (flx 8 6 10 (flx 1 7 10 (upd (fun _ => 0) 0 3)))) dX11_init_274 (by omega) (by omega) (by omega) (by decide) (by rw [show ((122 : Int32)).toNatClampNeg = 101 + 21 from by decide]; exact flx_s _ _ _ _) ?_
  refine jc_iinc C (v := (22 : Int32)) (Ls' := [(1, .int (22 : Int32)), (0, .ref (adr M c))]) dX11_init_275 0 rfl (by decide) (by decide) rfl ?_
  refine jc_goto C (tgt := 259) dX11_init_278 (by decide) ?_
  refine jc_iload_n C dX11_init_259 rfl ?_
  refine jc_bipush C (v := (60 : Int32)) dX11_init_260 (by decide) ?_
  refine jc_ge_f C (tgt := 281) dX11_init_262 (by decide) (by decide) ?_
  refine jc_aload_n C dX11_init_265 rfl ?_
  refine jc_get C (v := .ref (adr M (c + 1))) dX11_init_266 fl_RX11_7 (by omega) W0_self rfl ?_
  refine jc_bipush C (v := (101 : Int32)) dX11_init_269 (by decide) ?_
  refine jc_iload_n C dX11_init_271 rfl ?_
  refine jc_iadd C (v := (123 : Int32)) dX11_init_272 (by decide) ?_
  refine jc_iconst C (v := (-1 : Int32)) dX11_init_273 (by decide) ?_
  refine jc_iast2 C (a := c + 1) (N := 174) (f := flx 101 22 (-1) (flx 8 6 10 (flx 1 7 10 (upd (fun _ => 0) 0 3)))) (f2 := flx 101 23 (-1) (flx 8 6 10 (flx 1 7 10 (upd (fun _ => 0) 0 3)))) dX11_init_274 (by omega) (by omega) (by omega) (by decide) (by rw [show ((123 : Int32)).toNatClampNeg = 101 + 22 from by decide]; exact flx_s _ _ _ _) ?_
  refine jc_iinc C (v := (23 : Int32)) (Ls' := [(1, .int (23 : Int32)), (0, .ref (adr M c))]) dX11_init_275 0 rfl (by decide) (by decide) rfl ?_
  refine jc_goto C (tgt := 259) dX11_init_278 (by decide) ?_
  refine jc_iload_n C dX11_init_259 rfl ?_
  refine jc_bipush C (v := (60 : Int32)) dX11_init_260 (by decide) ?_
  refine jc_ge_f C (tgt := 281) dX11_init_262 (by decide) (by decide) ?_
  refine jc_aload_n C dX11_init_265 rfl ?_
  refine jc_get C (v := .ref (adr M (c + 1))) dX11_init_266 fl_RX11_7 (by omega) W0_self rfl ?_
  refine jc_bipush C (v := (101 : Int32)) dX11_init_269 (by decide) ?_
  refine jc_iload_n C dX11_init_271 rfl ?_
  refine jc_iadd C (v := (124 : Int32)) dX11_init_272 (by decide) ?_
  refine jc_iconst C (v := (-1 : Int32)) dX11_init_273 (by decide) ?_
  refine jc_iast2 C (a := c + 1) (N := 174) (f := flx 101 23 (-1) (flx 8 6 10 (flx 1 7 10 (upd (fun _ => 0) 0 3)))) (f2 := flx 101 24 (-1) (flx 8 6 10 (flx 1 7 10 (upd (fun _ => 0) 0 3)))) dX11_init_274 (by omega) (by omega) (by omega) (by decide) (by rw [show ((124 : Int32)).toNatClampNeg = 101 + 23 from by decide]; exact flx_s _ _ _ _) ?_
  refine jc_iinc C (v := (24 : Int32)) (Ls' := [(1, .int (24 : Int32)), (0, .ref (adr M c))]) dX11_init_275 0 rfl (by decide) (by decide) rfl ?_
  refine jc_goto C (tgt := 259) dX11_init_278 (by decide) ?_
  refine jc_iload_n C dX11_init_259 rfl ?_
  refine jc_bipush C (v := (60 : Int32)) dX11_init_260 (by decide) ?_
  refine jc_ge_f C (tgt := 281) dX11_init_262 (by decide) (by decide) ?_
  refine jc_aload_n C dX11_init_265 rfl ?_
  refine jc_get C (v := .ref (adr M (c + 1))) dX11_init_266 fl_RX11_7 (by omega) W0_self rfl ?_
  refine jc_bipush C (v := (101 : Int32)) dX11_init_269 (by decide) ?_
  refine jc_iload_n C dX11_init_271 rfl ?_
  refine jc_iadd C (v := (125 : Int32)) dX11_init_272 (by decide) ?_
  refine jc_iconst C (v := (-1 : Int32)) dX11_init_273 (by decide) ?_
  refine jc_iast2 C (a := c + 1) (N := 174) (f := flx 101 24 (-1) (flx 8 6 10 (flx 1 7 10 (upd (fun _ => 0) 0 3)))) (f2 := flx 101 25 (-1) (flx 8 6 10 (flx 1 7 10 (upd (fun _ => 0) 0 3)))) dX11_init_274 (by omega) (by omega) (by omega) (by decide) (by rw [show ((125 : Int32)).toNatClampNeg = 101 + 24 from by decide]; exact flx_s _ _ _ _) ?_
  refine jc_iinc C (v := (25 : Int32)) (Ls' := [(1, .int (25 : Int32)), (0, .ref (adr M c))]) dX11_init_275 0 rfl (by decide) (by decide) rfl ?_
  refine jc_goto C (tgt := 259) dX11_init_278 (by decide) ?_
  refine jc_iload_n C dX11_init_259 rfl ?_
  refine jc_bipush C (v := (60 : Int32)) dX11_init_260 (by decide) ?_
  refine jc_ge_f C (tgt := 281) dX11_init_262 (by decide) (by decide) ?_
  refine jc_aload_n C dX11_init_265 rfl ?_
  refine jc_get C (v := .ref (adr M (c + 1))) dX11_init_266 fl_RX11_7 (by omega) W0_self rfl ?_
  refine jc_bipush C (v := (101 : Int32)) dX11_init_269 (by decide) ?_
  refine jc_iload_n C dX11_init_271 rfl ?_
  refine jc_iadd C (v := (126 : Int32)) dX11_init_272 (by decide) ?_
  refine jc_iconst C (v := (-1 : Int32)) dX11_init_273 (by decide) ?_
  refine jc_iast2 C (a := c + 1) (N := 174) (f := flx 101 25 (-1) (flx 8 6 10 (flx 1 7 10 (upd (fun _ => 0) 0 3)))) (f2 := flx 101 26 (-1) (flx 8 6 10 (flx 1 7 10 (upd (fun _ => 0) 0 3)))) dX11_init_274 (by omega) (by omega) (by omega) (by decide) (by rw [show ((126 : Int32)).toNatClampNeg = 101 + 25 from by decide]; exact flx_s _ _ _ _) ?_
  refine jc_iinc C (v := (26 : Int32)) (Ls' := [(1, .int (26 : Int32)), (0, .ref (adr M c))]) dX11_init_275 0 rfl (by decide) (by decide) rfl ?_
  refine jc_goto C (tgt := 259) dX11_init_278 (by decide) ?_
  refine jc_iload_n C dX11_init_259 rfl ?_
  refine jc_bipush C (v := (60 : Int32)) dX11_init_260 (by decide) ?_
  refine jc_ge_f C (tgt := 281) dX11_init_262 (by decide) (by decide) ?_
  refine jc_aload_n C dX11_init_265 rfl ?_
  refine jc_get C (v := .ref (adr M (c + 1))) dX11_init_266 fl_RX11_7 (by omega) W0_self rfl ?_
  refine jc_bipush C (v := (101 : Int32)) dX11_init_269 (by decide) ?_
  refine jc_iload_n C dX11_init_271 rfl ?_
  refine jc_iadd C (v := (127 : Int32)) dX11_init_272 (by decide) ?_
  refine jc_iconst C (v := (-1 : Int32)) dX11_init_273 (by decide) ?_
  refine jc_iast2 C (a := c + 1) (N := 174) (f := flx 101 26 (-1) (flx 8 6 10 (flx 1 7 10 (upd (fun _ => 0) 0 3)))) (f2 := flx 101 27 (-1) (flx 8 6 10 (flx 1 7 10 (upd (fun _ => 0) 0 3)))) dX11_init_274 (by omega) (by omega) (by omega) (by decide) (by rw [show ((127 : Int32)).toNatClampNeg = 101 + 26 from by decide]; exact flx_s _ _ _ _) ?_
  refine jc_iinc C (v := (27 : Int32)) (Ls' := [(1, .int (27 : Int32)), (0, .ref (adr M c))]) dX11_init_275 0 rfl (by decide) (by decide) rfl ?_
  refine jc_goto C (tgt := 259) dX11_init_278 (by decide) ?_
  refine jc_iload_n C dX11_init_259 rfl ?_
  refine jc_bipush C (v := (60 : Int32)) dX11_init_260 (by decide) ?_
  refine jc_ge_f C (tgt := 281) dX11_init_262 (by decide) (by decide) ?_
  refine jc_aload_n C dX11_init_265 rfl ?_
  refine jc_get C (v := .ref (adr M (c + 1))) dX11_init_266 fl_RX11_7 (by omega) W0_self rfl ?_
  refine jc_bipush C (v := (101 : Int32)) dX11_init_269 (by decide) ?_
  refine jc_iload_n C dX11_init_271 rfl ?_
  refine jc_iadd C (v := (128 : Int32)) dX11_init_272 (by decide) ?_
  refine jc_iconst C (v := (-1 : Int32)) dX11_init_273 (by decide) ?_
  refine jc_iast2 C (a := c + 1) (N := 174) (f := flx 101 27 (-1) (flx 8 6 10 (flx 1 7 10 (upd (fun _ => 0) 0 3)))) (f2 := flx 101 28 (-1) (flx 8 6 10 (flx 1 7 10 (upd (fun _ => 0) 0 3)))) dX11_init_274 (by omega) (by omega) (by omega) (by decide) (by rw [show ((128 : Int32)).toNatClampNeg = 101 + 27 from by decide]; exact flx_s _ _ _ _) ?_
  refine jc_iinc C (v := (28 : Int32)) (Ls' := [(1, .int (28 : Int32)), (0, .ref (adr M c))]) dX11_init_275 0 rfl (by decide) (by decide) rfl ?_
  refine jc_goto C (tgt := 259) dX11_init_278 (by decide) ?_
  refine jc_iload_n C dX11_init_259 rfl ?_
  refine jc_bipush C (v := (60 : Int32)) dX11_init_260 (by decide) ?_
  refine jc_ge_f C (tgt := 281) dX11_init_262 (by decide) (by decide) ?_
  refine jc_aload_n C dX11_init_265 rfl ?_
  refine jc_get C (v := .ref (adr M (c + 1))) dX11_init_266 fl_RX11_7 (by omega) W0_self rfl ?_
  refine jc_bipush C (v := (101 : Int32)) dX11_init_269 (by decide) ?_
  refine jc_iload_n C dX11_init_271 rfl ?_
  refine jc_iadd C (v := (129 : Int32)) dX11_init_272 (by decide) ?_
  refine jc_iconst C (v := (-1 : Int32)) dX11_init_273 (by decide) ?_
  refine jc_iast2 C (a := c + 1) (N := 174) (f := flx 101 28 (-1) (flx 8 6 10 (flx 1 7 10 (upd (fun _ => 0) 0 3)))) (f2 := flx 101 29 (-1) (flx 8 6 10 (flx 1 7 10 (upd (fun _ => 0) 0 3)))) dX11_init_274 (by omega) (by omega) (by omega) (by decide) (by rw [show ((129 : Int32)).toNatClampNeg = 101 + 28 from by decide]; exact flx_s _ _ _ _) ?_
  refine jc_iinc C (v := (29 : Int32)) (Ls' := [(1, .int (29 : Int32)), (0, .ref (adr M c))]) dX11_init_275 0 rfl (by decide) (by decide) rfl ?_
  refine jc_goto C (tgt := 259) dX11_init_278 (by decide) ?_
  refine jc_iload_n C dX11_init_259 rfl ?_
  refine jc_bipush C (v := (60 : Int32)) dX11_init_260 (by decide) ?_
  refine jc_ge_f C (tgt := 281) dX11_init_262 (by decide) (by decide) ?_
  refine jc_aload_n C dX11_init_265 rfl ?_
  refine jc_get C (v := .ref (adr M (c + 1))) dX11_init_266 fl_RX11_7 (by omega) W0_self rfl ?_
  refine jc_bipush C (v := (101 : Int32)) dX11_init_269 (by decide) ?_
  refine jc_iload_n C dX11_init_271 rfl ?_
  refine jc_iadd C (v := (130 : Int32)) dX11_init_272 (by decide) ?_
  refine jc_iconst C (v := (-1 : Int32)) dX11_init_273 (by decide) ?_
  refine jc_iast2 C (a := c + 1) (N := 174) (f := flx 101 29 (-1) (flx 8 6 10 (flx 1 7 10 (upd (fun _ => 0) 0 3)))) (f2 := flx 101 30 (-1) (flx 8 6 10 (flx 1 7 10 (upd (fun _ => 0) 0 3)))) dX11_init_274 (by omega) (by omega) (by omega) (by decide) (by rw [show ((130 : Int32)).toNatClampNeg = 101 + 29 from by decide]; exact flx_s _ _ _ _) ?_
  refine jc_iinc C (v := (30 : Int32)) (Ls' := [(1, .int (30 : Int32)), (0, .ref (adr M c))]) dX11_init_275 0 rfl (by decide) (by decide) rfl ?_
  refine jc_goto C (tgt := 259) dX11_init_278 (by decide) ?_
  refine jc_iload_n C dX11_init_259 rfl ?_
  refine jc_bipush C (v := (60 : Int32)) dX11_init_260 (by decide) ?_
  refine jc_ge_f C (tgt := 281) dX11_init_262 (by decide) (by decide) ?_
  refine jc_aload_n C dX11_init_265 rfl ?_
  refine jc_get C (v := .ref (adr M (c + 1))) dX11_init_266 fl_RX11_7 (by omega) W0_self rfl ?_
  refine jc_bipush C (v := (101 : Int32)) dX11_init_269 (by decide) ?_
  refine jc_iload_n C dX11_init_271 rfl ?_
  refine jc_iadd C (v := (131 : Int32)) dX11_init_272 (by decide) ?_
  refine jc_iconst C (v := (-1 : Int32)) dX11_init_273 (by decide) ?_
  refine jc_iast2 C (a := c + 1) (N := 174) (f := flx 101 30 (-1) (flx 8 6 10 (flx 1 7 10 (upd (fun _ => 0) 0 3)))) (f2 := flx 101 31 (-1) (flx 8 6 10 (flx 1 7 10 (upd (fun _ => 0) 0 3)))) dX11_init_274 (by omega) (by omega) (by omega) (by decide) (by rw [show ((131 : Int32)).toNatClampNeg = 101 + 30 from by decide]; exact flx_s _ _ _ _) ?_
  refine jc_iinc C (v := (31 : Int32)) (Ls' := [(1, .int (31 : Int32)), (0, .ref (adr M c))]) dX11_init_275 0 rfl (by decide) (by decide) rfl ?_
  refine jc_goto C (tgt := 259) dX11_init_278 (by decide) ?_
  refine jc_iload_n C dX11_init_259 rfl ?_
  refine jc_bipush C (v := (60 : Int32)) dX11_init_260 (by decide) ?_
  refine jc_ge_f C (tgt := 281) dX11_init_262 (by decide) (by decide) ?_
  refine jc_aload_n C dX11_init_265 rfl ?_
  refine jc_get C (v := .ref (adr M (c + 1))) dX11_init_266 fl_RX11_7 (by omega) W0_self rfl ?_
  refine jc_bipush C (v := (101 : Int32)) dX11_init_269 (by decide) ?_
  refine jc_iload_n C dX11_init_271 rfl ?_
  refine jc_iadd C (v := (132 : Int32)) dX11_init_272 (by decide) ?_
  refine jc_iconst C (v := (-1 : Int32)) dX11_init_273 (by decide) ?_
  refine jc_iast2 C (a := c + 1) (N := 174) (f := flx 101 31 (-1) (flx 8 6 10 (flx 1 7 10 (upd (fun _ => 0) 0 3)))) (f2 := flx 101 32 (-1) (flx 8 6 10 (flx 1 7 10 (upd (fun _ => 0) 0 3)))) dX11_init_274 (by omega) (by omega) (by omega) (by decide) (by rw [show ((132 : Int32)).toNatClampNeg = 101 + 31 from by decide]; exact flx_s _ _ _ _) ?_
  refine jc_iinc C (v := (32 : Int32)) (Ls' := [(1, .int (32 : Int32)), (0, .ref (adr M c))]) dX11_init_275 0 rfl (by decide) (by decide) rfl ?_
  refine jc_goto C (tgt := 259) dX11_init_278 (by decide) ?_
  refine jc_iload_n C dX11_init_259 rfl ?_
  refine jc_bipush C (v := (60 : Int32)) dX11_init_260 (by decide) ?_
  refine jc_ge_f C (tgt := 281) dX11_init_262 (by decide) (by decide) ?_
  refine jc_aload_n C dX11_init_265 rfl ?_
  refine jc_get C (v := .ref (adr M (c + 1))) dX11_init_266 fl_RX11_7 (by omega) W0_self rfl ?_
  refine jc_bipush C (v := (101 : Int32)) dX11_init_269 (by decide) ?_
  refine jc_iload_n C dX11_init_271 rfl ?_
  refine jc_iadd C (v := (133 : Int32)) dX11_init_272 (by decide) ?_
  refine jc_iconst C (v := (-1 : Int32)) dX11_init_273 (by decide) ?_
  refine jc_iast2 C (a := c + 1) (N := 174) (f := flx 101 32 (-1) (flx 8 6 10 (flx 1 7 10 (upd (fun _ => 0) 0 3)))) (f2 := flx 101 33 (-1) (flx 8 6 10 (flx 1 7 10 (upd (fun _ => 0) 0 3)))) dX11_init_274 (by omega) (by omega) (by omega) (by decide) (by rw [show ((133 : Int32)).toNatClampNeg = 101 + 32 from by decide]; exact flx_s _ _ _ _) ?_
  refine jc_iinc C (v := (33 : Int32)) (Ls' := [(1, .int (33 : Int32)), (0, .ref (adr M c))]) dX11_init_275 0 rfl (by decide) (by decide) rfl ?_
  refine jc_goto C (tgt := 259) dX11_init_278 (by decide) ?_
  refine jc_iload_n C dX11_init_259 rfl ?_
  refine jc_bipush C (v := (60 : Int32)) dX11_init_260 (by decide) ?_
  refine jc_ge_f C (tgt := 281) dX11_init_262 (by decide) (by decide) ?_
  refine jc_aload_n C dX11_init_265 rfl ?_
  refine jc_get C (v := .ref (adr M (c + 1))) dX11_init_266 fl_RX11_7 (by omega) W0_self rfl ?_
  refine jc_bipush C (v := (101 : Int32)) dX11_init_269 (by decide) ?_
  refine jc_iload_n C dX11_init_271 rfl ?_
  refine jc_iadd C (v := (134 : Int32)) dX11_init_272 (by decide) ?_
  refine jc_iconst C (v := (-1 : Int32)) dX11_init_273 (by decide) ?_
  refine jc_iast2 C (a := c + 1) (N := 174) (f := flx 101 33 (-1) (flx 8 6 10 (flx 1 7 10 (upd (fun _ => 0) 0 3)))) (f2 := flx 101 34 (-1) (flx 8 6 10 (flx 1 7 10 (upd (fun _ => 0) 0 3)))) dX11_init_274 (by omega) (by omega) (by omega) (by decide) (by rw [show ((134 : Int32)).toNatClampNeg = 101 + 33 from by decide]; exact flx_s _ _ _ _) ?_
  refine jc_iinc C (v := (34 : Int32)) (Ls' := [(1, .int (34 : Int32)), (0, .ref (adr M c))]) dX11_init_275 0 rfl (by decide) (by decide) rfl ?_
  refine jc_goto C (tgt := 259) dX11_init_278 (by decide) ?_
  refine jc_iload_n C dX11_init_259 rfl ?_
  refine jc_bipush C (v := (60 : Int32)) dX11_init_260 (by decide) ?_
  refine jc_ge_f C (tgt := 281) dX11_init_262 (by decide) (by decide) ?_
  refine jc_aload_n C dX11_init_265 rfl ?_
  refine jc_get C (v := .ref (adr M (c + 1))) dX11_init_266 fl_RX11_7 (by omega) W0_self rfl ?_
  refine jc_bipush C (v := (101 : Int32)) dX11_init_269 (by decide) ?_
  refine jc_iload_n C dX11_init_271 rfl ?_
  refine jc_iadd C (v := (135 : Int32)) dX11_init_272 (by decide) ?_
  refine jc_iconst C (v := (-1 : Int32)) dX11_init_273 (by decide) ?_
  refine jc_iast2 C (a := c + 1) (N := 174) (f := flx 101 34 (-1) (flx 8 6 10 (flx 1 7 10 (upd (fun _ => 0) 0 3)))) (f2 := flx 101 35 (-1) (flx 8 6 10 (flx 1 7 10 (upd (fun _ => 0) 0 3)))) dX11_init_274 (by omega) (by omega) (by omega) (by decide) (by rw [show ((135 : Int32)).toNatClampNeg = 101 + 34 from by decide]; exact flx_s _ _ _ _) ?_
  refine jc_iinc C (v := (35 : Int32)) (Ls' := [(1, .int (35 : Int32)), (0, .ref (adr M c))]) dX11_init_275 0 rfl (by decide) (by decide) rfl ?_
  refine jc_goto C (tgt := 259) dX11_init_278 (by decide) ?_
  refine jc_iload_n C dX11_init_259 rfl ?_
  refine jc_bipush C (v := (60 : Int32)) dX11_init_260 (by decide) ?_
  refine jc_ge_f C (tgt := 281) dX11_init_262 (by decide) (by decide) ?_
  refine jc_aload_n C dX11_init_265 rfl ?_
  refine jc_get C (v := .ref (adr M (c + 1))) dX11_init_266 fl_RX11_7 (by omega) W0_self rfl ?_
  refine jc_bipush C (v := (101 : Int32)) dX11_init_269 (by decide) ?_
  refine jc_iload_n C dX11_init_271 rfl ?_
  refine jc_iadd C (v := (136 : Int32)) dX11_init_272 (by decide) ?_
  refine jc_iconst C (v := (-1 : Int32)) dX11_init_273 (by decide) ?_
  refine jc_iast2 C (a := c + 1) (N := 174) (f := flx 101 35 (-1) (flx 8 6 10 (flx 1 7 10 (upd (fun _ => 0) 0 3)))) (f2 := flx 101 36 (-1) (flx 8 6 10 (flx 1 7 10 (upd (fun _ => 0) 0 3)))) dX11_init_274 (by omega) (by omega) (by omega) (by decide) (by rw [show ((136 : Int32)).toNatClampNeg = 101 + 35 from by decide]; exact flx_s _ _ _ _) ?_
  refine jc_iinc C (v := (36 : Int32)) (Ls' := [(1, .int (36 : Int32)), (0, .ref (adr M c))]) dX11_init_275 0 rfl (by decide) (by decide) rfl ?_
  refine jc_goto C (tgt := 259) dX11_init_278 (by decide) ?_
  refine jc_iload_n C dX11_init_259 rfl ?_
  refine jc_bipush C (v := (60 : Int32)) dX11_init_260 (by decide) ?_
  refine jc_ge_f C (tgt := 281) dX11_init_262 (by decide) (by decide) ?_
  refine jc_aload_n C dX11_init_265 rfl ?_
  refine jc_get C (v := .ref (adr M (c + 1))) dX11_init_266 fl_RX11_7 (by omega) W0_self rfl ?_
  refine jc_bipush C (v := (101 : Int32)) dX11_init_269 (by decide) ?_
  refine jc_iload_n C dX11_init_271 rfl ?_
  refine jc_iadd C (v := (137 : Int32)) dX11_init_272 (by decide) ?_
  refine jc_iconst C (v := (-1 : Int32)) dX11_init_273 (by decide) ?_
  refine jc_iast2 C (a := c + 1) (N := 174) (f := flx 101 36 (-1) (flx 8 6 10 (flx 1 7 10 (upd (fun _ => 0) 0 3)))) (f2 := flx 101 37 (-1) (flx 8 6 10 (flx 1 7 10 (upd (fun _ => 0) 0 3)))) dX11_init_274 (by omega) (by omega) (by omega) (by decide) (by rw [show ((137 : Int32)).toNatClampNeg = 101 + 36 from by decide]; exact flx_s _ _ _ _) ?_
  refine jc_iinc C (v := (37 : Int32)) (Ls' := [(1, .int (37 : Int32)), (0, .ref (adr M c))]) dX11_init_275 0 rfl (by decide) (by decide) rfl ?_
  refine jc_goto C (tgt := 259) dX11_init_278 (by decide) ?_
  refine jc_iload_n C dX11_init_259 rfl ?_
  refine jc_bipush C (v := (60 : Int32)) dX11_init_260 (by decide) ?_
  refine jc_ge_f C (tgt := 281) dX11_init_262 (by decide) (by decide) ?_
  refine jc_aload_n C dX11_init_265 rfl ?_
  refine jc_get C (v := .ref (adr M (c + 1))) dX11_init_266 fl_RX11_7 (by omega) W0_self rfl ?_
  refine jc_bipush C (v := (101 : Int32)) dX11_init_269 (by decide) ?_
  refine jc_iload_n C dX11_init_271 rfl ?_
  refine jc_iadd C (v := (138 : Int32)) dX11_init_272 (by decide) ?_
  refine jc_iconst C (v := (-1 : Int32)) dX11_init_273 (by decide) ?_
  refine jc_iast2 C (a := c + 1) (N := 174) (f := flx 101 37 (-1) (flx 8 6 10 (flx 1 7 10 (upd (fun _ => 0) 0 3)))) (f2 := flx 101 38 (-1) (flx 8 6 10 (flx 1 7 10 (upd (fun _ => 0) 0 3)))) dX11_init_274 (by omega) (by omega) (by omega) (by decide) (by rw [show ((138 : Int32)).toNatClampNeg = 101 + 37 from by decide]; exact flx_s _ _ _ _) ?_
  refine jc_iinc C (v := (38 : Int32)) (Ls' := [(1, .int (38 : Int32)), (0, .ref (adr M c))]) dX11_init_275 0 rfl (by decide) (by decide) rfl ?_
  refine jc_goto C (tgt := 259) dX11_init_278 (by decide) ?_
  refine jc_iload_n C dX11_init_259 rfl ?_
  refine jc_bipush C (v := (60 : Int32)) dX11_init_260 (by decide) ?_
  refine jc_ge_f C (tgt := 281) dX11_init_262 (by decide) (by decide) ?_
  refine jc_aload_n C dX11_init_265 rfl ?_
  refine jc_get C (v := .ref (adr M (c + 1))) dX11_init_266 fl_RX11_7 (by omega) W0_self rfl ?_
  refine jc_bipush C (v := (101 : Int32)) dX11_init_269 (by decide) ?_
  refine jc_iload_n C dX11_init_271 rfl ?_
  refine jc_iadd C (v := (139 : Int32)) dX11_init_272 (by decide) ?_
  refine jc_iconst C (v := (-1 : Int32)) dX11_init_273 (by decide) ?_
  refine jc_iast2 C (a := c + 1) (N := 174) (f := flx 101 38 (-1) (flx 8 6 10 (flx 1 7 10 (upd (fun _ => 0) 0 3)))) (f2 := flx 101 39 (-1) (flx 8 6 10 (flx 1 7 10 (upd (fun _ => 0) 0 3)))) dX11_init_274 (by omega) (by omega) (by omega) (by decide) (by rw [show ((139 : Int32)).toNatClampNeg = 101 + 38 from by decide]; exact flx_s _ _ _ _) ?_
  refine jc_iinc C (v := (39 : Int32)) (Ls' := [(1, .int (39 : Int32)), (0, .ref (adr M c))]) dX11_init_275 0 rfl (by decide) (by decide) rfl ?_
  refine jc_goto C (tgt := 259) dX11_init_278 (by decide) ?_
  refine jc_iload_n C dX11_init_259 rfl ?_
  refine jc_bipush C (v := (60 : Int32)) dX11_init_260 (by decide) ?_
  refine jc_ge_f C (tgt := 281) dX11_init_262 (by decide) (by decide) ?_
  refine jc_aload_n C dX11_init_265 rfl ?_
  refine jc_get C (v := .ref (adr M (c + 1))) dX11_init_266 fl_RX11_7 (by omega) W0_self rfl ?_
  refine jc_bipush C (v := (101 : Int32)) dX11_init_269 (by decide) ?_
  refine jc_iload_n C dX11_init_271 rfl ?_
  refine jc_iadd C (v := (140 : Int32)) dX11_init_272 (by decide) ?_
  refine jc_iconst C (v := (-1 : Int32)) dX11_init_273 (by decide) ?_
  refine jc_iast2 C (a := c + 1) (N := 174) (f := flx 101 39 (-1) (flx 8 6 10 (flx 1 7 10 (upd (fun _ => 0) 0 3)))) (f2 := flx 101 40 (-1) (flx 8 6 10 (flx 1 7 10 (upd (fun _ => 0) 0 3)))) dX11_init_274 (by omega) (by omega) (by omega) (by decide) (by rw [show ((140 : Int32)).toNatClampNeg = 101 + 39 from by decide]; exact flx_s _ _ _ _) ?_
  refine jc_iinc C (v := (40 : Int32)) (Ls' := [(1, .int (40 : Int32)), (0, .ref (adr M c))]) dX11_init_275 0 rfl (by decide) (by decide) rfl ?_
  refine jc_goto C (tgt := 259) dX11_init_278 (by decide) ?_
  refine jc_iload_n C dX11_init_259 rfl ?_
  refine jc_bipush C (v := (60 : Int32)) dX11_init_260 (by decide) ?_
  refine jc_ge_f C (tgt := 281) dX11_init_262 (by decide) (by decide) ?_
  refine jc_aload_n C dX11_init_265 rfl ?_
  refine jc_get C (v := .ref (adr M (c + 1))) dX11_init_266 fl_RX11_7 (by omega) W0_self rfl ?_
  refine jc_bipush C (v := (101 : Int32)) dX11_init_269 (by decide) ?_
  refine jc_iload_n C dX11_init_271 rfl ?_
  refine jc_iadd C (v := (141 : Int32)) dX11_init_272 (by decide) ?_
  refine jc_iconst C (v := (-1 : Int32)) dX11_init_273 (by decide) ?_
  refine jc_iast2 C (a := c + 1) (N := 174) (f := flx 101 40 (-1) (flx 8 6 10 (flx 1 7 10 (upd (fun _ => 0) 0 3)))) (f2 := flx 101 41 (-1) (flx 8 6 10 (flx 1 7 10 (upd (fun _ => 0) 0 3)))) dX11_init_274 (by omega) (by omega) (by omega) (by decide) (by rw [show ((141 : Int32)).toNatClampNeg = 101 + 40 from by decide]; exact flx_s _ _ _ _) ?_
  refine jc_iinc C (v := (41 : Int32)) (Ls' := [(1, .int (41 : Int32)), (0, .ref (adr M c))]) dX11_init_275 0 rfl (by decide) (by decide) rfl ?_
  refine jc_goto C (tgt := 259) dX11_init_278 (by decide) ?_
  refine jc_iload_n C dX11_init_259 rfl ?_
  refine jc_bipush C (v := (60 : Int32)) dX11_init_260 (by decide) ?_
  refine jc_ge_f C (tgt := 281) dX11_init_262 (by decide) (by decide) ?_
  refine jc_aload_n C dX11_init_265 rfl ?_
  refine jc_get C (v := .ref (adr M (c + 1))) dX11_init_266 fl_RX11_7 (by omega) W0_self rfl ?_
  refine jc_bipush C (v := (101 : Int32)) dX11_init_269 (by decide) ?_
  refine jc_iload_n C dX11_init_271 rfl ?_
  refine jc_iadd C (v := (142 : Int32)) dX11_init_272 (by decide) ?_
  refine jc_iconst C (v := (-1 : Int32)) dX11_init_273 (by decide) ?_
  refine jc_iast2 C (a := c + 1) (N := 174) (f := flx 101 41 (-1) (flx 8 6 10 (flx 1 7 10 (upd (fun _ => 0) 0 3)))) (f2 := flx 101 42 (-1) (flx 8 6 10 (flx 1 7 10 (upd (fun _ => 0) 0 3)))) dX11_init_274 (by omega) (by omega) (by omega) (by decide) (by rw [show ((142 : Int32)).toNatClampNeg = 101 + 41 from by decide]; exact flx_s _ _ _ _) ?_
  refine jc_iinc C (v := (42 : Int32)) (Ls' := [(1, .int (42 : Int32)), (0, .ref (adr M c))]) dX11_init_275 0 rfl (by decide) (by decide) rfl ?_
  refine jc_goto C (tgt := 259) dX11_init_278 (by decide) ?_
  refine jc_iload_n C dX11_init_259 rfl ?_
  refine jc_bipush C (v := (60 : Int32)) dX11_init_260 (by decide) ?_
  refine jc_ge_f C (tgt := 281) dX11_init_262 (by decide) (by decide) ?_
  refine jc_aload_n C dX11_init_265 rfl ?_
  refine jc_get C (v := .ref (adr M (c + 1))) dX11_init_266 fl_RX11_7 (by omega) W0_self rfl ?_
  refine jc_bipush C (v := (101 : Int32)) dX11_init_269 (by decide) ?_
  refine jc_iload_n C dX11_init_271 rfl ?_
  refine jc_iadd C (v := (143 : Int32)) dX11_init_272 (by decide) ?_
  refine jc_iconst C (v := (-1 : Int32)) dX11_init_273 (by decide) ?_
  refine jc_iast2 C (a := c + 1) (N := 174) (f := flx 101 42 (-1) (flx 8 6 10 (flx 1 7 10 (upd (fun _ => 0) 0 3)))) (f2 := flx 101 43 (-1) (flx 8 6 10 (flx 1 7 10 (upd (fun _ => 0) 0 3)))) dX11_init_274 (by omega) (by omega) (by omega) (by decide) (by rw [show ((143 : Int32)).toNatClampNeg = 101 + 42 from by decide]; exact flx_s _ _ _ _) ?_
  refine jc_iinc C (v := (43 : Int32)) (Ls' := [(1, .int (43 : Int32)), (0, .ref (adr M c))]) dX11_init_275 0 rfl (by decide) (by decide) rfl ?_
  refine jc_goto C (tgt := 259) dX11_init_278 (by decide) ?_
  refine jc_iload_n C dX11_init_259 rfl ?_
  refine jc_bipush C (v := (60 : Int32)) dX11_init_260 (by decide) ?_
  refine jc_ge_f C (tgt := 281) dX11_init_262 (by decide) (by decide) ?_
  refine jc_aload_n C dX11_init_265 rfl ?_
  refine jc_get C (v := .ref (adr M (c + 1))) dX11_init_266 fl_RX11_7 (by omega) W0_self rfl ?_
  refine jc_bipush C (v := (101 : Int32)) dX11_init_269 (by decide) ?_
  refine jc_iload_n C dX11_init_271 rfl ?_
  refine jc_iadd C (v := (144 : Int32)) dX11_init_272 (by decide) ?_
  refine jc_iconst C (v := (-1 : Int32)) dX11_init_273 (by decide) ?_
  refine jc_iast2 C (a := c + 1) (N := 174) (f := flx 101 43 (-1) (flx 8 6 10 (flx 1 7 10 (upd (fun _ => 0) 0 3)))) (f2 := flx 101 44 (-1) (flx 8 6 10 (flx 1 7 10 (upd (fun _ => 0) 0 3)))) dX11_init_274 (by omega) (by omega) (by omega) (by decide) (by rw [show ((144 : Int32)).toNatClampNeg = 101 + 43 from by decide]; exact flx_s _ _ _ _) ?_
  refine jc_iinc C (v := (44 : Int32)) (Ls' := [(1, .int (44 : Int32)), (0, .ref (adr M c))]) dX11_init_275 0 rfl (by decide) (by decide) rfl ?_
  refine jc_goto C (tgt := 259) dX11_init_278 (by decide) ?_
  refine jc_iload_n C dX11_init_259 rfl ?_
  refine jc_bipush C (v := (60 : Int32)) dX11_init_260 (by decide) ?_
  refine jc_ge_f C (tgt := 281) dX11_init_262 (by decide) (by decide) ?_
  refine jc_aload_n C dX11_init_265 rfl ?_
  refine jc_get C (v := .ref (adr M (c + 1))) dX11_init_266 fl_RX11_7 (by omega) W0_self rfl ?_
  refine jc_bipush C (v := (101 : Int32)) dX11_init_269 (by decide) ?_
  refine jc_iload_n C dX11_init_271 rfl ?_
  refine jc_iadd C (v := (145 : Int32)) dX11_init_272 (by decide) ?_
  refine jc_iconst C (v := (-1 : Int32)) dX11_init_273 (by decide) ?_
  refine jc_iast2 C (a := c + 1) (N := 174) (f := flx 101 44 (-1) (flx 8 6 10 (flx 1 7 10 (upd (fun _ => 0) 0 3)))) (f2 := flx 101 45 (-1) (flx 8 6 10 (flx 1 7 10 (upd (fun _ => 0) 0 3)))) dX11_init_274 (by omega) (by omega) (by omega) (by decide) (by rw [show ((145 : Int32)).toNatClampNeg = 101 + 44 from by decide]; exact flx_s _ _ _ _) ?_
  refine jc_iinc C (v := (45 : Int32)) (Ls' := [(1, .int (45 : Int32)), (0, .ref (adr M c))]) dX11_init_275 0 rfl (by decide) (by decide) rfl ?_
  refine jc_goto C (tgt := 259) dX11_init_278 (by decide) ?_
  refine jc_iload_n C dX11_init_259 rfl ?_
  refine jc_bipush C (v := (60 : Int32)) dX11_init_260 (by decide) ?_
  refine jc_ge_f C (tgt := 281) dX11_init_262 (by decide) (by decide) ?_
  refine jc_aload_n C dX11_init_265 rfl ?_
  refine jc_get C (v := .ref (adr M (c + 1))) dX11_init_266 fl_RX11_7 (by omega) W0_self rfl ?_
  refine jc_bipush C (v := (101 : Int32)) dX11_init_269 (by decide) ?_
  refine jc_iload_n C dX11_init_271 rfl ?_
  refine jc_iadd C (v := (146 : Int32)) dX11_init_272 (by decide) ?_
  refine jc_iconst C (v := (-1 : Int32)) dX11_init_273 (by decide) ?_
  refine jc_iast2 C (a := c + 1) (N := 174) (f := flx 101 45 (-1) (flx 8 6 10 (flx 1 7 10 (upd (fun _ => 0) 0 3)))) (f2 := flx 101 46 (-1) (flx 8 6 10 (flx 1 7 10 (upd (fun _ => 0) 0 3)))) dX11_init_274 (by omega) (by omega) (by omega) (by decide) (by rw [show ((146 : Int32)).toNatClampNeg = 101 + 45 from by decide]; exact flx_s _ _ _ _) ?_
  refine jc_iinc C (v := (46 : Int32)) (Ls' := [(1, .int (46 : Int32)), (0, .ref (adr M c))]) dX11_init_275 0 rfl (by decide) (by decide) rfl ?_
  refine jc_goto C (tgt := 259) dX11_init_278 (by decide) ?_
  refine jc_iload_n C dX11_init_259 rfl ?_
  refine jc_bipush C (v := (60 : Int32)) dX11_init_260 (by decide) ?_
  refine jc_ge_f C (tgt := 281) dX11_init_262 (by decide) (by decide) ?_
  refine jc_aload_n C dX11_init_265 rfl ?_
  refine jc_get C (v := .ref (adr M (c + 1))) dX11_init_266 fl_RX11_7 (by omega) W0_self rfl ?_
  refine jc_bipush C (v := (101 : Int32)) dX11_init_269 (by decide) ?_
  refine jc_iload_n C dX11_init_271 rfl ?_
  refine jc_iadd C (v := (147 : Int32)) dX11_init_272 (by decide) ?_
  refine jc_iconst C (v := (-1 : Int32)) dX11_init_273 (by decide) ?_
  refine jc_iast2 C (a := c + 1) (N := 174) (f := flx 101 46 (-1) (flx 8 6 10 (flx 1 7 10 (upd (fun _ => 0) 0 3)))) (f2 := flx 101 47 (-1) (flx 8 6 10 (flx 1 7 10 (upd (fun _ => 0) 0 3)))) dX11_init_274 (by omega) (by omega) (by omega) (by decide) (by rw [show ((147 : Int32)).toNatClampNeg = 101 + 46 from by decide]; exact flx_s _ _ _ _) ?_
  refine jc_iinc C (v := (47 : Int32)) (Ls' := [(1, .int (47 : Int32)), (0, .ref (adr M c))]) dX11_init_275 0 rfl (by decide) (by decide) rfl ?_
  refine jc_goto C (tgt := 259) dX11_init_278 (by decide) ?_
  refine jc_iload_n C dX11_init_259 rfl ?_
  refine jc_bipush C (v := (60 : Int32)) dX11_init_260 (by decide) ?_
  refine jc_ge_f C (tgt := 281) dX11_init_262 (by decide) (by decide) ?_
  refine jc_aload_n C dX11_init_265 rfl ?_
  refine jc_get C (v := .ref (adr M (c + 1))) dX11_init_266 fl_RX11_7 (by omega) W0_self rfl ?_
  refine jc_bipush C (v := (101 : Int32)) dX11_init_269 (by decide) ?_
  refine jc_iload_n C dX11_init_271 rfl ?_
  refine jc_iadd C (v := (148 : Int32)) dX11_init_272 (by decide) ?_
  refine jc_iconst C (v := (-1 : Int32)) dX11_init_273 (by decide) ?_
  refine jc_iast2 C (a := c + 1) (N := 174) (f := flx 101 47 (-1) (flx 8 6 10 (flx 1 7 10 (upd (fun _ => 0) 0 3)))) (f2 := flx 101 48 (-1) (flx 8 6 10 (flx 1 7 10 (upd (fun _ => 0) 0 3)))) dX11_init_274 (by omega) (by omega) (by omega) (by decide) (by rw [show ((148 : Int32)).toNatClampNeg = 101 + 47 from by decide]; exact flx_s _ _ _ _) ?_
  refine jc_iinc C (v := (48 : Int32)) (Ls' := [(1, .int (48 : Int32)), (0, .ref (adr M c))]) dX11_init_275 0 rfl (by decide) (by decide) rfl ?_
  refine jc_goto C (tgt := 259) dX11_init_278 (by decide) ?_
  refine jc_iload_n C dX11_init_259 rfl ?_
  refine jc_bipush C (v := (60 : Int32)) dX11_init_260 (by decide) ?_
  refine jc_ge_f C (tgt := 281) dX11_init_262 (by decide) (by decide) ?_
  refine jc_aload_n C dX11_init_265 rfl ?_
  refine jc_get C (v := .ref (adr M (c + 1))) dX11_init_266 fl_RX11_7 (by omega) W0_self rfl ?_
  refine jc_bipush C (v := (101 : Int32)) dX11_init_269 (by decide) ?_
  refine jc_iload_n C dX11_init_271 rfl ?_
  refine jc_iadd C (v := (149 : Int32)) dX11_init_272 (by decide) ?_
  refine jc_iconst C (v := (-1 : Int32)) dX11_init_273 (by decide) ?_
  refine jc_iast2 C (a := c + 1) (N := 174) (f := flx 101 48 (-1) (flx 8 6 10 (flx 1 7 10 (upd (fun _ => 0) 0 3)))) (f2 := flx 101 49 (-1) (flx 8 6 10 (flx 1 7 10 (upd (fun _ => 0) 0 3)))) dX11_init_274 (by omega) (by omega) (by omega) (by decide) (by rw [show ((149 : Int32)).toNatClampNeg = 101 + 48 from by decide]; exact flx_s _ _ _ _) ?_
  refine jc_iinc C (v := (49 : Int32)) (Ls' := [(1, .int (49 : Int32)), (0, .ref (adr M c))]) dX11_init_275 0 rfl (by decide) (by decide) rfl ?_
  refine jc_goto C (tgt := 259) dX11_init_278 (by decide) ?_
  refine jc_iload_n C dX11_init_259 rfl ?_
  refine jc_bipush C (v := (60 : Int32)) dX11_init_260 (by decide) ?_
  refine jc_ge_f C (tgt := 281) dX11_init_262 (by decide) (by decide) ?_
  refine jc_aload_n C dX11_init_265 rfl ?_
  refine jc_get C (v := .ref (adr M (c + 1))) dX11_init_266 fl_RX11_7 (by omega) W0_self rfl ?_
  refine jc_bipush C (v := (101 : Int32)) dX11_init_269 (by decide) ?_
  refine jc_iload_n C dX11_init_271 rfl ?_
  refine jc_iadd C (v := (150 : Int32)) dX11_init_272 (by decide) ?_
  refine jc_iconst C (v := (-1 : Int32)) dX11_init_273 (by decide) ?_
  refine jc_iast2 C (a := c + 1) (N := 174) (f := flx 101 49 (-1) (flx 8 6 10 (flx 1 7 10 (upd (fun _ => 0) 0 3)))) (f2 := flx 101 50 (-1) (flx 8 6 10 (flx 1 7 10 (upd (fun _ => 0) 0 3)))) dX11_init_274 (by omega) (by omega) (by omega) (by decide) (by rw [show ((150 : Int32)).toNatClampNeg = 101 + 49 from by decide]; exact flx_s _ _ _ _) ?_
  refine jc_iinc C (v := (50 : Int32)) (Ls' := [(1, .int (50 : Int32)), (0, .ref (adr M c))]) dX11_init_275 0 rfl (by decide) (by decide) rfl ?_
  refine jc_goto C (tgt := 259) dX11_init_278 (by decide) ?_
  refine jc_iload_n C dX11_init_259 rfl ?_
  refine jc_bipush C (v := (60 : Int32)) dX11_init_260 (by decide) ?_
  refine jc_ge_f C (tgt := 281) dX11_init_262 (by decide) (by decide) ?_
  refine jc_aload_n C dX11_init_265 rfl ?_
  refine jc_get C (v := .ref (adr M (c + 1))) dX11_init_266 fl_RX11_7 (by omega) W0_self rfl ?_
  refine jc_bipush C (v := (101 : Int32)) dX11_init_269 (by decide) ?_
  refine jc_iload_n C dX11_init_271 rfl ?_
  refine jc_iadd C (v := (151 : Int32)) dX11_init_272 (by decide) ?_
  refine jc_iconst C (v := (-1 : Int32)) dX11_init_273 (by decide) ?_
  refine jc_iast2 C (a := c + 1) (N := 174) (f := flx 101 50 (-1) (flx 8 6 10 (flx 1 7 10 (upd (fun _ => 0) 0 3)))) (f2 := flx 101 51 (-1) (flx 8 6 10 (flx 1 7 10 (upd (fun _ => 0) 0 3)))) dX11_init_274 (by omega) (by omega) (by omega) (by decide) (by rw [show ((151 : Int32)).toNatClampNeg = 101 + 50 from by decide]; exact flx_s _ _ _ _) ?_
  refine jc_iinc C (v := (51 : Int32)) (Ls' := [(1, .int (51 : Int32)), (0, .ref (adr M c))]) dX11_init_275 0 rfl (by decide) (by decide) rfl ?_
  refine jc_goto C (tgt := 259) dX11_init_278 (by decide) ?_
  refine jc_iload_n C dX11_init_259 rfl ?_
  refine jc_bipush C (v := (60 : Int32)) dX11_init_260 (by decide) ?_
  refine jc_ge_f C (tgt := 281) dX11_init_262 (by decide) (by decide) ?_
  refine jc_aload_n C dX11_init_265 rfl ?_
  refine jc_get C (v := .ref (adr M (c + 1))) dX11_init_266 fl_RX11_7 (by omega) W0_self rfl ?_
  refine jc_bipush C (v := (101 : Int32)) dX11_init_269 (by decide) ?_
  refine jc_iload_n C dX11_init_271 rfl ?_
  refine jc_iadd C (v := (152 : Int32)) dX11_init_272 (by decide) ?_
  refine jc_iconst C (v := (-1 : Int32)) dX11_init_273 (by decide) ?_
  refine jc_iast2 C (a := c + 1) (N := 174) (f := flx 101 51 (-1) (flx 8 6 10 (flx 1 7 10 (upd (fun _ => 0) 0 3)))) (f2 := flx 101 52 (-1) (flx 8 6 10 (flx 1 7 10 (upd (fun _ => 0) 0 3)))) dX11_init_274 (by omega) (by omega) (by omega) (by decide) (by rw [show ((152 : Int32)).toNatClampNeg = 101 + 51 from by decide]; exact flx_s _ _ _ _) ?_
  refine jc_iinc C (v := (52 : Int32)) (Ls' := [(1, .int (52 : Int32)), (0, .ref (adr M c))]) dX11_init_275 0 rfl (by decide) (by decide) rfl ?_
  refine jc_goto C (tgt := 259) dX11_init_278 (by decide) ?_
  refine jc_iload_n C dX11_init_259 rfl ?_
  refine jc_bipush C (v := (60 : Int32)) dX11_init_260 (by decide) ?_
  refine jc_ge_f C (tgt := 281) dX11_init_262 (by decide) (by decide) ?_
  refine jc_aload_n C dX11_init_265 rfl ?_
  refine jc_get C (v := .ref (adr M (c + 1))) dX11_init_266 fl_RX11_7 (by omega) W0_self rfl ?_
  refine jc_bipush C (v := (101 : Int32)) dX11_init_269 (by decide) ?_
  refine jc_iload_n C dX11_init_271 rfl ?_
  refine jc_iadd C (v := (153 : Int32)) dX11_init_272 (by decide) ?_
  refine jc_iconst C (v := (-1 : Int32)) dX11_init_273 (by decide) ?_
  refine jc_iast2 C (a := c + 1) (N := 174) (f := flx 101 52 (-1) (flx 8 6 10 (flx 1 7 10 (upd (fun _ => 0) 0 3)))) (f2 := flx 101 53 (-1) (flx 8 6 10 (flx 1 7 10 (upd (fun _ => 0) 0 3)))) dX11_init_274 (by omega) (by omega) (by omega) (by decide) (by rw [show ((153 : Int32)).toNatClampNeg = 101 + 52 from by decide]; exact flx_s _ _ _ _) ?_
  refine jc_iinc C (v := (53 : Int32)) (Ls' := [(1, .int (53 : Int32)), (0, .ref (adr M c))]) dX11_init_275 0 rfl (by decide) (by decide) rfl ?_
  refine jc_goto C (tgt := 259) dX11_init_278 (by decide) ?_
  refine jc_iload_n C dX11_init_259 rfl ?_
  refine jc_bipush C (v := (60 : Int32)) dX11_init_260 (by decide) ?_
  refine jc_ge_f C (tgt := 281) dX11_init_262 (by decide) (by decide) ?_
  refine jc_aload_n C dX11_init_265 rfl ?_
  refine jc_get C (v := .ref (adr M (c + 1))) dX11_init_266 fl_RX11_7 (by omega) W0_self rfl ?_
  refine jc_bipush C (v := (101 : Int32)) dX11_init_269 (by decide) ?_
  refine jc_iload_n C dX11_init_271 rfl ?_
  refine jc_iadd C (v := (154 : Int32)) dX11_init_272 (by decide) ?_
  refine jc_iconst C (v := (-1 : Int32)) dX11_init_273 (by decide) ?_
  refine jc_iast2 C (a := c + 1) (N := 174) (f := flx 101 53 (-1) (flx 8 6 10 (flx 1 7 10 (upd (fun _ => 0) 0 3)))) (f2 := flx 101 54 (-1) (flx 8 6 10 (flx 1 7 10 (upd (fun _ => 0) 0 3)))) dX11_init_274 (by omega) (by omega) (by omega) (by decide) (by rw [show ((154 : Int32)).toNatClampNeg = 101 + 53 from by decide]; exact flx_s _ _ _ _) ?_
  refine jc_iinc C (v := (54 : Int32)) (Ls' := [(1, .int (54 : Int32)), (0, .ref (adr M c))]) dX11_init_275 0 rfl (by decide) (by decide) rfl ?_
  refine jc_goto C (tgt := 259) dX11_init_278 (by decide) ?_
  refine jc_iload_n C dX11_init_259 rfl ?_
  refine jc_bipush C (v := (60 : Int32)) dX11_init_260 (by decide) ?_
  refine jc_ge_f C (tgt := 281) dX11_init_262 (by decide) (by decide) ?_
  refine jc_aload_n C dX11_init_265 rfl ?_
  refine jc_get C (v := .ref (adr M (c + 1))) dX11_init_266 fl_RX11_7 (by omega) W0_self rfl ?_
  refine jc_bipush C (v := (101 : Int32)) dX11_init_269 (by decide) ?_
  refine jc_iload_n C dX11_init_271 rfl ?_
  refine jc_iadd C (v := (155 : Int32)) dX11_init_272 (by decide) ?_
  refine jc_iconst C (v := (-1 : Int32)) dX11_init_273 (by decide) ?_
  refine jc_iast2 C (a := c + 1) (N := 174) (f := flx 101 54 (-1) (flx 8 6 10 (flx 1 7 10 (upd (fun _ => 0) 0 3)))) (f2 := flx 101 55 (-1) (flx 8 6 10 (flx 1 7 10 (upd (fun _ => 0) 0 3)))) dX11_init_274 (by omega) (by omega) (by omega) (by decide) (by rw [show ((155 : Int32)).toNatClampNeg = 101 + 54 from by decide]; exact flx_s _ _ _ _) ?_
  refine jc_iinc C (v := (55 : Int32)) (Ls' := [(1, .int (55 : Int32)), (0, .ref (adr M c))]) dX11_init_275 0 rfl (by decide) (by decide) rfl ?_
  refine jc_goto C (tgt := 259) dX11_init_278 (by decide) ?_
  refine jc_iload_n C dX11_init_259 rfl ?_
  refine jc_bipush C (v := (60 : Int32)) dX11_init_260 (by decide) ?_
  refine jc_ge_f C (tgt := 281) dX11_init_262 (by decide) (by decide) ?_
  refine jc_aload_n C dX11_init_265 rfl ?_
  refine jc_get C (v := .ref (adr M (c + 1))) dX11_init_266 fl_RX11_7 (by omega) W0_self rfl ?_
  refine jc_bipush C (v := (101 : Int32)) dX11_init_269 (by decide) ?_
  refine jc_iload_n C dX11_init_271 rfl ?_
  refine jc_iadd C (v := (156 : Int32)) dX11_init_272 (by decide) ?_
  refine jc_iconst C (v := (-1 : Int32)) dX11_init_273 (by decide) ?_
  refine jc_iast2 C (a := c + 1) (N := 174) (f := flx 101 55 (-1) (flx 8 6 10 (flx 1 7 10 (upd (fun _ => 0) 0 3)))) (f2 := flx 101 56 (-1) (flx 8 6 10 (flx 1 7 10 (upd (fun _ => 0) 0 3)))) dX11_init_274 (by omega) (by omega) (by omega) (by decide) (by rw [show ((156 : Int32)).toNatClampNeg = 101 + 55 from by decide]; exact flx_s _ _ _ _) ?_
  refine jc_iinc C (v := (56 : Int32)) (Ls' := [(1, .int (56 : Int32)), (0, .ref (adr M c))]) dX11_init_275 0 rfl (by decide) (by decide) rfl ?_
  refine jc_goto C (tgt := 259) dX11_init_278 (by decide) ?_
  refine jc_iload_n C dX11_init_259 rfl ?_
  refine jc_bipush C (v := (60 : Int32)) dX11_init_260 (by decide) ?_
  refine jc_ge_f C (tgt := 281) dX11_init_262 (by decide) (by decide) ?_
  refine jc_aload_n C dX11_init_265 rfl ?_
  refine jc_get C (v := .ref (adr M (c + 1))) dX11_init_266 fl_RX11_7 (by omega) W0_self rfl ?_
  refine jc_bipush C (v := (101 : Int32)) dX11_init_269 (by decide) ?_
  refine jc_iload_n C dX11_init_271 rfl ?_
  refine jc_iadd C (v := (157 : Int32)) dX11_init_272 (by decide) ?_
  refine jc_iconst C (v := (-1 : Int32)) dX11_init_273 (by decide) ?_
  refine jc_iast2 C (a := c + 1) (N := 174) (f := flx 101 56 (-1) (flx 8 6 10 (flx 1 7 10 (upd (fun _ => 0) 0 3)))) (f2 := flx 101 57 (-1) (flx 8 6 10 (flx 1 7 10 (upd (fun _ => 0) 0 3)))) dX11_init_274 (by omega) (by omega) (by omega) (by decide) (by rw [show ((157 : Int32)).toNatClampNeg = 101 + 56 from by decide]; exact flx_s _ _ _ _) ?_
  refine jc_iinc C (v := (57 : Int32)) (Ls' := [(1, .int (57 : Int32)), (0, .ref (adr M c))]) dX11_init_275 0 rfl (by decide) (by decide) rfl ?_
  refine jc_goto C (tgt := 259) dX11_init_278 (by decide) ?_
  refine jc_iload_n C dX11_init_259 rfl ?_
  refine jc_bipush C (v := (60 : Int32)) dX11_init_260 (by decide) ?_
  refine jc_ge_f C (tgt := 281) dX11_init_262 (by decide) (by decide) ?_
  refine jc_aload_n C dX11_init_265 rfl ?_
  refine jc_get C (v := .ref (adr M (c + 1))) dX11_init_266 fl_RX11_7 (by omega) W0_self rfl ?_
  refine jc_bipush C (v := (101 : Int32)) dX11_init_269 (by decide) ?_
  refine jc_iload_n C dX11_init_271 rfl ?_
  refine jc_iadd C (v := (158 : Int32)) dX11_init_272 (by decide) ?_
  refine jc_iconst C (v := (-1 : Int32)) dX11_init_273 (by decide) ?_
  refine jc_iast2 C (a := c + 1) (N := 174) (f := flx 101 57 (-1) (flx 8 6 10 (flx 1 7 10 (upd (fun _ => 0) 0 3)))) (f2 := flx 101 58 (-1) (flx 8 6 10 (flx 1 7 10 (upd (fun _ => 0) 0 3)))) dX11_init_274 (by omega) (by omega) (by omega) (by decide) (by rw [show ((158 : Int32)).toNatClampNeg = 101 + 57 from by decide]; exact flx_s _ _ _ _) ?_
  refine jc_iinc C (v := (58 : Int32)) (Ls' := [(1, .int (58 : Int32)), (0, .ref (adr M c))]) dX11_init_275 0 rfl (by decide) (by decide) rfl ?_
  refine jc_goto C (tgt := 259) dX11_init_278 (by decide) ?_
  refine jc_iload_n C dX11_init_259 rfl ?_
  refine jc_bipush C (v := (60 : Int32)) dX11_init_260 (by decide) ?_
  refine jc_ge_f C (tgt := 281) dX11_init_262 (by decide) (by decide) ?_
  refine jc_aload_n C dX11_init_265 rfl ?_
  refine jc_get C (v := .ref (adr M (c + 1))) dX11_init_266 fl_RX11_7 (by omega) W0_self rfl ?_
  refine jc_bipush C (v := (101 : Int32)) dX11_init_269 (by decide) ?_
  refine jc_iload_n C dX11_init_271 rfl ?_
  refine jc_iadd C (v := (159 : Int32)) dX11_init_272 (by decide) ?_
  refine jc_iconst C (v := (-1 : Int32)) dX11_init_273 (by decide) ?_
  refine jc_iast2 C (a := c + 1) (N := 174) (f := flx 101 58 (-1) (flx 8 6 10 (flx 1 7 10 (upd (fun _ => 0) 0 3)))) (f2 := flx 101 59 (-1) (flx 8 6 10 (flx 1 7 10 (upd (fun _ => 0) 0 3)))) dX11_init_274 (by omega) (by omega) (by omega) (by decide) (by rw [show ((159 : Int32)).toNatClampNeg = 101 + 58 from by decide]; exact flx_s _ _ _ _) ?_
  refine jc_iinc C (v := (59 : Int32)) (Ls' := [(1, .int (59 : Int32)), (0, .ref (adr M c))]) dX11_init_275 0 rfl (by decide) (by decide) rfl ?_
  refine jc_goto C (tgt := 259) dX11_init_278 (by decide) ?_
  refine jc_iload_n C dX11_init_259 rfl ?_
  refine jc_bipush C (v := (60 : Int32)) dX11_init_260 (by decide) ?_
  refine jc_ge_f C (tgt := 281) dX11_init_262 (by decide) (by decide) ?_
  refine jc_aload_n C dX11_init_265 rfl ?_
  refine jc_get C (v := .ref (adr M (c + 1))) dX11_init_266 fl_RX11_7 (by omega) W0_self rfl ?_
  refine jc_bipush C (v := (101 : Int32)) dX11_init_269 (by decide) ?_
  refine jc_iload_n C dX11_init_271 rfl ?_
  refine jc_iadd C (v := (160 : Int32)) dX11_init_272 (by decide) ?_
  refine jc_iconst C (v := (-1 : Int32)) dX11_init_273 (by decide) ?_
  refine jc_iast2 C (a := c + 1) (N := 174) (f := flx 101 59 (-1) (flx 8 6 10 (flx 1 7 10 (upd (fun _ => 0) 0 3)))) (f2 := flx 101 60 (-1) (flx 8 6 10 (flx 1 7 10 (upd (fun _ => 0) 0 3)))) dX11_init_274 (by omega) (by omega) (by omega) (by decide) (by rw [show ((160 : Int32)).toNatClampNeg = 101 + 59 from by decide]; exact flx_s _ _ _ _) ?_
  refine jc_iinc C (v := (60 : Int32)) (Ls' := [(1, .int (60 : Int32)), (0, .ref (adr M c))]) dX11_init_275 0 rfl (by decide) (by decide) rfl ?_
  refine jc_goto C (tgt := 259) dX11_init_278 (by decide) ?_
  refine jc_iload_n C dX11_init_259 rfl ?_
  refine jc_bipush C (v := (60 : Int32)) dX11_init_260 (by decide) ?_
  refine jc_ge_t C (tgt := 281) dX11_init_262 (by decide) (by decide) ?_
  exact jc_vret C hE dX11_init_281 (fin0 hself (fun q _ _ => ov_ok hov q)) (by omega) (hE.at hsz (by omega))
