set_option maxRecDepth 20000 in
set_option maxHeartbeats 4000000 in
theorem CX10_fouls (l : Launch) (M : Mc) (hD : Dj M) (v0 : Nat) (h0 : isK v0 10) (σ : Sg) : Ct l M yX10_fouls cX10_fouls 1 (some .int) { frames := 6, cells := 0, slots := 0, locals := 164 } vI [.ref (adr M v0)] σ (fX10_fouls v0 σ) := by
  refine ct_of (l := l) hD (by decide) (Nat.le_of_ble_eq_true rfl) ?_
  intro p e s m args below meth c C
  unfold fX10_fouls
  refine j_aload_n C dX10_fouls_0 rfl ?_
  refine j_getR C dX10_fouls_1 fl_RX10_20 h0 (by decide) rfl rfl (by decide) (fun h_1 => ?_)
  refine j_callVR C (As := []) dX10_fouls_4 (fun _ _ hG => CX0_played_k h_1 hG) (CX0_played l M hD (rf v0 1) h_1 σ) vv_RX10_161 h_1 (by decide) rfl rfl ⟨rfl, rfl⟩ (by decide) (Nat.le_of_ble_eq_true rfl) ⟨Nat.zero_le _, Nat.zero_le _⟩ (fun r_4 s_4 h_4 => ?_)
  refine j_getI C dX10_fouls_7 fl_RX10_197 h_4 (by decide) rfl ?_
  exact j_iret C dX10_fouls_10
set_option maxRecDepth 20000 in
set_option maxHeartbeats 4000000 in
theorem CX10_delay (l : Launch) (M : Mc) (hD : Dj M) (v0 : Nat) (h0 : isK v0 10) (σ : Sg) : Ct l M yX10_delay cX10_delay 1 (some .int) { frames := 6, cells := 0, slots := 0, locals := 164 } vI [.ref (adr M v0)] σ (fX10_delay v0 σ) := by
  refine ct_of (l := l) hD (by decide) (Nat.le_of_ble_eq_true rfl) ?_
  intro p e s m args below meth c C
  unfold fX10_delay
  refine j_aload_n C dX10_delay_0 rfl ?_
  refine j_getR C dX10_delay_1 fl_RX10_20 h0 (by decide) rfl rfl (by decide) (fun h_1 => ?_)
  refine j_callVR C (As := []) dX10_delay_4 (fun _ _ hG => CX0_played_k h_1 hG) (CX0_played l M hD (rf v0 1) h_1 σ) vv_RX10_161 h_1 (by decide) rfl rfl ⟨rfl, rfl⟩ (by decide) (Nat.le_of_ble_eq_true rfl) ⟨Nat.zero_le _, Nat.zero_le _⟩ (fun r_4 s_4 h_4 => ?_)
  refine j_getI C dX10_delay_7 fl_RX10_200 h_4 (by decide) rfl ?_
  exact j_iret C dX10_delay_10
set_option maxRecDepth 20000 in
set_option maxHeartbeats 4000000 in
theorem CX4_lesserOf (l : Launch) (M : Mc) (hD : Dj M) (v0 : Int32) (σ : Sg) : Ct l M yX4_lesserOf cX4_lesserOf 1 (some .int) { frames := 0, cells := 0, slots := 0, locals := 0 } vI [.int v0] σ (fX4_lesserOf v0 σ) := by
  refine ct_of (l := l) hD (by decide) (Nat.le_of_ble_eq_true rfl) ?_
  intro p e s m args below meth c C
  unfold fX4_lesserOf
  refine j_iload_n C dX4_lesserOf_0 rfl ?_
  refine j_bipush C (v := (7 : Int32)) dX4_lesserOf_1 (by decide) ?_
  refine j_idiv C dX4_lesserOf_3 (by decide) ?_
  refine j_iconst C (v := (5 : Int32)) dX4_lesserOf_4 (by decide) ?_
  refine j_idiv C dX4_lesserOf_5 (by decide) ?_
  exact j_iret C dX4_lesserOf_6
set_option maxRecDepth 20000 in
set_option maxHeartbeats 4000000 in
theorem CX4_greaterOf (l : Launch) (M : Mc) (hD : Dj M) (v0 : Int32) (σ : Sg) : Ct l M yX4_greaterOf cX4_greaterOf 1 (some .int) { frames := 0, cells := 0, slots := 0, locals := 0 } vI [.int v0] σ (fX4_greaterOf v0 σ) := by
  refine ct_of (l := l) hD (by decide) (Nat.le_of_ble_eq_true rfl) ?_
  intro p e s m args below meth c C
  unfold fX4_greaterOf
  refine j_iload_n C dX4_greaterOf_0 rfl ?_
  refine j_bipush C (v := (7 : Int32)) dX4_greaterOf_1 (by decide) ?_
  refine j_idiv C dX4_greaterOf_3 (by decide) ?_
  refine j_iconst C (v := (5 : Int32)) dX4_greaterOf_4 (by decide) ?_
  refine j_irem C dX4_greaterOf_5 (by decide) ?_
  exact j_iret C dX4_greaterOf_6
set_option maxRecDepth 20000 in
set_option maxHeartbeats 4000000 in
theorem CX4_stationOf (l : Launch) (M : Mc) (hD : Dj M) (v0 : Int32) (σ : Sg) : Ct l M yX4_stationOf cX4_stationOf 1 (some .int) { frames := 0, cells := 0, slots := 0, locals := 0 } vI [.int v0] σ (fX4_stationOf v0 σ) := by
  refine ct_of (l := l) hD (by decide) (Nat.le_of_ble_eq_true rfl) ?_
  intro p e s m args below meth c C
  unfold fX4_stationOf
  refine j_iload_n C dX4_stationOf_0 rfl ?_
  refine j_bipush C (v := (7 : Int32)) dX4_stationOf_1 (by decide) ?_
  refine j_irem C dX4_stationOf_3 (by decide) ?_
  exact j_iret C dX4_stationOf_4
set_option maxRecDepth 20000 in
set_option maxHeartbeats 4000000 in
theorem CX4_canMeet (l : Launch) (M : Mc) (hD : Dj M) (v0 : Nat) (h0 : isK v0 4) (v1 : Int32) (σ : Sg) : Ct l M yX4_canMeet cX4_canMeet 4 (some .boolean) { frames := 2, cells := 0, slots := 0, locals := 43 } vI [.ref (adr M v0), .int v1] σ (fX4_canMeet v0 v1 σ) := by
  refine ct_of (l := l) hD (by decide) (Nat.le_of_ble_eq_true rfl) ?_
  intro p e s m args below meth c C
  unfold fX4_canMeet
  refine j_iload_n C dX4_canMeet_0 rfl ?_
  refine j_callSI C (As := [.int v1]) dX4_canMeet_1 (CX4_lesserOf l M hD v1 σ) vs_RX4_46 rfl rfl ⟨rfl, rfl⟩ (by decide) (Nat.le_of_ble_eq_true rfl) ⟨Nat.zero_le _, Nat.zero_le _⟩ (fun r_1 s_1 => ?_)
  refine j_istore_n C (Ls' := fun v2_4 => [(2, .int v2_4), (0, .ref (adr M v0)), (1, .int v1)]) dX4_canMeet_4 (by decide) (fun _ => rfl) (fun v2_4 => ?_)
  refine j_iload_n C dX4_canMeet_5 rfl ?_
  refine j_callSI C (As := [.int v1]) dX4_canMeet_6 (CX4_greaterOf l M hD v1 s_1) vs_RX4_50 rfl rfl ⟨rfl, rfl⟩ (by decide) (Nat.le_of_ble_eq_true rfl) ⟨Nat.zero_le _, Nat.zero_le _⟩ (fun r_6 s_6 => ?_)
  refine j_istore_n C (Ls' := fun v3_9 => [(3, .int v3_9), (2, .int v2_4), (0, .ref (adr M v0)), (1, .int v1)]) dX4_canMeet_9 (by decide) (fun _ => rfl) (fun v3_9 => ?_)
  refine j_iload_n C dX4_canMeet_10 rfl ?_
  refine j_iload_n C dX4_canMeet_11 rfl ?_
  refine j_icmp_ge C (tgt := 65) dX4_canMeet_12 (by decide) ?_ ?_
  · refine j_iconst C (v := (0 : Int32)) dX4_canMeet_65 (by decide) ?_
    exact j_zret C dX4_canMeet_66
  · refine j_aload_n C dX4_canMeet_15 rfl ?_
    refine j_getR C dX4_canMeet_16 fl_RX4_22 h0 (by decide) rfl rfl (by decide) (fun h_16 => ?_)
    refine j_getR C dX4_canMeet_19 fl_RX4_74 h_16 (by decide) rfl rfl (by decide) (fun h_19 => ?_)
    refine j_iload_n C dX4_canMeet_22 rfl ?_
    refine j_callVI C (As := [.int v3_9]) dX4_canMeet_23 (CX9_has l M hD (rf (rf v0 1) 1) h_19 v3_9 s_6) vv_RX4_80 h_19 (by decide) rfl rfl ⟨rfl, rfl⟩ (by decide) (Nat.le_of_ble_eq_true rfl) ⟨Nat.zero_le _, Nat.zero_le _⟩ (fun r_23 s_23 => ?_)
    refine j_if_eq C (tgt := 65) dX4_canMeet_26 (by decide) ?_ ?_
    · refine j_iconst C (v := (0 : Int32)) dX4_canMeet_65 (by decide) ?_
      exact j_zret C dX4_canMeet_66
    · refine j_aload_n C dX4_canMeet_29 rfl ?_
      refine j_getR C dX4_canMeet_30 fl_RX4_22 h0 (by decide) rfl rfl (by decide) (fun h_30 => ?_)
      refine j_getR C dX4_canMeet_33 fl_RX4_74 h_30 (by decide) rfl rfl (by decide) (fun h_33 => ?_)
      refine j_iload_n C dX4_canMeet_36 rfl ?_
      refine j_iload_n C dX4_canMeet_37 rfl ?_
      refine j_callVI C (As := [.int v2_4, .int v3_9]) dX4_canMeet_38 (CX9_areContrary l M hD (rf (rf v0 1) 1) h_33 v2_4 v3_9 s_23) vv_RX4_86 h_33 (by decide) rfl rfl ⟨rfl, rfl⟩ (by decide) (Nat.le_of_ble_eq_true rfl) ⟨Nat.zero_le _, Nat.zero_le _⟩ (fun r_38 s_38 => ?_)
      refine j_if_eq C (tgt := 65) dX4_canMeet_41 (by decide) ?_ ?_
      · refine j_iconst C (v := (0 : Int32)) dX4_canMeet_65 (by decide) ?_
        exact j_zret C dX4_canMeet_66
      · refine j_aload_n C dX4_canMeet_44 rfl ?_
        refine j_getR C dX4_canMeet_45 fl_RX4_22 h0 (by decide) rfl rfl (by decide) (fun h_45 => ?_)
        refine j_getR C dX4_canMeet_48 fl_RX4_90 h_45 (by decide) rfl rfl (by decide) (fun h_48 => ?_)
        refine j_iload_n C dX4_canMeet_51 rfl ?_
        refine j_callSI C (As := [.int v1]) dX4_canMeet_52 (CX4_stationOf l M hD v1 s_38) vs_RX4_53 rfl rfl ⟨rfl, rfl⟩ (by decide) (Nat.le_of_ble_eq_true rfl) ⟨Nat.zero_le _, Nat.zero_le _⟩ (fun r_52 s_52 => ?_)
        refine j_callVI C (As := [.int r_52]) dX4_canMeet_55 (CX8_hasStation l M hD (rf (rf v0 1) 0) h_48 r_52 s_52) vv_RX4_94 h_48 (by decide) rfl rfl ⟨rfl, rfl⟩ (by decide) (Nat.le_of_ble_eq_true rfl) ⟨Nat.zero_le _, Nat.zero_le _⟩ (fun r_55 s_55 => ?_)
        refine j_if_eq C (tgt := 65) dX4_canMeet_58 (by decide) ?_ ?_
        · refine j_iconst C (v := (0 : Int32)) dX4_canMeet_65 (by decide) ?_
          exact j_zret C dX4_canMeet_66
        · refine j_iconst C (v := (1 : Int32)) dX4_canMeet_61 (by decide) ?_
          refine j_goto C (tgt := 66) dX4_canMeet_62 (by decide) ?_
          exact j_zret C dX4_canMeet_66
set_option maxRecDepth 20000 in
set_option maxHeartbeats 4000000 in
theorem CX4_countMeets (l : Launch) (M : Mc) (hD : Dj M) (v0 : Nat) (h0 : isK v0 4) (σ : Sg) : Ct l M yX4_countMeets cX4_countMeets 3 (some .int) { frames := 3, cells := 0, slots := 0, locals := 66 } vI [.ref (adr M v0)] σ (fX4_countMeets v0 σ) := by
  refine ct_of (l := l) hD (by decide) (Nat.le_of_ble_eq_true rfl) ?_
  intro p e s m args below meth c C
  have H4 : ∀  (n : Nat) (v1 : Int32) (v2 : Int32) (τ : Sg), J p l e { frames := 3, cells := 0, slots := 0, locals := 66 } s m args below meth c M 3 vI τ 4 [(0, .ref (adr M v0)), (1, .int v1), (2, .int v2)] [] (lq2 (fX4_countMeets_4 v0) n v1 v2 τ) := by
    refine j_lq2 (Ls := fun v1 v2 => [(0, .ref (adr M v0)), (1, .int v1), (2, .int v2)]) (st := fun _ _ => []) ?_
    intro k4 hk4 v1 v2 σ
    have H25 : ∀ (v2 : Int32) (w0 : Int32) (w1 : Int32) (τ : Sg), J p l e { frames := 3, cells := 0, slots := 0, locals := 66 } s m args below meth c M 3 vI τ 25 [(0, .ref (adr M v0)), (2, .int v2)] [.int w0, .int w1] (fX4_countMeets_25 v0 v2 w0 w1 k4 τ) := by
      intro v2 w0 w1 σ
      unfold fX4_countMeets_25
      refine j_iadd C dX4_countMeets_25 ?_
      refine j_istore_n C (Ls' := fun v1_26 => [(1, .int v1_26), (0, .ref (adr M v0)), (2, .int v2)]) dX4_countMeets_26 (by decide) (fun _ => rfl) (fun v1_26 => ?_)
      refine j_iinc C (v := (1 : Int32)) (Ls' := fun v2_27 => [(2, .int v2_27), (1, .int v1_26), (0, .ref (adr M v0))]) dX4_countMeets_27 2 rfl (by decide) (by decide) (fun _ => rfl) (fun v2_27 => ?_)
      refine j_goto C (tgt := 4) dX4_countMeets_30 (by decide) ?_
      refine j_sub (Ls' := [(0, .ref (adr M v0)), (1, .int v1_26), (2, .int v2_27)]) [2, 1, 0] rfl ?_
      exact hk4 v1_26 v2_27 σ
    unfold fX4_countMeets_4
    refine j_iload_n C dX4_countMeets_4 rfl ?_
    refine j_sipush C (v := (175 : Int32)) dX4_countMeets_5 (by decide) ?_
    refine j_icmp_ge C (tgt := 33) dX4_countMeets_8 (by decide) ?_ ?_
    · refine j_iload_n C dX4_countMeets_33 rfl ?_
      exact j_iret C dX4_countMeets_34
    · refine j_iload_n C dX4_countMeets_11 rfl ?_
      refine j_aload_n C dX4_countMeets_12 rfl ?_
      refine j_iload_n C dX4_countMeets_13 rfl ?_
      refine j_callVI C (As := [.int v2]) dX4_countMeets_14 (CX4_canMeet l M hD v0 h0 v2 σ) vv_RX4_99 h0 (by decide) rfl rfl ⟨rfl, rfl⟩ (by decide) (Nat.le_of_ble_eq_true rfl) ⟨Nat.zero_le _, Nat.zero_le _⟩ (fun r_14 s_14 => ?_)
      refine j_if_eq C (tgt := 24) dX4_countMeets_17 (by decide) ?_ ?_
      · refine j_iconst C (v := (0 : Int32)) dX4_countMeets_24 (by decide) ?_
        refine j_sub (Ls' := [(0, .ref (adr M v0)), (2, .int v2)]) [0, 2] rfl ?_
        exact H25 v2 (0 : Int32) v1 s_14
      · refine j_iconst C (v := (1 : Int32)) dX4_countMeets_20 (by decide) ?_
        refine j_goto C (tgt := 25) dX4_countMeets_21 (by decide) ?_
        refine j_sub (Ls' := [(0, .ref (adr M v0)), (2, .int v2)]) [0, 2] rfl ?_
        exact H25 v2 (1 : Int32) v1 s_14
  unfold fX4_countMeets
  refine j_iconst C (v := (0 : Int32)) dX4_countMeets_0 (by decide) ?_
  refine j_istore_n C (Ls' := fun v1_1 => [(1, .int v1_1), (0, .ref (adr M v0))]) dX4_countMeets_1 (by decide) (fun _ => rfl) (fun v1_1 => ?_)
  refine j_iconst C (v := (0 : Int32)) dX4_countMeets_2 (by decide) ?_
  refine j_istore_n C (Ls' := fun v2_3 => [(2, .int v2_3), (1, .int v1_1), (0, .ref (adr M v0))]) dX4_countMeets_3 (by decide) (fun _ => rfl) (fun v2_3 => ?_)
  refine j_sub (Ls' := [(0, .ref (adr M v0)), (1, .int v1_1), (2, .int v2_3)]) [2, 1, 0] rfl ?_
  exact H4 FU v1_1 v2_3 σ
set_option maxRecDepth 20000 in
set_option maxHeartbeats 4000000 in
theorem CX4_priceAt (l : Launch) (M : Mc) (hD : Dj M) (v0 : Nat) (h0 : isK v0 4) (v1 : Int32) (σ : Sg) : Ct l M yX4_priceAt cX4_priceAt 2 (some .int) { frames := 5, cells := 0, slots := 0, locals := 144 } vI [.ref (adr M v0), .int v1] σ (fX4_priceAt v0 v1 σ) := by
  refine ct_of (l := l) hD (by decide) (Nat.le_of_ble_eq_true rfl) ?_
  intro p e s m args below meth c C
  have H33 : ∀  (τ : Sg), J p l e { frames := 5, cells := 0, slots := 0, locals := 144 } s m args below meth c M 2 vI τ 33 [(0, .ref (adr M v0)), (1, .int v1)] [] (fX4_priceAt_33 v0 v1 τ) := by
    intro  σ
    unfold fX4_priceAt_33
    refine j_aload_n C dX4_priceAt_33 rfl ?_
    refine j_getR C dX4_priceAt_34 fl_RX4_23 h0 (by decide) rfl rfl (by decide) (fun h_34 => ?_)
    refine j_iload_n C dX4_priceAt_37 rfl ?_
    refine j_iald C dX4_priceAt_38 h_34 ?_
    refine j_iconst C (v := (-1 : Int32)) dX4_priceAt_39 (by decide) ?_
    refine j_icmp_ne C (tgt := 92) dX4_priceAt_40 (by decide) ?_ ?_
    · refine j_aload_n C dX4_priceAt_92 rfl ?_
      refine j_getR C dX4_priceAt_93 fl_RX4_23 h0 (by decide) rfl rfl (by decide) (fun h_93 => ?_)
      refine j_iload_n C dX4_priceAt_96 rfl ?_
      refine j_iald C dX4_priceAt_97 h_93 ?_
      exact j_iret C dX4_priceAt_98
    · refine j_aload_n C dX4_priceAt_43 rfl ?_
      refine j_getR C dX4_priceAt_44 fl_RX4_12 h0 (by decide) rfl rfl (by decide) (fun h_44 => ?_)
      refine j_iload_n C dX4_priceAt_47 rfl ?_
      refine j_callSI C (As := [.int v1]) dX4_priceAt_48 (CX4_lesserOf l M hD v1 σ) vs_RX4_46 rfl rfl ⟨rfl, rfl⟩ (by decide) (Nat.le_of_ble_eq_true rfl) ⟨Nat.zero_le _, Nat.zero_le _⟩ (fun r_48 s_48 => ?_)
      refine j_iload_n C dX4_priceAt_51 rfl ?_
      refine j_callSI C (As := [.int v1]) dX4_priceAt_52 (CX4_greaterOf l M hD v1 s_48) vs_RX4_50 rfl rfl ⟨rfl, rfl⟩ (by decide) (Nat.le_of_ble_eq_true rfl) ⟨Nat.zero_le _, Nat.zero_le _⟩ (fun r_52 s_52 => ?_)
      refine j_iload_n C dX4_priceAt_55 rfl ?_
      refine j_callSI C (As := [.int v1]) dX4_priceAt_56 (CX4_stationOf l M hD v1 s_52) vs_RX4_53 rfl rfl ⟨rfl, rfl⟩ (by decide) (Nat.le_of_ble_eq_true rfl) ⟨Nat.zero_le _, Nat.zero_le _⟩ (fun r_56 s_56 => ?_)
      refine j_callVv C (As := [.int r_48, .int r_52, .int r_56]) dX4_priceAt_59 (CX0_play l M hD (rf v0 0) h_44 r_48 r_52 r_56 s_56) vv_RX4_56 h_44 (by decide) rfl rfl ⟨rfl, rfl⟩ (by decide) (Nat.le_of_ble_eq_true rfl) ⟨Nat.zero_le _, Nat.zero_le _⟩ (fun r_59 s_59 => ?_)
      refine j_aload_n C dX4_priceAt_62 rfl ?_
      refine j_getR C dX4_priceAt_63 fl_RX4_23 h0 (by decide) rfl rfl (by decide) (fun h_63 => ?_)
      refine j_iload_n C dX4_priceAt_66 rfl ?_
      refine j_ldc C dX4_priceAt_67 lc_RX4_60 ?_
      refine j_aload_n C dX4_priceAt_69 rfl ?_
      refine j_getR C dX4_priceAt_70 fl_RX4_12 h0 (by decide) rfl rfl (by decide) (fun h_70 => ?_)
      refine j_getR C dX4_priceAt_73 fl_RX4_61 h_70 (by decide) rfl rfl (by decide) (fun h_73 => ?_)
      refine j_getI C dX4_priceAt_76 fl_RX4_65 h_73 (by decide) rfl ?_
      refine j_imul C dX4_priceAt_79 ?_
      refine j_aload_n C dX4_priceAt_80 rfl ?_
      refine j_getR C dX4_priceAt_81 fl_RX4_12 h0 (by decide) rfl rfl (by decide) (fun h_81 => ?_)
      refine j_getR C dX4_priceAt_84 fl_RX4_61 h_81 (by decide) rfl rfl (by decide) (fun h_84 => ?_)
      refine j_getI C dX4_priceAt_87 fl_RX4_71 h_84 (by decide) rfl ?_
      refine j_iadd C dX4_priceAt_90 ?_
      refine j_iast C dX4_priceAt_91 h_63 (fun s_91 => ?_)
      refine j_aload_n C dX4_priceAt_92 rfl ?_
      refine j_getR C dX4_priceAt_93 fl_RX4_23 h0 (by decide) rfl rfl (by decide) (fun h_93 => ?_)
      refine j_iload_n C dX4_priceAt_96 rfl ?_
      refine j_iald C dX4_priceAt_97 h_93 ?_
      exact j_iret C dX4_priceAt_98
  unfold fX4_priceAt
  refine j_iload_n C dX4_priceAt_0 rfl ?_
  refine j_if_lt C (tgt := 11) dX4_priceAt_1 (by decide) ?_ ?_
  · refine j_iconst C (v := (0 : Int32)) dX4_priceAt_11 (by decide) ?_
    exact j_iret C dX4_priceAt_12
  · refine j_iload_n C dX4_priceAt_4 rfl ?_
    refine j_sipush C (v := (175 : Int32)) dX4_priceAt_5 (by decide) ?_
    refine j_icmp_lt C (tgt := 13) dX4_priceAt_8 (by decide) ?_ ?_
    · refine j_aload_n C dX4_priceAt_13 rfl ?_
      refine j_getI C dX4_priceAt_14 fl_RX4_27 h0 (by decide) rfl ?_
      refine j_if_ne C (tgt := 33) dX4_priceAt_17 (by decide) ?_ ?_
      · exact H33 σ
      · refine j_aload_n C dX4_priceAt_20 rfl ?_
        refine j_getR C dX4_priceAt_21 fl_RX4_23 h0 (by decide) rfl rfl (by decide) (fun h_21 => ?_)
        refine j_iconst C (v := (-1 : Int32)) dX4_priceAt_24 (by decide) ?_
        refine j_callSv C (As := [.ref (adr M (rf v0 2)), .int ((-1 : Int32))]) dX4_priceAt_25 (CJ7_fill_53178 l M hD (rf v0 2) h_21 (-1 : Int32) σ) vs_RX4_40 rfl rfl ⟨rfl, rfl⟩ (by decide) (Nat.le_of_ble_eq_true rfl) ⟨Nat.zero_le _, Nat.zero_le _⟩ (fun r_25 s_25 => ?_)
        refine j_aload_n C dX4_priceAt_28 rfl ?_
        refine j_iconst C (v := (1 : Int32)) dX4_priceAt_29 (by decide) ?_
        refine j_put C dX4_priceAt_30 fl_RX4_27 fs_4_3 h0 (by decide) rfl rfl rfl (fun s_30 => ?_)
        exact H33 s_30
    · refine j_iconst C (v := (0 : Int32)) dX4_priceAt_11 (by decide) ?_
      exact j_iret C dX4_priceAt_12
set_option maxRecDepth 20000 in
set_option maxHeartbeats 4000000 in
theorem CX4_findBest (l : Launch) (M : Mc) (hD : Dj M) (v0 : Nat) (h0 : isK v0 4) (σ : Sg) : Ct l M yX4_findBest cX4_findBest 4 (some .int) { frames := 6, cells := 0, slots := 0, locals := 165 } vI [.ref (adr M v0)] σ (fX4_findBest v0 σ) := by
  refine ct_of (l := l) hD (by decide) (Nat.le_of_ble_eq_true rfl) ?_
  intro p e s m args below meth c C
  have H6 : ∀  (n : Nat) (v1 : Int32) (v2 : Int32) (v3 : Int32) (τ : Sg), J p l e { frames := 6, cells := 0, slots := 0, locals := 165 } s m args below meth c M 4 vI τ 6 [(0, .ref (adr M v0)), (1, .int v1), (2, .int v2), (3, .int v3)] [] (lq3 (fX4_findBest_6 v0) n v1 v2 v3 τ) := by
    refine j_lq3 (Ls := fun v1 v2 v3 => [(0, .ref (adr M v0)), (1, .int v1), (2, .int v2), (3, .int v3)]) (st := fun _ _ _ => []) ?_
    intro k6 hk6 v1 v2 v3 σ
    have H43 : ∀ (v1 : Int32) (v2 : Int32) (v3 : Int32) (τ : Sg), J p l e { frames := 6, cells := 0, slots := 0, locals := 165 } s m args below meth c M 4 vI τ 43 [(0, .ref (adr M v0)), (1, .int v1), (2, .int v2), (3, .int v3)] [] (fX4_findBest_43 v0 v1 v2 v3 k6 τ) := by
      intro v1 v2 v3 σ
      unfold fX4_findBest_43
      refine j_iinc C (v := (1 : Int32)) (Ls' := fun v3_43 => [(3, .int v3_43), (0, .ref (adr M v0)), (1, .int v1), (2, .int v2)]) dX4_findBest_43 3 rfl (by decide) (by decide) (fun _ => rfl) (fun v3_43 => ?_)
      refine j_goto C (tgt := 6) dX4_findBest_46 (by decide) ?_
      refine j_sub (Ls' := [(0, .ref (adr M v0)), (1, .int v1), (2, .int v2), (3, .int v3_43)]) [1, 2, 3, 0] rfl ?_
      exact hk6 v1 v2 v3_43 σ
    have H35 : ∀ (v3 : Int32) (τ : Sg), J p l e { frames := 6, cells := 0, slots := 0, locals := 165 } s m args below meth c M 4 vI τ 35 [(0, .ref (adr M v0)), (3, .int v3)] [] (fX4_findBest_35 v0 v3 k6 τ) := by
      intro v3 σ
      unfold fX4_findBest_35
      refine j_iload_n C dX4_findBest_35 rfl ?_
      refine j_istore_n C (Ls' := fun v1_36 => [(1, .int v1_36), (0, .ref (adr M v0)), (3, .int v3)]) dX4_findBest_36 (by decide) (fun _ => rfl) (fun v1_36 => ?_)
      refine j_aload_n C dX4_findBest_37 rfl ?_
      refine j_iload_n C dX4_findBest_38 rfl ?_
      refine j_callVI C (As := [.int v3]) dX4_findBest_39 (CX4_priceAt l M hD v0 h0 v3 σ) vv_RX4_102 h0 (by decide) rfl rfl ⟨rfl, rfl⟩ (by decide) (Nat.le_of_ble_eq_true rfl) ⟨Nat.zero_le _, Nat.zero_le _⟩ (fun r_39 s_39 => ?_)
      refine j_istore_n C (Ls' := fun v2_42 => [(2, .int v2_42), (1, .int v1_36), (0, .ref (adr M v0)), (3, .int v3)]) dX4_findBest_42 (by decide) (fun _ => rfl) (fun v2_42 => ?_)
      refine j_sub (Ls' := [(0, .ref (adr M v0)), (1, .int v1_36), (2, .int v2_42), (3, .int v3)]) [2, 1, 0, 3] rfl ?_
      exact H43 v1_36 v2_42 v3 s_39
    unfold fX4_findBest_6
    refine j_iload_n C dX4_findBest_6 rfl ?_
    refine j_sipush C (v := (175 : Int32)) dX4_findBest_7 (by decide) ?_
    refine j_icmp_ge C (tgt := 49) dX4_findBest_10 (by decide) ?_ ?_
    · refine j_iload_n C dX4_findBest_49 rfl ?_
      exact j_iret C dX4_findBest_50
    · refine j_aload_n C dX4_findBest_13 rfl ?_
      refine j_iload_n C dX4_findBest_14 rfl ?_
      refine j_callVI C (As := [.int v3]) dX4_findBest_15 (CX4_canMeet l M hD v0 h0 v3 σ) vv_RX4_99 h0 (by decide) rfl rfl ⟨rfl, rfl⟩ (by decide) (Nat.le_of_ble_eq_true rfl) ⟨Nat.zero_le _, Nat.zero_le _⟩ (fun r_15 s_15 => ?_)
      refine j_if_eq C (tgt := 43) dX4_findBest_18 (by decide) ?_ ?_
      · exact H43 v1 v2 v3 s_15
      · refine j_iload_n C dX4_findBest_21 rfl ?_
        refine j_iconst C (v := (-1 : Int32)) dX4_findBest_22 (by decide) ?_
        refine j_icmp_eq C (tgt := 35) dX4_findBest_23 (by decide) ?_ ?_
        · refine j_sub (Ls' := [(0, .ref (adr M v0)), (3, .int v3)]) [0, 3] rfl ?_
          exact H35 v3 s_15
        · refine j_aload_n C dX4_findBest_26 rfl ?_
          refine j_iload_n C dX4_findBest_27 rfl ?_
          refine j_callVI C (As := [.int v3]) dX4_findBest_28 (CX4_priceAt l M hD v0 h0 v3 s_15) vv_RX4_102 h0 (by decide) rfl rfl ⟨rfl, rfl⟩ (by decide) (Nat.le_of_ble_eq_true rfl) ⟨Nat.zero_le _, Nat.zero_le _⟩ (fun r_28 s_28 => ?_)
          refine j_iload_n C dX4_findBest_31 rfl ?_
          refine j_icmp_ge C (tgt := 43) dX4_findBest_32 (by decide) ?_ ?_
          · exact H43 v1 v2 v3 s_28
          · refine j_sub (Ls' := [(0, .ref (adr M v0)), (3, .int v3)]) [0, 3] rfl ?_
            exact H35 v3 s_28
  unfold fX4_findBest
  refine j_iconst C (v := (-1 : Int32)) dX4_findBest_0 (by decide) ?_
  refine j_istore_n C (Ls' := fun v1_1 => [(1, .int v1_1), (0, .ref (adr M v0))]) dX4_findBest_1 (by decide) (fun _ => rfl) (fun v1_1 => ?_)
  refine j_iconst C (v := (0 : Int32)) dX4_findBest_2 (by decide) ?_
  refine j_istore_n C (Ls' := fun v2_3 => [(2, .int v2_3), (1, .int v1_1), (0, .ref (adr M v0))]) dX4_findBest_3 (by decide) (fun _ => rfl) (fun v2_3 => ?_)
  refine j_iconst C (v := (0 : Int32)) dX4_findBest_4 (by decide) ?_
  refine j_istore_n C (Ls' := fun v3_5 => [(3, .int v3_5), (2, .int v2_3), (1, .int v1_1), (0, .ref (adr M v0))]) dX4_findBest_5 (by decide) (fun _ => rfl) (fun v3_5 => ?_)
  refine j_sub (Ls' := [(0, .ref (adr M v0)), (1, .int v1_1), (2, .int v2_3), (3, .int v3_5)]) [3, 2, 1, 0] rfl ?_
  exact H6 FU v1_1 v2_3 v3_5 σ
set_option maxRecDepth 20000 in
set_option maxHeartbeats 4000000 in
theorem CX10_best (l : Launch) (M : Mc) (hD : Dj M) (v0 : Nat) (h0 : isK v0 10) (v1 : Int32) (σ : Sg) : Ct l M yX10_best cX10_best 3 (some .int) { frames := 7, cells := 0, slots := 0, locals := 188 } vI [.ref (adr M v0), .int v1] σ (fX10_best v0 v1 σ) := by
  refine ct_of (l := l) hD (by decide) (Nat.le_of_ble_eq_true rfl) ?_
  intro p e s m args below meth c C
  unfold fX10_best
  refine j_aload_n C dX10_best_0 rfl ?_
  refine j_getR C dX10_best_1 fl_RX10_12 h0 (by decide) rfl rfl (by decide) (fun h_1 => ?_)
  refine j_callVI C (As := []) dX10_best_4 (CX4_countMeets l M hD (rf v0 0) h_1 σ) vv_RX10_203 h_1 (by decide) rfl rfl ⟨rfl, rfl⟩ (by decide) (Nat.le_of_ble_eq_true rfl) ⟨Nat.zero_le _, Nat.zero_le _⟩ (fun r_4 s_4 => ?_)
  refine j_if_ne C (tgt := 17) dX10_best_7 (by decide) ?_ ?_
  · refine j_iload_n C dX10_best_17 rfl ?_
    refine j_iconst C (v := (0 : Int32)) dX10_best_18 (by decide) ?_
    refine j_iconst C (v := (3 : Int32)) dX10_best_19 (by decide) ?_
    refine j_callSI C (As := [.int v1, .int ((0 : Int32)), .int ((3 : Int32))]) dX10_best_20 (CX10_isWithin l M hD v1 (0 : Int32) (3 : Int32) s_4) vs_RX10_46 rfl rfl ⟨rfl, rfl⟩ (by decide) (Nat.le_of_ble_eq_true rfl) ⟨Nat.zero_le _, Nat.zero_le _⟩ (fun r_20 s_20 => ?_)
    refine j_if_ne C (tgt := 33) dX10_best_23 (by decide) ?_ ?_
    · refine j_aload_n C dX10_best_33 rfl ?_
      refine j_getR C dX10_best_34 fl_RX10_12 h0 (by decide) rfl rfl (by decide) (fun h_34 => ?_)
      refine j_callVI C (As := []) dX10_best_37 (CX4_findBest l M hD (rf v0 0) h_34 s_20) vv_RX10_207 h_34 (by decide) rfl rfl ⟨rfl, rfl⟩ (by decide) (Nat.le_of_ble_eq_true rfl) ⟨Nat.zero_le _, Nat.zero_le _⟩ (fun r_37 s_37 => ?_)
      refine j_istore_n C (Ls' := fun v2_40 => [(2, .int v2_40), (0, .ref (adr M v0)), (1, .int v1)]) dX10_best_40 (by decide) (fun _ => rfl) (fun v2_40 => ?_)
      refine j_iload_n C dX10_best_41 rfl ?_
      refine j_cases (fun hq42_0 => ?_) (fun hq42_0 => ?_)
      · refine j_tabIn C dX10_best_42 (tgt := 68) hq42_0 (by decide) (by decide) rfl (by decide) ?_
        refine j_iload_n C dX10_best_68 rfl ?_
        refine j_callSI C (As := [.int v2_40]) dX10_best_69 (CX4_lesserOf l M hD v2_40 s_37) vs_RX10_210 rfl rfl ⟨rfl, rfl⟩ (by decide) (Nat.le_of_ble_eq_true rfl) ⟨Nat.zero_le _, Nat.zero_le _⟩ (fun r_69 s_69 => ?_)
        exact j_iret C dX10_best_72
      · refine j_cases (fun hq42_1 => ?_) (fun hq42_1 => ?_)
        · refine j_tabIn C dX10_best_42 (tgt := 73) hq42_1 (by decide) (by decide) rfl (by decide) ?_
          refine j_iload_n C dX10_best_73 rfl ?_
          refine j_callSI C (As := [.int v2_40]) dX10_best_74 (CX4_greaterOf l M hD v2_40 s_37) vs_RX10_213 rfl rfl ⟨rfl, rfl⟩ (by decide) (Nat.le_of_ble_eq_true rfl) ⟨Nat.zero_le _, Nat.zero_le _⟩ (fun r_74 s_74 => ?_)
          exact j_iret C dX10_best_77
        · refine j_cases (fun hq42_2 => ?_) (fun hq42_2 => ?_)
          · refine j_tabIn C dX10_best_42 (tgt := 78) hq42_2 (by decide) (by decide) rfl (by decide) ?_
            refine j_iload_n C dX10_best_78 rfl ?_
            refine j_callSI C (As := [.int v2_40]) dX10_best_79 (CX4_stationOf l M hD v2_40 s_37) vs_RX10_216 rfl rfl ⟨rfl, rfl⟩ (by decide) (Nat.le_of_ble_eq_true rfl) ⟨Nat.zero_le _, Nat.zero_le _⟩ (fun r_79 s_79 => ?_)
            exact j_iret C dX10_best_82
          · refine j_tabOut C dX10_best_42 (tgt := 83) (by have hq42_0 := i_ne hq42_0; have hq42_1 := i_ne hq42_1; have hq42_2 := i_ne hq42_2; simp only [show ((0 : Int32)).toInt = 0 from rfl, show ((1 : Int32)).toInt = 1 from rfl, show ((2 : Int32)).toInt = 2 from rfl] at *; omega) (by decide) ?_
            refine j_aload_n C dX10_best_83 rfl ?_
            refine j_getR C dX10_best_84 fl_RX10_12 h0 (by decide) rfl rfl (by decide) (fun h_84 => ?_)
            refine j_iload_n C dX10_best_87 rfl ?_
            refine j_callVI C (As := [.int v2_40]) dX10_best_88 (CX4_priceAt l M hD (rf v0 0) h_84 v2_40 s_37) vv_RX10_219 h_84 (by decide) rfl rfl ⟨rfl, rfl⟩ (by decide) (Nat.le_of_ble_eq_true rfl) ⟨Nat.zero_le _, Nat.zero_le _⟩ (fun r_88 s_88 => ?_)
            exact j_iret C dX10_best_91
    · refine j_aload_n C dX10_best_26 rfl ?_
      refine j_ldc C dX10_best_27 lc_RX10_50 ?_
      refine j_callVI C (As := [.int ((-100001 : Int32))]) dX10_best_29 (CX10_finding l M hD v0 h0 (-100001 : Int32) s_20) vv_RX10_51 h0 (by decide) rfl rfl ⟨rfl, rfl⟩ (by decide) (Nat.le_of_ble_eq_true rfl) ⟨Nat.zero_le _, Nat.zero_le _⟩ (fun r_29 s_29 => ?_)
      exact j_iret C dX10_best_32
  · refine j_aload_n C dX10_best_10 rfl ?_
    refine j_ldc C dX10_best_11 lc_RX10_121 ?_
    refine j_callVI C (As := [.int ((-100006 : Int32))]) dX10_best_13 (CX10_finding l M hD v0 h0 (-100006 : Int32) s_4) vv_RX10_51 h0 (by decide) rfl rfl ⟨rfl, rfl⟩ (by decide) (Nat.le_of_ble_eq_true rfl) ⟨Nat.zero_le _, Nat.zero_le _⟩ (fun r_13 s_13 => ?_)
    exact j_iret C dX10_best_16
set_option maxRecDepth 20000 in
set_option maxHeartbeats 4000000 in
theorem CX4_placeOf (l : Launch) (M : Mc) (hD : Dj M) (v0 : Int32) (v1 : Int32) (v2 : Int32) (σ : Sg) : Ct l M yX4_placeOf cX4_placeOf 3 (some .int) { frames := 1, cells := 0, slots := 0, locals := 48 } vI [.int v0, .int v1, .int v2] σ (fX4_placeOf v0 v1 v2 σ) := by
  refine ct_of (l := l) hD (by decide) (Nat.le_of_ble_eq_true rfl) ?_
  intro p e s m args below meth c C
  unfold fX4_placeOf
  refine j_iload_n C dX4_placeOf_0 rfl ?_
  refine j_iload_n C dX4_placeOf_1 rfl ?_
  refine j_mmin C dX4_placeOf_2 lm_RX4_31 lm_min_1 lm_2 lm_min_3 (by decide) (Nat.le_of_ble_eq_true rfl) ⟨Nat.zero_le _, Nat.zero_le _⟩ ?_
  refine j_iconst C (v := (5 : Int32)) dX4_placeOf_5 (by decide) ?_
  refine j_imul C dX4_placeOf_6 ?_
  refine j_iload_n C dX4_placeOf_7 rfl ?_
  refine j_iload_n C dX4_placeOf_8 rfl ?_
  refine j_mmax C dX4_placeOf_9 lm_RX4_37 lm_max_1 lm_2 lm_max_3 (by decide) (Nat.le_of_ble_eq_true rfl) ⟨Nat.zero_le _, Nat.zero_le _⟩ ?_
  refine j_iadd C dX4_placeOf_12 ?_
  refine j_bipush C (v := (7 : Int32)) dX4_placeOf_13 (by decide) ?_
  refine j_imul C dX4_placeOf_15 ?_
  refine j_iload_n C dX4_placeOf_16 rfl ?_
  refine j_iadd C dX4_placeOf_17 ?_
  exact j_iret C dX4_placeOf_18
set_option maxRecDepth 20000 in
set_option maxHeartbeats 4000000 in
theorem CX10_price (l : Launch) (M : Mc) (hD : Dj M) (v0 : Nat) (h0 : isK v0 10) (v1 : Int32) (v2 : Int32) (v3 : Int32) (σ : Sg) : Ct l M yX10_price cX10_price 5 (some .int) { frames := 6, cells := 0, slots := 0, locals := 165 } vI [.ref (adr M v0), .int v1, .int v2, .int v3] σ (fX10_price v0 v1 v2 v3 σ) := by
  refine ct_of (l := l) hD (by decide) (Nat.le_of_ble_eq_true rfl) ?_
  intro p e s m args below meth c C
  unfold fX10_price
  refine j_aload_n C dX10_price_0 rfl ?_
  refine j_iload_n C dX10_price_1 rfl ?_
  refine j_iload_n C dX10_price_2 rfl ?_
  refine j_iload_n C dX10_price_3 rfl ?_
  refine j_callVI C (As := [.int v1, .int v2, .int v3]) dX10_price_4 (CX10_refusalOfMeet l M hD v0 h0 v1 v2 v3 σ) vv_RX10_134 h0 (by decide) rfl rfl ⟨rfl, rfl⟩ (by decide) (Nat.le_of_ble_eq_true rfl) ⟨Nat.zero_le _, Nat.zero_le _⟩ (fun r_4 s_4 => ?_)
  refine j_istore C (Ls' := fun v4_7 => [(4, .int v4_7), (0, .ref (adr M v0)), (1, .int v1), (2, .int v2), (3, .int v3)]) dX10_price_7 (by decide) (fun _ => rfl) (fun v4_7 => ?_)
  refine j_iload C dX10_price_9 rfl ?_
  refine j_if_eq C (tgt := 21) dX10_price_11 (by decide) ?_ ?_
  · refine j_aload_n C dX10_price_21 rfl ?_
    refine j_getR C dX10_price_22 fl_RX10_12 h0 (by decide) rfl rfl (by decide) (fun h_22 => ?_)
    refine j_iload_n C dX10_price_25 rfl ?_
    refine j_iload_n C dX10_price_26 rfl ?_
    refine j_iload_n C dX10_price_27 rfl ?_
    refine j_callSI C (As := [.int v1, .int v2, .int v3]) dX10_price_28 (CX4_placeOf l M hD v1 v2 v3 s_4) vs_RX10_222 rfl rfl ⟨rfl, rfl⟩ (by decide) (Nat.le_of_ble_eq_true rfl) ⟨Nat.zero_le _, Nat.zero_le _⟩ (fun r_28 s_28 => ?_)
    refine j_callVI C (As := [.int r_28]) dX10_price_31 (CX4_priceAt l M hD (rf v0 0) h_22 r_28 s_28) vv_RX10_219 h_22 (by decide) rfl rfl ⟨rfl, rfl⟩ (by decide) (Nat.le_of_ble_eq_true rfl) ⟨Nat.zero_le _, Nat.zero_le _⟩ (fun r_31 s_31 => ?_)
    exact j_iret C dX10_price_34
  · refine j_aload_n C dX10_price_14 rfl ?_
    refine j_iload C dX10_price_15 rfl ?_
    refine j_callVI C (As := [.int v4_7]) dX10_price_17 (CX10_finding l M hD v0 h0 v4_7 s_4) vv_RX10_51 h0 (by decide) rfl rfl ⟨rfl, rfl⟩ (by decide) (Nat.le_of_ble_eq_true rfl) ⟨Nat.zero_le _, Nat.zero_le _⟩ (fun r_17 s_17 => ?_)
    exact j_iret C dX10_price_20
set_option maxRecDepth 20000 in
set_option maxHeartbeats 4000000 in
theorem CX10_isSheet (l : Launch) (M : Mc) (hD : Dj M) (v0 : Int32) (σ : Sg) : Ct l M yX10_isSheet cX10_isSheet 1 (some .boolean) { frames := 1, cells := 0, slots := 0, locals := 22 } vI [.int v0] σ (fX10_isSheet v0 σ) := by
  refine ct_of (l := l) hD (by decide) (Nat.le_of_ble_eq_true rfl) ?_
  intro p e s m args below meth c C
  unfold fX10_isSheet
  refine j_iload_n C dX10_isSheet_0 rfl ?_
  refine j_iconst C (v := (0 : Int32)) dX10_isSheet_1 (by decide) ?_
  refine j_iconst C (v := (3 : Int32)) dX10_isSheet_2 (by decide) ?_
  refine j_callSI C (As := [.int v0, .int ((0 : Int32)), .int ((3 : Int32))]) dX10_isSheet_3 (CX10_isWithin l M hD v0 (0 : Int32) (3 : Int32) σ) vs_RX10_46 rfl rfl ⟨rfl, rfl⟩ (by decide) (Nat.le_of_ble_eq_true rfl) ⟨Nat.zero_le _, Nat.zero_le _⟩ (fun r_3 s_3 => ?_)
  exact j_zret C dX10_isSheet_6
set_option maxRecDepth 20000 in
set_option maxHeartbeats 4000000 in
theorem CX7_isMissing (l : Launch) (M : Mc) (hD : Dj M) (v0 : Nat) (h0 : isK v0 7) (σ : Sg) : Ct l M yX7_isMissing cX7_isMissing 1 (some .boolean) { frames := 0, cells := 0, slots := 0, locals := 0 } vI [.ref (adr M v0)] σ (fX7_isMissing v0 σ) := by
  refine ct_of (l := l) hD (by decide) (Nat.le_of_ble_eq_true rfl) ?_
  intro p e s m args below meth c C
  unfold fX7_isMissing
  refine j_aload_n C dX7_isMissing_0 rfl ?_
  refine j_getI C dX7_isMissing_1 fl_RX7_9 h0 (by decide) rfl ?_
  refine j_if_ne C (tgt := 11) dX7_isMissing_4 (by decide) ?_ ?_
  · refine j_iconst C (v := (0 : Int32)) dX7_isMissing_11 (by decide) ?_
    exact j_zret C dX7_isMissing_12
  · refine j_iconst C (v := (1 : Int32)) dX7_isMissing_7 (by decide) ?_
    refine j_goto C (tgt := 12) dX7_isMissing_8 (by decide) ?_
    exact j_zret C dX7_isMissing_12
set_option maxRecDepth 20000 in
set_option maxHeartbeats 4000000 in
theorem CX7_mask (l : Launch) (M : Mc) (hD : Dj M) (v0 : Nat) (h0 : isK v0 7) (σ : Sg) : Ct l M yX7_mask cX7_mask 1 (some .int) { frames := 0, cells := 0, slots := 0, locals := 0 } vI [.ref (adr M v0)] σ (fX7_mask v0 σ) := by
  refine ct_of (l := l) hD (by decide) (Nat.le_of_ble_eq_true rfl) ?_
  intro p e s m args below meth c C
  unfold fX7_mask
  refine j_aload_n C dX7_mask_0 rfl ?_
  refine j_getI C dX7_mask_1 fl_RX7_9 h0 (by decide) rfl ?_
  refine j_bipush C (v := (32 : Int32)) dX7_mask_4 (by decide) ?_
  refine j_icmp_ne C (tgt := 13) dX7_mask_6 (by decide) ?_ ?_
  · refine j_iconst C (v := (1 : Int32)) dX7_mask_13 (by decide) ?_
    refine j_aload_n C dX7_mask_14 rfl ?_
    refine j_getI C dX7_mask_15 fl_RX7_9 h0 (by decide) rfl ?_
    refine j_ishl C dX7_mask_18 ?_
    refine j_iconst C (v := (1 : Int32)) dX7_mask_19 (by decide) ?_
    refine j_isub C dX7_mask_20 ?_
    exact j_iret C dX7_mask_21
  · refine j_iconst C (v := (-1 : Int32)) dX7_mask_9 (by decide) ?_
    refine j_goto C (tgt := 21) dX7_mask_10 (by decide) ?_
    exact j_iret C dX7_mask_21
set_option maxRecDepth 20000 in
set_option maxHeartbeats 4000000 in
theorem CX4_firstWrong (l : Launch) (M : Mc) (hD : Dj M) (v0 : Nat) (h0 : isK v0 4) (v1 : Nat) (h1 : isK v1 7) (σ : Sg) : Ct l M yX4_firstWrong cX4_firstWrong 4 (some .int) { frames := 6, cells := 0, slots := 0, locals := 165 } vI [.ref (adr M v0), .ref (adr M v1)] σ (fX4_firstWrong v0 v1 σ) := by
  refine ct_of (l := l) hD (by decide) (Nat.le_of_ble_eq_true rfl) ?_
  intro p e s m args below meth c C
  have H4 : ∀  (n : Nat) (v2 : Int32) (v3 : Int32) (τ : Sg), J p l e { frames := 6, cells := 0, slots := 0, locals := 165 } s m args below meth c M 4 vI τ 4 [(0, .ref (adr M v0)), (1, .ref (adr M v1)), (2, .int v2), (3, .int v3)] [] (lq2 (fX4_firstWrong_4 v0 v1) n v2 v3 τ) := by
    refine j_lq2 (Ls := fun v2 v3 => [(0, .ref (adr M v0)), (1, .ref (adr M v1)), (2, .int v2), (3, .int v3)]) (st := fun _ _ => []) ?_
    intro k4 hk4 v2 v3 σ
    have H54 : ∀ (v2 : Int32) (v3 : Int32) (τ : Sg), J p l e { frames := 6, cells := 0, slots := 0, locals := 165 } s m args below meth c M 4 vI τ 54 [(0, .ref (adr M v0)), (1, .ref (adr M v1)), (2, .int v2), (3, .int v3)] [] (fX4_firstWrong_54 v0 v1 v2 v3 k4 τ) := by
      intro v2 v3 σ
      unfold fX4_firstWrong_54
      refine j_iinc C (v := (1 : Int32)) (Ls' := fun v3_54 => [(3, .int v3_54), (0, .ref (adr M v0)), (1, .ref (adr M v1)), (2, .int v2)]) dX4_firstWrong_54 3 rfl (by decide) (by decide) (fun _ => rfl) (fun v3_54 => ?_)
      refine j_goto C (tgt := 4) dX4_firstWrong_57 (by decide) ?_
      refine j_sub (Ls' := [(0, .ref (adr M v0)), (1, .ref (adr M v1)), (2, .int v2), (3, .int v3_54)]) [1, 2, 3, 0] rfl ?_
      exact hk4 v2 v3_54 σ
    unfold fX4_firstWrong_4
    refine j_iload_n C dX4_firstWrong_4 rfl ?_
    refine j_sipush C (v := (175 : Int32)) dX4_firstWrong_5 (by decide) ?_
    refine j_icmp_ge C (tgt := 60) dX4_firstWrong_8 (by decide) ?_ ?_
    · refine j_iconst C (v := (-1 : Int32)) dX4_firstWrong_60 (by decide) ?_
      exact j_iret C dX4_firstWrong_61
    · refine j_iload_n C dX4_firstWrong_11 rfl ?_
      refine j_aload_n C dX4_firstWrong_12 rfl ?_
      refine j_getI C dX4_firstWrong_13 fl_RX4_105 h1 (by decide) rfl ?_
      refine j_icmp_ge C (tgt := 60) dX4_firstWrong_16 (by decide) ?_ ?_
      · refine j_iconst C (v := (-1 : Int32)) dX4_firstWrong_60 (by decide) ?_
        exact j_iret C dX4_firstWrong_61
      · refine j_aload_n C dX4_firstWrong_19 rfl ?_
        refine j_iload_n C dX4_firstWrong_20 rfl ?_
        refine j_callVI C (As := [.int v3]) dX4_firstWrong_21 (CX4_canMeet l M hD v0 h0 v3 σ) vv_RX4_99 h0 (by decide) rfl rfl ⟨rfl, rfl⟩ (by decide) (Nat.le_of_ble_eq_true rfl) ⟨Nat.zero_le _, Nat.zero_le _⟩ (fun r_21 s_21 => ?_)
        refine j_if_ne C (tgt := 30) dX4_firstWrong_24 (by decide) ?_ ?_
        · refine j_aload_n C dX4_firstWrong_30 rfl ?_
          refine j_getR C dX4_firstWrong_31 fl_RX4_110 h1 (by decide) rfl rfl (by decide) (fun h_31 => ?_)
          refine j_iload_n C dX4_firstWrong_34 rfl ?_
          refine j_iald C dX4_firstWrong_35 h_31 ?_
          refine j_aload_n C dX4_firstWrong_36 rfl ?_
          refine j_iload_n C dX4_firstWrong_37 rfl ?_
          refine j_callVI C (As := [.int v3]) dX4_firstWrong_38 (CX4_priceAt l M hD v0 h0 v3 s_21) vv_RX4_102 h0 (by decide) rfl rfl ⟨rfl, rfl⟩ (by decide) (Nat.le_of_ble_eq_true rfl) ⟨Nat.zero_le _, Nat.zero_le _⟩ (fun r_38 s_38 => ?_)
          refine j_aload_n C dX4_firstWrong_41 rfl ?_
          refine j_callVI C (As := []) dX4_firstWrong_42 (CX7_mask l M hD v1 h1 s_38) vv_RX4_113 h1 (by decide) rfl rfl ⟨rfl, rfl⟩ (by decide) (Nat.le_of_ble_eq_true rfl) ⟨Nat.zero_le _, Nat.zero_le _⟩ (fun r_42 s_42 => ?_)
          refine j_iand C dX4_firstWrong_45 ?_
          refine j_icmp_eq C (tgt := 51) dX4_firstWrong_46 (by decide) ?_ ?_
          · refine j_iinc C (v := (1 : Int32)) (Ls' := fun v2_51 => [(2, .int v2_51), (0, .ref (adr M v0)), (1, .ref (adr M v1)), (3, .int v3)]) dX4_firstWrong_51 2 rfl (by decide) (by decide) (fun _ => rfl) (fun v2_51 => ?_)
            refine j_sub (Ls' := [(0, .ref (adr M v0)), (1, .ref (adr M v1)), (2, .int v2_51), (3, .int v3)]) [1, 2, 0, 3] rfl ?_
            exact H54 v2_51 v3 s_42
          · refine j_iload_n C dX4_firstWrong_49 rfl ?_
            exact j_iret C dX4_firstWrong_50
        · refine j_goto C (tgt := 54) dX4_firstWrong_27 (by decide) ?_
          exact H54 v2 v3 s_21
  unfold fX4_firstWrong
  refine j_iconst C (v := (0 : Int32)) dX4_firstWrong_0 (by decide) ?_
  refine j_istore_n C (Ls' := fun v2_1 => [(2, .int v2_1), (0, .ref (adr M v0)), (1, .ref (adr M v1))]) dX4_firstWrong_1 (by decide) (fun _ => rfl) (fun v2_1 => ?_)
  refine j_iconst C (v := (0 : Int32)) dX4_firstWrong_2 (by decide) ?_
  refine j_istore_n C (Ls' := fun v3_3 => [(3, .int v3_3), (2, .int v2_1), (0, .ref (adr M v0)), (1, .ref (adr M v1))]) dX4_firstWrong_3 (by decide) (fun _ => rfl) (fun v3_3 => ?_)
  refine j_sub (Ls' := [(0, .ref (adr M v0)), (1, .ref (adr M v1)), (2, .int v2_1), (3, .int v3_3)]) [2, 3, 1, 0] rfl ?_
  exact H4 FU v2_1 v3_3 σ
set_option maxRecDepth 20000 in
set_option maxHeartbeats 4000000 in
theorem CX10_proves (l : Launch) (M : Mc) (hD : Dj M) (v0 : Nat) (h0 : isK v0 10) (v1 : Int32) (v2 : Int32) (v3 : Int32) (v4 : Int32) (σ : Sg) : Ct l M yX10_proves cX10_proves 7 (some .int) { frames := 7, cells := 0, slots := 0, locals := 188 } vI [.ref (adr M v0), .int v1, .int v2, .int v3, .int v4] σ (fX10_proves v0 v1 v2 v3 v4 σ) := by
  refine ct_of (l := l) hD (by decide) (Nat.le_of_ble_eq_true rfl) ?_
  intro p e s m args below meth c C
  have H20 : ∀ (w0 : Int32) (τ : Sg), J p l e { frames := 7, cells := 0, slots := 0, locals := 188 } s m args below meth c M 7 vI τ 20 [(0, .ref (adr M v0)), (1, .int v1), (2, .int v2), (3, .int v3), (4, .int v4)] [.int w0] (fX10_proves_20 v0 v1 v2 v3 v4 w0 τ) := by
    intro w0 σ
    unfold fX10_proves_20
    refine j_istore C (Ls' := fun v5_20 => [(5, .int v5_20), (0, .ref (adr M v0)), (1, .int v1), (2, .int v2), (3, .int v3), (4, .int v4)]) dX10_proves_20 (by decide) (fun _ => rfl) (fun v5_20 => ?_)
    refine j_iload C dX10_proves_22 rfl ?_
    refine j_if_eq C (tgt := 34) dX10_proves_24 (by decide) ?_ ?_
    · refine j_aload_n C dX10_proves_34 rfl ?_
      refine j_getR C dX10_proves_35 fl_RX10_37 h0 (by decide) rfl rfl (by decide) (fun h_35 => ?_)
      refine j_iload C dX10_proves_38 rfl ?_
      refine j_aald C (t0 := 6) dX10_proves_40 h_35 (by decide) rfl (fun h_40 => ?_)
      refine j_callVI C (As := []) dX10_proves_41 (CX7_isMissing l M hD (rf (rf v0 4) (v4).toNatClampNeg) h_40 σ) vv_RX10_228 h_40 (by decide) rfl rfl ⟨rfl, rfl⟩ (by decide) (Nat.le_of_ble_eq_true rfl) ⟨Nat.zero_le _, Nat.zero_le _⟩ (fun r_41 s_41 => ?_)
      refine j_if_eq C (tgt := 54) dX10_proves_44 (by decide) ?_ ?_
      · refine j_aload_n C dX10_proves_54 rfl ?_
        refine j_getR C dX10_proves_55 fl_RX10_12 h0 (by decide) rfl rfl (by decide) (fun h_55 => ?_)
        refine j_callVI C (As := []) dX10_proves_58 (CX4_findBest l M hD (rf v0 0) h_55 s_41) vv_RX10_207 h_55 (by decide) rfl rfl ⟨rfl, rfl⟩ (by decide) (Nat.le_of_ble_eq_true rfl) ⟨Nat.zero_le _, Nat.zero_le _⟩ (fun r_58 s_58 => ?_)
        refine j_iload_n C dX10_proves_61 rfl ?_
        refine j_iload_n C dX10_proves_62 rfl ?_
        refine j_iload_n C dX10_proves_63 rfl ?_
        refine j_callSI C (As := [.int v1, .int v2, .int v3]) dX10_proves_64 (CX4_placeOf l M hD v1 v2 v3 s_58) vs_RX10_222 rfl rfl ⟨rfl, rfl⟩ (by decide) (Nat.le_of_ble_eq_true rfl) ⟨Nat.zero_le _, Nat.zero_le _⟩ (fun r_64 s_64 => ?_)
        refine j_icmp_eq C (tgt := 77) dX10_proves_67 (by decide) ?_ ?_
        · refine j_aload_n C dX10_proves_77 rfl ?_
          refine j_getR C dX10_proves_78 fl_RX10_12 h0 (by decide) rfl rfl (by decide) (fun h_78 => ?_)
          refine j_callVI C (As := []) dX10_proves_81 (CX4_countMeets l M hD (rf v0 0) h_78 s_64) vv_RX10_203 h_78 (by decide) rfl rfl ⟨rfl, rfl⟩ (by decide) (Nat.le_of_ble_eq_true rfl) ⟨Nat.zero_le _, Nat.zero_le _⟩ (fun r_81 s_81 => ?_)
          refine j_istore C (Ls' := fun v6_84 => [(6, .int v6_84), (5, .int v5_20), (0, .ref (adr M v0)), (1, .int v1), (2, .int v2), (3, .int v3), (4, .int v4)]) dX10_proves_84 (by decide) (fun _ => rfl) (fun v6_84 => ?_)
          refine j_aload_n C dX10_proves_86 rfl ?_
          refine j_getR C dX10_proves_87 fl_RX10_37 h0 (by decide) rfl rfl (by decide) (fun h_87 => ?_)
          refine j_iload C dX10_proves_90 rfl ?_
          refine j_aald C (t0 := 6) dX10_proves_92 h_87 (by decide) rfl (fun h_92 => ?_)
          refine j_getI C dX10_proves_93 fl_RX10_233 h_92 (by decide) rfl ?_
          refine j_iload C dX10_proves_96 rfl ?_
          refine j_icmp_ne C (tgt := 118) dX10_proves_98 (by decide) ?_ ?_
          · refine j_iload C dX10_proves_118 rfl ?_
            exact j_iret C dX10_proves_120
          · refine j_aload_n C dX10_proves_101 rfl ?_
            refine j_getR C dX10_proves_102 fl_RX10_12 h0 (by decide) rfl rfl (by decide) (fun h_102 => ?_)
            refine j_aload_n C dX10_proves_105 rfl ?_
            refine j_getR C dX10_proves_106 fl_RX10_37 h0 (by decide) rfl rfl (by decide) (fun h_106 => ?_)
            refine j_iload C dX10_proves_109 rfl ?_
            refine j_aald C (t0 := 6) dX10_proves_111 h_106 (by decide) rfl (fun h_111 => ?_)
            refine j_callVI C (As := [.ref (adr M (rf (rf v0 4) (v4).toNatClampNeg))]) dX10_proves_112 (CX4_firstWrong l M hD (rf v0 0) h_102 (rf (rf v0 4) (v4).toNatClampNeg) h_111 s_81) vv_RX10_234 h_102 (by decide) rfl rfl ⟨rfl, rfl⟩ (by decide) (Nat.le_of_ble_eq_true rfl) ⟨Nat.zero_le _, Nat.zero_le _⟩ (fun r_112 s_112 => ?_)
            refine j_goto C (tgt := 120) dX10_proves_115 (by decide) ?_
            exact j_iret C dX10_proves_120
        · refine j_aload_n C dX10_proves_70 rfl ?_
          refine j_ldc C dX10_proves_71 lc_RX10_110 ?_
          refine j_callVI C (As := [.int ((-100004 : Int32))]) dX10_proves_73 (CX10_finding l M hD v0 h0 (-100004 : Int32) s_64) vv_RX10_51 h0 (by decide) rfl rfl ⟨rfl, rfl⟩ (by decide) (Nat.le_of_ble_eq_true rfl) ⟨Nat.zero_le _, Nat.zero_le _⟩ (fun r_73 s_73 => ?_)
          exact j_iret C dX10_proves_76
      · refine j_aload_n C dX10_proves_47 rfl ?_
        refine j_ldc C dX10_proves_48 lc_RX10_232 ?_
        refine j_callVI C (As := [.int ((-100002 : Int32))]) dX10_proves_50 (CX10_finding l M hD v0 h0 (-100002 : Int32) s_41) vv_RX10_51 h0 (by decide) rfl rfl ⟨rfl, rfl⟩ (by decide) (Nat.le_of_ble_eq_true rfl) ⟨Nat.zero_le _, Nat.zero_le _⟩ (fun r_50 s_50 => ?_)
        exact j_iret C dX10_proves_53
    · refine j_aload_n C dX10_proves_27 rfl ?_
      refine j_iload C dX10_proves_28 rfl ?_
      refine j_callVI C (As := [.int v5_20]) dX10_proves_30 (CX10_finding l M hD v0 h0 v5_20 σ) vv_RX10_51 h0 (by decide) rfl rfl ⟨rfl, rfl⟩ (by decide) (Nat.le_of_ble_eq_true rfl) ⟨Nat.zero_le _, Nat.zero_le _⟩ (fun r_30 s_30 => ?_)
      exact j_iret C dX10_proves_33
  unfold fX10_proves
  refine j_iload C dX10_proves_0 rfl ?_
  refine j_callSI C (As := [.int v4]) dX10_proves_2 (CX10_isSheet l M hD v4 σ) vs_RX10_225 rfl rfl ⟨rfl, rfl⟩ (by decide) (Nat.le_of_ble_eq_true rfl) ⟨Nat.zero_le _, Nat.zero_le _⟩ (fun r_2 s_2 => ?_)
  refine j_if_eq C (tgt := 18) dX10_proves_5 (by decide) ?_ ?_
  · refine j_ldc C dX10_proves_18 lc_RX10_50 ?_
    exact H20 (-100001 : Int32) s_2
  · refine j_aload_n C dX10_proves_8 rfl ?_
    refine j_iload_n C dX10_proves_9 rfl ?_
    refine j_iload_n C dX10_proves_10 rfl ?_
    refine j_iload_n C dX10_proves_11 rfl ?_
    refine j_callVI C (As := [.int v1, .int v2, .int v3]) dX10_proves_12 (CX10_refusalOfMeet l M hD v0 h0 v1 v2 v3 s_2) vv_RX10_134 h0 (by decide) rfl rfl ⟨rfl, rfl⟩ (by decide) (Nat.le_of_ble_eq_true rfl) ⟨Nat.zero_le _, Nat.zero_le _⟩ (fun r_12 s_12 => ?_)
    refine j_goto C (tgt := 20) dX10_proves_15 (by decide) ?_
    exact H20 r_12 s_12
set_option maxRecDepth 20000 in
set_option maxHeartbeats 4000000 in
theorem CX7_areBits (l : Launch) (M : Mc) (hD : Dj M) (v0 : Int32) (σ : Sg) : Ct l M yX7_areBits cX7_areBits 1 (some .boolean) { frames := 0, cells := 0, slots := 0, locals := 0 } vI [.int v0] σ (fX7_areBits v0 σ) := by
  refine ct_of (l := l) hD (by decide) (Nat.le_of_ble_eq_true rfl) ?_
  intro p e s m args below meth c C
  unfold fX7_areBits
  refine j_iload_n C dX7_areBits_0 rfl ?_
  refine j_if_eq C (tgt := 22) dX7_areBits_1 (by decide) ?_ ?_
  · refine j_iconst C (v := (1 : Int32)) dX7_areBits_22 (by decide) ?_
    refine j_goto C (tgt := 27) dX7_areBits_23 (by decide) ?_
    exact j_zret C dX7_areBits_27
  · refine j_iload_n C dX7_areBits_4 rfl ?_
    refine j_bipush C (v := (8 : Int32)) dX7_areBits_5 (by decide) ?_
    refine j_icmp_eq C (tgt := 22) dX7_areBits_7 (by decide) ?_ ?_
    · refine j_iconst C (v := (1 : Int32)) dX7_areBits_22 (by decide) ?_
      refine j_goto C (tgt := 27) dX7_areBits_23 (by decide) ?_
      exact j_zret C dX7_areBits_27
    · refine j_iload_n C dX7_areBits_10 rfl ?_
      refine j_bipush C (v := (16 : Int32)) dX7_areBits_11 (by decide) ?_
      refine j_icmp_eq C (tgt := 22) dX7_areBits_13 (by decide) ?_ ?_
      · refine j_iconst C (v := (1 : Int32)) dX7_areBits_22 (by decide) ?_
        refine j_goto C (tgt := 27) dX7_areBits_23 (by decide) ?_
        exact j_zret C dX7_areBits_27
      · refine j_iload_n C dX7_areBits_16 rfl ?_
        refine j_bipush C (v := (32 : Int32)) dX7_areBits_17 (by decide) ?_
        refine j_icmp_ne C (tgt := 26) dX7_areBits_19 (by decide) ?_ ?_
        · refine j_iconst C (v := (0 : Int32)) dX7_areBits_26 (by decide) ?_
          exact j_zret C dX7_areBits_27
        · refine j_iconst C (v := (1 : Int32)) dX7_areBits_22 (by decide) ?_
          refine j_goto C (tgt := 27) dX7_areBits_23 (by decide) ?_
          exact j_zret C dX7_areBits_27
set_option maxRecDepth 20000 in
set_option maxHeartbeats 4000000 in
theorem CX7_clear (l : Launch) (M : Mc) (hD : Dj M) (v0 : Nat) (h0 : isK v0 7) (v1 : Int32) (v2 : Int32) (σ : Sg) : Ct l M yX7_clear cX7_clear 3 none { frames := 1, cells := 0, slots := 0, locals := 23 } vV [.ref (adr M v0), .int v1, .int v2] σ (fX7_clear v0 v1 v2 σ) := by
  refine ct_of (l := l) hD (by decide) (Nat.le_of_ble_eq_true rfl) ?_
  intro p e s m args below meth c C
  unfold fX7_clear
  refine j_aload_n C dX7_clear_0 rfl ?_
  refine j_iload_n C dX7_clear_1 rfl ?_
  refine j_put C dX7_clear_2 fl_RX7_9 fs_7_0 h0 (by decide) rfl rfl rfl (fun s_2 => ?_)
  refine j_aload_n C dX7_clear_5 rfl ?_
  refine j_iload_n C dX7_clear_6 rfl ?_
  refine j_if_ne C (tgt := 14) dX7_clear_7 (by decide) ?_ ?_
  · refine j_iload_n C dX7_clear_14 rfl ?_
    refine j_put C dX7_clear_15 fl_RX7_15 fs_7_1 h0 (by decide) rfl rfl rfl (fun s_15 => ?_)
    refine j_aload_n C dX7_clear_18 rfl ?_
    refine j_getR C dX7_clear_19 fl_RX7_18 h0 (by decide) rfl rfl (by decide) (fun h_19 => ?_)
    refine j_iconst C (v := (0 : Int32)) dX7_clear_22 (by decide) ?_
    refine j_callSv C (As := [.ref (adr M (rf v0 2)), .int ((0 : Int32))]) dX7_clear_23 (CJ7_fill_53178 l M hD (rf v0 2) h_19 (0 : Int32) s_15) vs_RX7_22 rfl rfl ⟨rfl, rfl⟩ (by decide) (Nat.le_of_ble_eq_true rfl) ⟨Nat.zero_le _, Nat.zero_le _⟩ (fun r_23 s_23 => ?_)
    exact j_vret C dX7_clear_26
  · refine j_iconst C (v := (0 : Int32)) dX7_clear_10 (by decide) ?_
    refine j_goto C (tgt := 15) dX7_clear_11 (by decide) ?_
    refine j_put C dX7_clear_15 fl_RX7_15 fs_7_1 h0 (by decide) rfl rfl rfl (fun s_15 => ?_)
    refine j_aload_n C dX7_clear_18 rfl ?_
    refine j_getR C dX7_clear_19 fl_RX7_18 h0 (by decide) rfl rfl (by decide) (fun h_19 => ?_)
    refine j_iconst C (v := (0 : Int32)) dX7_clear_22 (by decide) ?_
    refine j_callSv C (As := [.ref (adr M (rf v0 2)), .int ((0 : Int32))]) dX7_clear_23 (CJ7_fill_53178 l M hD (rf v0 2) h_19 (0 : Int32) s_15) vs_RX7_22 rfl rfl ⟨rfl, rfl⟩ (by decide) (Nat.le_of_ble_eq_true rfl) ⟨Nat.zero_le _, Nat.zero_le _⟩ (fun r_23 s_23 => ?_)
    exact j_vret C dX7_clear_26
set_option maxRecDepth 20000 in
set_option maxHeartbeats 4000000 in
theorem CX10_sheet (l : Launch) (M : Mc) (hD : Dj M) (v0 : Nat) (h0 : isK v0 10) (v1 : Int32) (v2 : Int32) (v3 : Int32) (σ : Sg) : Ct l M yX10_sheet cX10_sheet 4 (some .int) { frames := 2, cells := 0, slots := 0, locals := 45 } vI [.ref (adr M v0), .int v1, .int v2, .int v3] σ (fX10_sheet v0 v1 v2 v3 σ) := by
  refine ct_of (l := l) hD (by decide) (Nat.le_of_ble_eq_true rfl) ?_
  intro p e s m args below meth c C
  unfold fX10_sheet
  refine j_iload_n C dX10_sheet_0 rfl ?_
  refine j_callSI C (As := [.int v1]) dX10_sheet_1 (CX10_isSheet l M hD v1 σ) vs_RX10_225 rfl rfl ⟨rfl, rfl⟩ (by decide) (Nat.le_of_ble_eq_true rfl) ⟨Nat.zero_le _, Nat.zero_le _⟩ (fun r_1 s_1 => ?_)
  refine j_if_eq C (tgt := 14) dX10_sheet_4 (by decide) ?_ ?_
  · refine j_aload_n C dX10_sheet_14 rfl ?_
    refine j_ldc C dX10_sheet_15 lc_RX10_50 ?_
    refine j_callVI C (As := [.int ((-100001 : Int32))]) dX10_sheet_17 (CX10_finding l M hD v0 h0 (-100001 : Int32) s_1) vv_RX10_51 h0 (by decide) rfl rfl ⟨rfl, rfl⟩ (by decide) (Nat.le_of_ble_eq_true rfl) ⟨Nat.zero_le _, Nat.zero_le _⟩ (fun r_17 s_17 => ?_)
    exact j_iret C dX10_sheet_20
  · refine j_iload_n C dX10_sheet_7 rfl ?_
    refine j_callSI C (As := [.int v2]) dX10_sheet_8 (CX7_areBits l M hD v2 s_1) vs_RX10_238 rfl rfl ⟨rfl, rfl⟩ (by decide) (Nat.le_of_ble_eq_true rfl) ⟨Nat.zero_le _, Nat.zero_le _⟩ (fun r_8 s_8 => ?_)
    refine j_if_ne C (tgt := 21) dX10_sheet_11 (by decide) ?_ ?_
    · refine j_iload_n C dX10_sheet_21 rfl ?_
      refine j_if_ge C (tgt := 32) dX10_sheet_22 (by decide) ?_ ?_
      · refine j_iload_n C dX10_sheet_32 rfl ?_
        refine j_bipush C (v := (60 : Int32)) dX10_sheet_33 (by decide) ?_
        refine j_icmp_le C (tgt := 45) dX10_sheet_35 (by decide) ?_ ?_
        · refine j_aload_n C dX10_sheet_45 rfl ?_
          refine j_getR C dX10_sheet_46 fl_RX10_37 h0 (by decide) rfl rfl (by decide) (fun h_46 => ?_)
          refine j_iload_n C dX10_sheet_49 rfl ?_
          refine j_aald C (t0 := 6) dX10_sheet_50 h_46 (by decide) rfl (fun h_50 => ?_)
          refine j_iload_n C dX10_sheet_51 rfl ?_
          refine j_iload_n C dX10_sheet_52 rfl ?_
          refine j_callVv C (As := [.int v2, .int v3]) dX10_sheet_53 (CX7_clear l M hD (rf (rf v0 4) (v1).toNatClampNeg) h_50 v2 v3 s_8) vv_RX10_241 h_50 (by decide) rfl rfl ⟨rfl, rfl⟩ (by decide) (Nat.le_of_ble_eq_true rfl) ⟨Nat.zero_le _, Nat.zero_le _⟩ (fun r_53 s_53 => ?_)
          refine j_aload_n C dX10_sheet_56 rfl ?_
          refine j_getR C dX10_sheet_57 fl_RX10_37 h0 (by decide) rfl rfl (by decide) (fun h_57 => ?_)
          refine j_iload_n C dX10_sheet_60 rfl ?_
          refine j_aald C (t0 := 6) dX10_sheet_61 h_57 (by decide) rfl (fun h_61 => ?_)
          refine j_getI C dX10_sheet_62 fl_RX10_233 h_61 (by decide) rfl ?_
          exact j_iret C dX10_sheet_65
        · refine j_aload_n C dX10_sheet_38 rfl ?_
          refine j_ldc C dX10_sheet_39 lc_RX10_50 ?_
          refine j_callVI C (As := [.int ((-100001 : Int32))]) dX10_sheet_41 (CX10_finding l M hD v0 h0 (-100001 : Int32) s_8) vv_RX10_51 h0 (by decide) rfl rfl ⟨rfl, rfl⟩ (by decide) (Nat.le_of_ble_eq_true rfl) ⟨Nat.zero_le _, Nat.zero_le _⟩ (fun r_41 s_41 => ?_)
          exact j_iret C dX10_sheet_44
      · refine j_aload_n C dX10_sheet_25 rfl ?_
        refine j_ldc C dX10_sheet_26 lc_RX10_90 ?_
        refine j_callVI C (As := [.int ((-100003 : Int32))]) dX10_sheet_28 (CX10_finding l M hD v0 h0 (-100003 : Int32) s_8) vv_RX10_51 h0 (by decide) rfl rfl ⟨rfl, rfl⟩ (by decide) (Nat.le_of_ble_eq_true rfl) ⟨Nat.zero_le _, Nat.zero_le _⟩ (fun r_28 s_28 => ?_)
        exact j_iret C dX10_sheet_31
    · refine j_aload_n C dX10_sheet_14 rfl ?_
      refine j_ldc C dX10_sheet_15 lc_RX10_50 ?_
      refine j_callVI C (As := [.int ((-100001 : Int32))]) dX10_sheet_17 (CX10_finding l M hD v0 h0 (-100001 : Int32) s_8) vv_RX10_51 h0 (by decide) rfl rfl ⟨rfl, rfl⟩ (by decide) (Nat.le_of_ble_eq_true rfl) ⟨Nat.zero_le _, Nat.zero_le _⟩ (fun r_17 s_17 => ?_)
      exact j_iret C dX10_sheet_20
set_option maxRecDepth 20000 in
set_option maxHeartbeats 4000000 in
theorem CX10_put (l : Launch) (M : Mc) (hD : Dj M) (v0 : Nat) (h0 : isK v0 10) (v1 : Int32) (v2 : Int32) (v3 : Int32) (σ : Sg) : Ct l M yX10_put cX10_put 4 (some .int) { frames := 2, cells := 0, slots := 0, locals := 42 } vI [.ref (adr M v0), .int v1, .int v2, .int v3] σ (fX10_put v0 v1 v2 v3 σ) := by
  refine ct_of (l := l) hD (by decide) (Nat.le_of_ble_eq_true rfl) ?_
  intro p e s m args below meth c C
  unfold fX10_put
  refine j_iload_n C dX10_put_0 rfl ?_
  refine j_callSI C (As := [.int v1]) dX10_put_1 (CX10_isSheet l M hD v1 σ) vs_RX10_225 rfl rfl ⟨rfl, rfl⟩ (by decide) (Nat.le_of_ble_eq_true rfl) ⟨Nat.zero_le _, Nat.zero_le _⟩ (fun r_1 s_1 => ?_)
  refine j_if_ne C (tgt := 14) dX10_put_4 (by decide) ?_ ?_
  · refine j_aload_n C dX10_put_14 rfl ?_
    refine j_getR C dX10_put_15 fl_RX10_37 h0 (by decide) rfl rfl (by decide) (fun h_15 => ?_)
    refine j_iload_n C dX10_put_18 rfl ?_
    refine j_aald C (t0 := 6) dX10_put_19 h_15 (by decide) rfl (fun h_19 => ?_)
    refine j_callVI C (As := []) dX10_put_20 (CX7_isMissing l M hD (rf (rf v0 4) (v1).toNatClampNeg) h_19 s_1) vv_RX10_228 h_19 (by decide) rfl rfl ⟨rfl, rfl⟩ (by decide) (Nat.le_of_ble_eq_true rfl) ⟨Nat.zero_le _, Nat.zero_le _⟩ (fun r_20 s_20 => ?_)
    refine j_if_eq C (tgt := 33) dX10_put_23 (by decide) ?_ ?_
    · refine j_iload_n C dX10_put_33 rfl ?_
      refine j_iconst C (v := (0 : Int32)) dX10_put_34 (by decide) ?_
      refine j_aload_n C dX10_put_35 rfl ?_
      refine j_getR C dX10_put_36 fl_RX10_37 h0 (by decide) rfl rfl (by decide) (fun h_36 => ?_)
      refine j_iload_n C dX10_put_39 rfl ?_
      refine j_aald C (t0 := 6) dX10_put_40 h_36 (by decide) rfl (fun h_40 => ?_)
      refine j_getI C dX10_put_41 fl_RX10_233 h_40 (by decide) rfl ?_
      refine j_iconst C (v := (1 : Int32)) dX10_put_44 (by decide) ?_
      refine j_isub C dX10_put_45 ?_
      refine j_callSI C (As := [.int v2, .int ((0 : Int32)), .int (((s_20 (rf (rf v0 4) (v1).toNatClampNeg) 1) - (1 : Int32)))]) dX10_put_46 (CX10_isWithin l M hD v2 (0 : Int32) ((s_20 (rf (rf v0 4) (v1).toNatClampNeg) 1) - (1 : Int32)) s_20) vs_RX10_46 rfl rfl ⟨rfl, rfl⟩ (by decide) (Nat.le_of_ble_eq_true rfl) ⟨Nat.zero_le _, Nat.zero_le _⟩ (fun r_46 s_46 => ?_)
      refine j_if_ne C (tgt := 59) dX10_put_49 (by decide) ?_ ?_
      · refine j_aload_n C dX10_put_59 rfl ?_
        refine j_getR C dX10_put_60 fl_RX10_37 h0 (by decide) rfl rfl (by decide) (fun h_60 => ?_)
        refine j_iload_n C dX10_put_63 rfl ?_
        refine j_aald C (t0 := 6) dX10_put_64 h_60 (by decide) rfl (fun h_64 => ?_)
        refine j_getR C dX10_put_65 fl_RX10_245 h_64 (by decide) rfl rfl (by decide) (fun h_65 => ?_)
        refine j_iload_n C dX10_put_68 rfl ?_
        refine j_iload_n C dX10_put_69 rfl ?_
        refine j_aload_n C dX10_put_70 rfl ?_
        refine j_getR C dX10_put_71 fl_RX10_37 h0 (by decide) rfl rfl (by decide) (fun h_71 => ?_)
        refine j_iload_n C dX10_put_74 rfl ?_
        refine j_aald C (t0 := 6) dX10_put_75 h_71 (by decide) rfl (fun h_75 => ?_)
        refine j_callVI C (As := []) dX10_put_76 (CX7_mask l M hD (rf (rf v0 4) (v1).toNatClampNeg) h_75 s_46) vv_RX10_248 h_75 (by decide) rfl rfl ⟨rfl, rfl⟩ (by decide) (Nat.le_of_ble_eq_true rfl) ⟨Nat.zero_le _, Nat.zero_le _⟩ (fun r_76 s_76 => ?_)
        refine j_iand C dX10_put_79 ?_
        refine j_iast C dX10_put_80 h_65 (fun s_80 => ?_)
        refine j_iconst C (v := (0 : Int32)) dX10_put_81 (by decide) ?_
        exact j_iret C dX10_put_82
      · refine j_aload_n C dX10_put_52 rfl ?_
        refine j_ldc C dX10_put_53 lc_RX10_50 ?_
        refine j_callVI C (As := [.int ((-100001 : Int32))]) dX10_put_55 (CX10_finding l M hD v0 h0 (-100001 : Int32) s_46) vv_RX10_51 h0 (by decide) rfl rfl ⟨rfl, rfl⟩ (by decide) (Nat.le_of_ble_eq_true rfl) ⟨Nat.zero_le _, Nat.zero_le _⟩ (fun r_55 s_55 => ?_)
        exact j_iret C dX10_put_58
    · refine j_aload_n C dX10_put_26 rfl ?_
      refine j_ldc C dX10_put_27 lc_RX10_232 ?_
      refine j_callVI C (As := [.int ((-100002 : Int32))]) dX10_put_29 (CX10_finding l M hD v0 h0 (-100002 : Int32) s_20) vv_RX10_51 h0 (by decide) rfl rfl ⟨rfl, rfl⟩ (by decide) (Nat.le_of_ble_eq_true rfl) ⟨Nat.zero_le _, Nat.zero_le _⟩ (fun r_29 s_29 => ?_)
      exact j_iret C dX10_put_32
  · refine j_aload_n C dX10_put_7 rfl ?_
    refine j_ldc C dX10_put_8 lc_RX10_50 ?_
    refine j_callVI C (As := [.int ((-100001 : Int32))]) dX10_put_10 (CX10_finding l M hD v0 h0 (-100001 : Int32) s_1) vv_RX10_51 h0 (by decide) rfl rfl ⟨rfl, rfl⟩ (by decide) (Nat.le_of_ble_eq_true rfl) ⟨Nat.zero_le _, Nat.zero_le _⟩ (fun r_10 s_10 => ?_)
    exact j_iret C dX10_put_13
set_option maxRecDepth 20000 in
set_option maxHeartbeats 4000000 in
theorem CX7_hasSpan (l : Launch) (M : Mc) (hD : Dj M) (v0 : Nat) (h0 : isK v0 7) (v1 : Int32) (v2 : Int32) (σ : Sg) : Ct l M yX7_hasSpan cX7_hasSpan 3 (some .boolean) { frames := 0, cells := 0, slots := 0, locals := 0 } vI [.ref (adr M v0), .int v1, .int v2] σ (fX7_hasSpan v0 v1 v2 σ) := by
  refine ct_of (l := l) hD (by decide) (Nat.le_of_ble_eq_true rfl) ?_
  intro p e s m args below meth c C
  unfold fX7_hasSpan
  refine j_iload_n C dX7_hasSpan_0 rfl ?_
  refine j_if_lt C (tgt := 30) dX7_hasSpan_1 (by decide) ?_ ?_
  · refine j_iconst C (v := (0 : Int32)) dX7_hasSpan_30 (by decide) ?_
    exact j_zret C dX7_hasSpan_31
  · refine j_iload_n C dX7_hasSpan_4 rfl ?_
    refine j_if_lt C (tgt := 30) dX7_hasSpan_5 (by decide) ?_ ?_
    · refine j_iconst C (v := (0 : Int32)) dX7_hasSpan_30 (by decide) ?_
      exact j_zret C dX7_hasSpan_31
    · refine j_iload_n C dX7_hasSpan_8 rfl ?_
      refine j_aload_n C dX7_hasSpan_9 rfl ?_
      refine j_getI C dX7_hasSpan_10 fl_RX7_15 h0 (by decide) rfl ?_
      refine j_icmp_gt C (tgt := 30) dX7_hasSpan_13 (by decide) ?_ ?_
      · refine j_iconst C (v := (0 : Int32)) dX7_hasSpan_30 (by decide) ?_
        exact j_zret C dX7_hasSpan_31
      · refine j_iload_n C dX7_hasSpan_16 rfl ?_
        refine j_aload_n C dX7_hasSpan_17 rfl ?_
        refine j_getI C dX7_hasSpan_18 fl_RX7_15 h0 (by decide) rfl ?_
        refine j_iload_n C dX7_hasSpan_21 rfl ?_
        refine j_isub C dX7_hasSpan_22 ?_
        refine j_icmp_gt C (tgt := 30) dX7_hasSpan_23 (by decide) ?_ ?_
        · refine j_iconst C (v := (0 : Int32)) dX7_hasSpan_30 (by decide) ?_
          exact j_zret C dX7_hasSpan_31
        · refine j_iconst C (v := (1 : Int32)) dX7_hasSpan_26 (by decide) ?_
          refine j_goto C (tgt := 31) dX7_hasSpan_27 (by decide) ?_
          exact j_zret C dX7_hasSpan_31
set_option maxRecDepth 20000 in
set_option maxHeartbeats 4000000 in
theorem CX10_copy (l : Launch) (M : Mc) (hD : Dj M) (v0 : Nat) (h0 : isK v0 10) (v1 : Int32) (v2 : Int32) (v3 : Int32) (v4 : Int32) (v5 : Int32) (σ : Sg) : Ct l M yX10_copy cX10_copy 6 (some .int) { frames := 2, cells := 0, slots := 0, locals := 48 } vI [.ref (adr M v0), .int v1, .int v2, .int v3, .int v4, .int v5] σ (fX10_copy v0 v1 v2 v3 v4 v5 σ) := by
  refine ct_of (l := l) hD (by decide) (Nat.le_of_ble_eq_true rfl) ?_
  intro p e s m args below meth c C
  unfold fX10_copy
  refine j_iload_n C dX10_copy_0 rfl ?_
  refine j_callSI C (As := [.int v1]) dX10_copy_1 (CX10_isSheet l M hD v1 σ) vs_RX10_225 rfl rfl ⟨rfl, rfl⟩ (by decide) (Nat.le_of_ble_eq_true rfl) ⟨Nat.zero_le _, Nat.zero_le _⟩ (fun r_1 s_1 => ?_)
  refine j_if_eq C (tgt := 14) dX10_copy_4 (by decide) ?_ ?_
  · refine j_aload_n C dX10_copy_14 rfl ?_
    refine j_ldc C dX10_copy_15 lc_RX10_50 ?_
    refine j_callVI C (As := [.int ((-100001 : Int32))]) dX10_copy_17 (CX10_finding l M hD v0 h0 (-100001 : Int32) s_1) vv_RX10_51 h0 (by decide) rfl rfl ⟨rfl, rfl⟩ (by decide) (Nat.le_of_ble_eq_true rfl) ⟨Nat.zero_le _, Nat.zero_le _⟩ (fun r_17 s_17 => ?_)
    exact j_iret C dX10_copy_20
  · refine j_iload_n C dX10_copy_7 rfl ?_
    refine j_callSI C (As := [.int v3]) dX10_copy_8 (CX10_isSheet l M hD v3 s_1) vs_RX10_225 rfl rfl ⟨rfl, rfl⟩ (by decide) (Nat.le_of_ble_eq_true rfl) ⟨Nat.zero_le _, Nat.zero_le _⟩ (fun r_8 s_8 => ?_)
    refine j_if_ne C (tgt := 21) dX10_copy_11 (by decide) ?_ ?_
    · refine j_aload_n C dX10_copy_21 rfl ?_
      refine j_getR C dX10_copy_22 fl_RX10_37 h0 (by decide) rfl rfl (by decide) (fun h_22 => ?_)
      refine j_iload_n C dX10_copy_25 rfl ?_
      refine j_aald C (t0 := 6) dX10_copy_26 h_22 (by decide) rfl (fun h_26 => ?_)
      refine j_callVI C (As := []) dX10_copy_27 (CX7_isMissing l M hD (rf (rf v0 4) (v1).toNatClampNeg) h_26 s_8) vv_RX10_228 h_26 (by decide) rfl rfl ⟨rfl, rfl⟩ (by decide) (Nat.le_of_ble_eq_true rfl) ⟨Nat.zero_le _, Nat.zero_le _⟩ (fun r_27 s_27 => ?_)
      refine j_if_ne C (tgt := 45) dX10_copy_30 (by decide) ?_ ?_
      · refine j_aload_n C dX10_copy_45 rfl ?_
        refine j_ldc C dX10_copy_46 lc_RX10_232 ?_
        refine j_callVI C (As := [.int ((-100002 : Int32))]) dX10_copy_48 (CX10_finding l M hD v0 h0 (-100002 : Int32) s_27) vv_RX10_51 h0 (by decide) rfl rfl ⟨rfl, rfl⟩ (by decide) (Nat.le_of_ble_eq_true rfl) ⟨Nat.zero_le _, Nat.zero_le _⟩ (fun r_48 s_48 => ?_)
        exact j_iret C dX10_copy_51
      · refine j_aload_n C dX10_copy_33 rfl ?_
        refine j_getR C dX10_copy_34 fl_RX10_37 h0 (by decide) rfl rfl (by decide) (fun h_34 => ?_)
        refine j_iload_n C dX10_copy_37 rfl ?_
        refine j_aald C (t0 := 6) dX10_copy_38 h_34 (by decide) rfl (fun h_38 => ?_)
        refine j_callVI C (As := []) dX10_copy_39 (CX7_isMissing l M hD (rf (rf v0 4) (v3).toNatClampNeg) h_38 s_27) vv_RX10_228 h_38 (by decide) rfl rfl ⟨rfl, rfl⟩ (by decide) (Nat.le_of_ble_eq_true rfl) ⟨Nat.zero_le _, Nat.zero_le _⟩ (fun r_39 s_39 => ?_)
        refine j_if_eq C (tgt := 52) dX10_copy_42 (by decide) ?_ ?_
        · refine j_aload_n C dX10_copy_52 rfl ?_
          refine j_getR C dX10_copy_53 fl_RX10_37 h0 (by decide) rfl rfl (by decide) (fun h_53 => ?_)
          refine j_iload_n C dX10_copy_56 rfl ?_
          refine j_aald C (t0 := 6) dX10_copy_57 h_53 (by decide) rfl (fun h_57 => ?_)
          refine j_getI C dX10_copy_58 fl_RX10_251 h_57 (by decide) rfl ?_
          refine j_aload_n C dX10_copy_61 rfl ?_
          refine j_getR C dX10_copy_62 fl_RX10_37 h0 (by decide) rfl rfl (by decide) (fun h_62 => ?_)
          refine j_iload_n C dX10_copy_65 rfl ?_
          refine j_aald C (t0 := 6) dX10_copy_66 h_62 (by decide) rfl (fun h_66 => ?_)
          refine j_getI C dX10_copy_67 fl_RX10_251 h_66 (by decide) rfl ?_
          refine j_icmp_eq C (tgt := 80) dX10_copy_70 (by decide) ?_ ?_
          · refine j_aload_n C dX10_copy_80 rfl ?_
            refine j_getR C dX10_copy_81 fl_RX10_37 h0 (by decide) rfl rfl (by decide) (fun h_81 => ?_)
            refine j_iload_n C dX10_copy_84 rfl ?_
            refine j_aald C (t0 := 6) dX10_copy_85 h_81 (by decide) rfl (fun h_85 => ?_)
            refine j_iload_n C dX10_copy_86 rfl ?_
            refine j_iload C dX10_copy_87 rfl ?_
            refine j_callVI C (As := [.int v2, .int v5]) dX10_copy_89 (CX7_hasSpan l M hD (rf (rf v0 4) (v1).toNatClampNeg) h_85 v2 v5 s_39) vv_RX10_254 h_85 (by decide) rfl rfl ⟨rfl, rfl⟩ (by decide) (Nat.le_of_ble_eq_true rfl) ⟨Nat.zero_le _, Nat.zero_le _⟩ (fun r_89 s_89 => ?_)
            refine j_if_eq C (tgt := 111) dX10_copy_92 (by decide) ?_ ?_
            · refine j_aload_n C dX10_copy_111 rfl ?_
              refine j_ldc C dX10_copy_112 lc_RX10_50 ?_
              refine j_callVI C (As := [.int ((-100001 : Int32))]) dX10_copy_114 (CX10_finding l M hD v0 h0 (-100001 : Int32) s_89) vv_RX10_51 h0 (by decide) rfl rfl ⟨rfl, rfl⟩ (by decide) (Nat.le_of_ble_eq_true rfl) ⟨Nat.zero_le _, Nat.zero_le _⟩ (fun r_114 s_114 => ?_)
              exact j_iret C dX10_copy_117
            · refine j_aload_n C dX10_copy_95 rfl ?_
              refine j_getR C dX10_copy_96 fl_RX10_37 h0 (by decide) rfl rfl (by decide) (fun h_96 => ?_)
              refine j_iload_n C dX10_copy_99 rfl ?_
              refine j_aald C (t0 := 6) dX10_copy_100 h_96 (by decide) rfl (fun h_100 => ?_)
              refine j_iload C dX10_copy_101 rfl ?_
              refine j_iload C dX10_copy_103 rfl ?_
              refine j_callVI C (As := [.int v4, .int v5]) dX10_copy_105 (CX7_hasSpan l M hD (rf (rf v0 4) (v3).toNatClampNeg) h_100 v4 v5 s_89) vv_RX10_254 h_100 (by decide) rfl rfl ⟨rfl, rfl⟩ (by decide) (Nat.le_of_ble_eq_true rfl) ⟨Nat.zero_le _, Nat.zero_le _⟩ (fun r_105 s_105 => ?_)
              refine j_if_ne C (tgt := 118) dX10_copy_108 (by decide) ?_ ?_
              · refine j_aload_n C dX10_copy_118 rfl ?_
                refine j_getR C dX10_copy_119 fl_RX10_37 h0 (by decide) rfl rfl (by decide) (fun h_119 => ?_)
                refine j_iload_n C dX10_copy_122 rfl ?_
                refine j_aald C (t0 := 6) dX10_copy_123 h_119 (by decide) rfl (fun h_123 => ?_)
                refine j_getR C dX10_copy_124 fl_RX10_245 h_123 (by decide) rfl rfl (by decide) (fun h_124 => ?_)
                refine j_iload_n C dX10_copy_127 rfl ?_
                refine j_aload_n C dX10_copy_128 rfl ?_
                refine j_getR C dX10_copy_129 fl_RX10_37 h0 (by decide) rfl rfl (by decide) (fun h_129 => ?_)
                refine j_iload_n C dX10_copy_132 rfl ?_
                refine j_aald C (t0 := 6) dX10_copy_133 h_129 (by decide) rfl (fun h_133 => ?_)
                refine j_getR C dX10_copy_134 fl_RX10_245 h_133 (by decide) rfl rfl (by decide) (fun h_134 => ?_)
                refine j_iload C dX10_copy_137 rfl ?_
                refine j_iload C dX10_copy_139 rfl ?_
                refine j_copy C dX10_copy_141 lm_RX10_257 h_124 h_134 (by decide) (Nat.le_of_ble_eq_true rfl) lm_copy_1 lm_copy_2 lm_copy_3 (fun s_141 => ?_)
                refine j_iload C dX10_copy_144 rfl ?_
                exact j_iret C dX10_copy_146
              · refine j_aload_n C dX10_copy_111 rfl ?_
                refine j_ldc C dX10_copy_112 lc_RX10_50 ?_
                refine j_callVI C (As := [.int ((-100001 : Int32))]) dX10_copy_114 (CX10_finding l M hD v0 h0 (-100001 : Int32) s_105) vv_RX10_51 h0 (by decide) rfl rfl ⟨rfl, rfl⟩ (by decide) (Nat.le_of_ble_eq_true rfl) ⟨Nat.zero_le _, Nat.zero_le _⟩ (fun r_114 s_114 => ?_)
                exact j_iret C dX10_copy_117
          · refine j_aload_n C dX10_copy_73 rfl ?_
            refine j_ldc C dX10_copy_74 lc_RX10_110 ?_
            refine j_callVI C (As := [.int ((-100004 : Int32))]) dX10_copy_76 (CX10_finding l M hD v0 h0 (-100004 : Int32) s_39) vv_RX10_51 h0 (by decide) rfl rfl ⟨rfl, rfl⟩ (by decide) (Nat.le_of_ble_eq_true rfl) ⟨Nat.zero_le _, Nat.zero_le _⟩ (fun r_76 s_76 => ?_)
            exact j_iret C dX10_copy_79
        · refine j_aload_n C dX10_copy_45 rfl ?_
          refine j_ldc C dX10_copy_46 lc_RX10_232 ?_
          refine j_callVI C (As := [.int ((-100002 : Int32))]) dX10_copy_48 (CX10_finding l M hD v0 h0 (-100002 : Int32) s_39) vv_RX10_51 h0 (by decide) rfl rfl ⟨rfl, rfl⟩ (by decide) (Nat.le_of_ble_eq_true rfl) ⟨Nat.zero_le _, Nat.zero_le _⟩ (fun r_48 s_48 => ?_)
          exact j_iret C dX10_copy_51
    · refine j_aload_n C dX10_copy_14 rfl ?_
      refine j_ldc C dX10_copy_15 lc_RX10_50 ?_
      refine j_callVI C (As := [.int ((-100001 : Int32))]) dX10_copy_17 (CX10_finding l M hD v0 h0 (-100001 : Int32) s_8) vv_RX10_51 h0 (by decide) rfl rfl ⟨rfl, rfl⟩ (by decide) (Nat.le_of_ble_eq_true rfl) ⟨Nat.zero_le _, Nat.zero_le _⟩ (fun r_17 s_17 => ?_)
      exact j_iret C dX10_copy_20
