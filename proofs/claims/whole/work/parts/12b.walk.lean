set_option maxRecDepth 20000 in
set_option maxHeartbeats 4000000 in
theorem CX9_has (l : Launch) (M : Mc) (hD : Dj M) (v0 : Nat) (h0 : isK v0 9) (v1 : Int32) (σ : Sg) : Ct l M yX9_has cX9_has 2 (some .boolean) { frames := 0, cells := 0, slots := 0, locals := 0 } vI [.ref (adr M v0), .int v1] σ (fX9_has v0 v1 σ) := by
  refine ct_of (l := l) hD (by decide) (Nat.le_of_ble_eq_true rfl) ?_
  intro p e s m args below meth c C
  unfold fX9_has
  refine j_iload_n C dX9_has_0 rfl ?_
  refine j_if_lt C (tgt := 16) dX9_has_1 (by decide) ?_ ?_
  · refine j_iconst C (v := (0 : Int32)) dX9_has_16 (by decide) ?_
    exact j_zret C dX9_has_17
  · refine j_iload_n C dX9_has_4 rfl ?_
    refine j_aload_n C dX9_has_5 rfl ?_
    refine j_getI C dX9_has_6 fl_RX9_9 h0 (by decide) rfl ?_
    refine j_icmp_ge C (tgt := 16) dX9_has_9 (by decide) ?_ ?_
    · refine j_iconst C (v := (0 : Int32)) dX9_has_16 (by decide) ?_
      exact j_zret C dX9_has_17
    · refine j_iconst C (v := (1 : Int32)) dX9_has_12 (by decide) ?_
      refine j_goto C (tgt := 17) dX9_has_13 (by decide) ?_
      exact j_zret C dX9_has_17
set_option maxRecDepth 20000 in
set_option maxHeartbeats 4000000 in
theorem CX9_isOfKind (l : Launch) (M : Mc) (hD : Dj M) (v0 : Nat) (h0 : isK v0 9) (v1 : Int32) (v2 : Int32) (σ : Sg) : Ct l M yX9_isOfKind cX9_isOfKind 5 (some .boolean) { frames := 0, cells := 0, slots := 0, locals := 0 } vI [.ref (adr M v0), .int v1, .int v2] σ (fX9_isOfKind v0 v1 v2 σ) := by
  refine ct_of (l := l) hD (by decide) (Nat.le_of_ble_eq_true rfl) ?_
  intro p e s m args below meth c C
  have H10 : ∀  (n : Nat) (v3 : Int32) (v4 : Int32) (τ : Sg), J p l e { frames := 0, cells := 0, slots := 0, locals := 0 } s m args below meth c M 5 vI τ 10 [(2, .int v2), (3, .int v3), (4, .int v4)] [] (lq2 (fX9_isOfKind_10 v2) n v3 v4 τ) := by
    refine j_lq2 (Ls := fun v3 v4 => [(2, .int v2), (3, .int v3), (4, .int v4)]) (st := fun _ _ => []) ?_
    intro k10 hk10 v3 v4 σ
    unfold fX9_isOfKind_10
    refine j_iload C dX9_isOfKind_10 rfl ?_
    refine j_iconst C (v := (4 : Int32)) dX9_isOfKind_12 (by decide) ?_
    refine j_icmp_ge C (tgt := 40) dX9_isOfKind_13 (by decide) ?_ ?_
    · refine j_iconst C (v := (0 : Int32)) dX9_isOfKind_40 (by decide) ?_
      exact j_zret C dX9_isOfKind_41
    · refine j_iload_n C dX9_isOfKind_16 rfl ?_
      refine j_iconst C (v := (-1 : Int32)) dX9_isOfKind_17 (by decide) ?_
      refine j_icmp_eq C (tgt := 40) dX9_isOfKind_18 (by decide) ?_ ?_
      · refine j_iconst C (v := (0 : Int32)) dX9_isOfKind_40 (by decide) ?_
        exact j_zret C dX9_isOfKind_41
      · refine j_iload_n C dX9_isOfKind_21 rfl ?_
        refine j_iload_n C dX9_isOfKind_22 rfl ?_
        refine j_icmp_ne C (tgt := 28) dX9_isOfKind_23 (by decide) ?_ ?_
        · refine j_gs_kab C dX9_isOfKind_28 ls_RX9_44 ?_
          refine j_iload_n C dX9_isOfKind_31 rfl ?_
          refine j_ta_kab C dX9_isOfKind_32 ?_
          refine j_istore_n C (Ls' := fun v3_33 => [(3, .int v3_33), (2, .int v2), (4, .int v4)]) dX9_isOfKind_33 (by decide) (fun _ => rfl) (fun v3_33 => ?_)
          refine j_iinc C (v := (1 : Int32)) (Ls' := fun v4_34 => [(4, .int v4_34), (3, .int v3_33), (2, .int v2)]) dX9_isOfKind_34 2 rfl (by decide) (by decide) (fun _ => rfl) (fun v4_34 => ?_)
          refine j_goto C (tgt := 10) dX9_isOfKind_37 (by decide) ?_
          refine j_sub (Ls' := [(2, .int v2), (3, .int v3_33), (4, .int v4_34)]) [2, 1, 0] rfl ?_
          exact hk10 v3_33 v4_34 σ
        · refine j_iconst C (v := (1 : Int32)) dX9_isOfKind_26 (by decide) ?_
          exact j_zret C dX9_isOfKind_27
  unfold fX9_isOfKind
  refine j_aload_n C dX9_isOfKind_0 rfl ?_
  refine j_getR C dX9_isOfKind_1 fl_RX9_15 h0 (by decide) rfl rfl (by decide) (fun h_1 => ?_)
  refine j_iload_n C dX9_isOfKind_4 rfl ?_
  refine j_iald C dX9_isOfKind_5 h_1 ?_
  refine j_istore_n C (Ls' := fun v3_6 => [(3, .int v3_6), (0, .ref (adr M v0)), (1, .int v1), (2, .int v2)]) dX9_isOfKind_6 (by decide) (fun _ => rfl) (fun v3_6 => ?_)
  refine j_iconst C (v := (0 : Int32)) dX9_isOfKind_7 (by decide) ?_
  refine j_istore C (Ls' := fun v4_8 => [(4, .int v4_8), (3, .int v3_6), (0, .ref (adr M v0)), (1, .int v1), (2, .int v2)]) dX9_isOfKind_8 (by decide) (fun _ => rfl) (fun v4_8 => ?_)
  refine j_sub (Ls' := [(2, .int v2), (3, .int v3_6), (4, .int v4_8)]) [4, 1, 0] rfl ?_
  exact H10 FU v3_6 v4_8 σ
set_option maxRecDepth 20000 in
set_option maxHeartbeats 4000000 in
theorem CX10_as (l : Launch) (M : Mc) (hD : Dj M) (v0 : Nat) (h0 : isK v0 10) (v1 : Int32) (v2 : Int32) (σ : Sg) : Ct l M yX10_as cX10_as 3 (some .int) { frames := 1, cells := 0, slots := 0, locals := 24 } vI [.ref (adr M v0), .int v1, .int v2] σ (fX10_as v0 v1 v2 σ) := by
  refine ct_of (l := l) hD (by decide) (Nat.le_of_ble_eq_true rfl) ?_
  intro p e s m args below meth c C
  unfold fX10_as
  refine j_aload_n C dX10_as_0 rfl ?_
  refine j_getR C dX10_as_1 fl_RX10_27 h0 (by decide) rfl rfl (by decide) (fun h_1 => ?_)
  refine j_getR C dX10_as_4 fl_RX10_91 h_1 (by decide) rfl rfl (by decide) (fun h_4 => ?_)
  refine j_iload_n C dX10_as_7 rfl ?_
  refine j_callVI C (As := [.int v1]) dX10_as_8 (CX9_has l M hD (rf (rf v0 2) 1) h_4 v1 σ) vv_RX10_103 h_4 (by decide) rfl rfl ⟨rfl, rfl⟩ (by decide) (Nat.le_of_ble_eq_true rfl) ⟨Nat.zero_le _, Nat.zero_le _⟩ (fun r_8 s_8 => ?_)
  refine j_if_eq C (tgt := 23) dX10_as_11 (by decide) ?_ ?_
  · refine j_aload_n C dX10_as_23 rfl ?_
    refine j_ldc C dX10_as_24 lc_RX10_50 ?_
    refine j_callVI C (As := [.int ((-100001 : Int32))]) dX10_as_26 (CX10_finding l M hD v0 h0 (-100001 : Int32) s_8) vv_RX10_51 h0 (by decide) rfl rfl ⟨rfl, rfl⟩ (by decide) (Nat.le_of_ble_eq_true rfl) ⟨Nat.zero_le _, Nat.zero_le _⟩ (fun r_26 s_26 => ?_)
    exact j_iret C dX10_as_29
  · refine j_iload_n C dX10_as_14 rfl ?_
    refine j_iconst C (v := (0 : Int32)) dX10_as_15 (by decide) ?_
    refine j_iconst C (v := (3 : Int32)) dX10_as_16 (by decide) ?_
    refine j_callSI C (As := [.int v2, .int ((0 : Int32)), .int ((3 : Int32))]) dX10_as_17 (CX10_isWithin l M hD v2 (0 : Int32) (3 : Int32) s_8) vs_RX10_46 rfl rfl ⟨rfl, rfl⟩ (by decide) (Nat.le_of_ble_eq_true rfl) ⟨Nat.zero_le _, Nat.zero_le _⟩ (fun r_17 s_17 => ?_)
    refine j_if_ne C (tgt := 30) dX10_as_20 (by decide) ?_ ?_
    · refine j_aload_n C dX10_as_30 rfl ?_
      refine j_getR C dX10_as_31 fl_RX10_27 h0 (by decide) rfl rfl (by decide) (fun h_31 => ?_)
      refine j_getR C dX10_as_34 fl_RX10_91 h_31 (by decide) rfl rfl (by decide) (fun h_34 => ?_)
      refine j_iload_n C dX10_as_37 rfl ?_
      refine j_iload_n C dX10_as_38 rfl ?_
      refine j_callVI C (As := [.int v1, .int v2]) dX10_as_39 (CX9_isOfKind l M hD (rf (rf v0 2) 1) h_34 v1 v2 s_17) vv_RX10_106 h_34 (by decide) rfl rfl ⟨rfl, rfl⟩ (by decide) (Nat.le_of_ble_eq_true rfl) ⟨Nat.zero_le _, Nat.zero_le _⟩ (fun r_39 s_39 => ?_)
      refine j_if_eq C (tgt := 49) dX10_as_42 (by decide) ?_ ?_
      · refine j_aload_n C dX10_as_49 rfl ?_
        refine j_ldc C dX10_as_50 lc_RX10_110 ?_
        refine j_callVI C (As := [.int ((-100004 : Int32))]) dX10_as_52 (CX10_finding l M hD v0 h0 (-100004 : Int32) s_39) vv_RX10_51 h0 (by decide) rfl rfl ⟨rfl, rfl⟩ (by decide) (Nat.le_of_ble_eq_true rfl) ⟨Nat.zero_le _, Nat.zero_le _⟩ (fun r_52 s_52 => ?_)
        exact j_iret C dX10_as_55
      · refine j_iload_n C dX10_as_45 rfl ?_
        refine j_goto C (tgt := 55) dX10_as_46 (by decide) ?_
        exact j_iret C dX10_as_55
    · refine j_aload_n C dX10_as_23 rfl ?_
      refine j_ldc C dX10_as_24 lc_RX10_50 ?_
      refine j_callVI C (As := [.int ((-100001 : Int32))]) dX10_as_26 (CX10_finding l M hD v0 h0 (-100001 : Int32) s_17) vv_RX10_51 h0 (by decide) rfl rfl ⟨rfl, rfl⟩ (by decide) (Nat.le_of_ble_eq_true rfl) ⟨Nat.zero_le _, Nat.zero_le _⟩ (fun r_26 s_26 => ?_)
      exact j_iret C dX10_as_29
set_option maxRecDepth 20000 in
set_option maxHeartbeats 4000000 in
theorem CX9_wayOf (l : Launch) (M : Mc) (hD : Dj M) (v0 : Nat) (h0 : isK v0 9) (v1 : Int32) (σ : Sg) : Ct l M yX9_wayOf cX9_wayOf 2 (some .int) { frames := 0, cells := 0, slots := 0, locals := 0 } vI [.ref (adr M v0), .int v1] σ (fX9_wayOf v0 v1 σ) := by
  refine ct_of (l := l) hD (by decide) (Nat.le_of_ble_eq_true rfl) ?_
  intro p e s m args below meth c C
  unfold fX9_wayOf
  refine j_aload_n C dX9_wayOf_0 rfl ?_
  refine j_getR C dX9_wayOf_1 fl_RX9_22 h0 (by decide) rfl rfl (by decide) (fun h_1 => ?_)
  refine j_iload_n C dX9_wayOf_4 rfl ?_
  refine j_iald C dX9_wayOf_5 h_1 ?_
  refine j_aload_n C dX9_wayOf_6 rfl ?_
  refine j_getR C dX9_wayOf_7 fl_RX9_19 h0 (by decide) rfl rfl (by decide) (fun h_7 => ?_)
  refine j_iload_n C dX9_wayOf_10 rfl ?_
  refine j_iald C dX9_wayOf_11 h_7 ?_
  refine j_icmp_le C (tgt := 19) dX9_wayOf_12 (by decide) ?_ ?_
  · refine j_iconst C (v := (1 : Int32)) dX9_wayOf_19 (by decide) ?_
    exact j_iret C dX9_wayOf_20
  · refine j_iconst C (v := (0 : Int32)) dX9_wayOf_15 (by decide) ?_
    refine j_goto C (tgt := 20) dX9_wayOf_16 (by decide) ?_
    exact j_iret C dX9_wayOf_20
set_option maxRecDepth 20000 in
set_option maxHeartbeats 4000000 in
theorem CX9_tell (l : Launch) (M : Mc) (hD : Dj M) (v0 : Nat) (h0 : isK v0 9) (v1 : Int32) (v2 : Int32) (σ : Sg) : Ct l M yX9_tell cX9_tell 3 (some .int) { frames := 1, cells := 0, slots := 0, locals := 21 } vI [.ref (adr M v0), .int v1, .int v2] σ (fX9_tell v0 v1 v2 σ) := by
  refine ct_of (l := l) hD (by decide) (Nat.le_of_ble_eq_true rfl) ?_
  intro p e s m args below meth c C
  unfold fX9_tell
  refine j_iload_n C dX9_tell_0 rfl ?_
  refine j_cases (fun hq1_0 => ?_) (fun hq1_0 => ?_)
  · refine j_tabIn C dX9_tell_1 (tgt := 36) hq1_0 (by decide) (by decide) rfl (by decide) ?_
    refine j_aload_n C dX9_tell_36 rfl ?_
    refine j_getR C dX9_tell_37 fl_RX9_15 h0 (by decide) rfl rfl (by decide) (fun h_37 => ?_)
    refine j_iload_n C dX9_tell_40 rfl ?_
    refine j_iald C dX9_tell_41 h_37 ?_
    exact j_iret C dX9_tell_42
  · refine j_cases (fun hq1_1 => ?_) (fun hq1_1 => ?_)
    · refine j_tabIn C dX9_tell_1 (tgt := 43) hq1_1 (by decide) (by decide) rfl (by decide) ?_
      refine j_aload_n C dX9_tell_43 rfl ?_
      refine j_getR C dX9_tell_44 fl_RX9_19 h0 (by decide) rfl rfl (by decide) (fun h_44 => ?_)
      refine j_iload_n C dX9_tell_47 rfl ?_
      refine j_iald C dX9_tell_48 h_44 ?_
      exact j_iret C dX9_tell_49
    · refine j_cases (fun hq1_2 => ?_) (fun hq1_2 => ?_)
      · refine j_tabIn C dX9_tell_1 (tgt := 50) hq1_2 (by decide) (by decide) rfl (by decide) ?_
        refine j_aload_n C dX9_tell_50 rfl ?_
        refine j_getR C dX9_tell_51 fl_RX9_22 h0 (by decide) rfl rfl (by decide) (fun h_51 => ?_)
        refine j_iload_n C dX9_tell_54 rfl ?_
        refine j_iald C dX9_tell_55 h_51 ?_
        exact j_iret C dX9_tell_56
      · refine j_cases (fun hq1_3 => ?_) (fun hq1_3 => ?_)
        · refine j_tabIn C dX9_tell_1 (tgt := 57) hq1_3 (by decide) (by decide) rfl (by decide) ?_
          refine j_aload_n C dX9_tell_57 rfl ?_
          refine j_getR C dX9_tell_58 fl_RX9_25 h0 (by decide) rfl rfl (by decide) (fun h_58 => ?_)
          refine j_iload_n C dX9_tell_61 rfl ?_
          refine j_iald C dX9_tell_62 h_58 ?_
          exact j_iret C dX9_tell_63
        · refine j_cases (fun hq1_4 => ?_) (fun hq1_4 => ?_)
          · refine j_tabIn C dX9_tell_1 (tgt := 64) hq1_4 (by decide) (by decide) rfl (by decide) ?_
            refine j_aload_n C dX9_tell_64 rfl ?_
            refine j_getR C dX9_tell_65 fl_RX9_28 h0 (by decide) rfl rfl (by decide) (fun h_65 => ?_)
            refine j_iload_n C dX9_tell_68 rfl ?_
            refine j_iald C dX9_tell_69 h_65 ?_
            exact j_iret C dX9_tell_70
          · refine j_tabOut C dX9_tell_1 (tgt := 71) (by have hq1_0 := i_ne hq1_0; have hq1_1 := i_ne hq1_1; have hq1_2 := i_ne hq1_2; have hq1_3 := i_ne hq1_3; have hq1_4 := i_ne hq1_4; simp only [show ((0 : Int32)).toInt = 0 from rfl, show ((1 : Int32)).toInt = 1 from rfl, show ((2 : Int32)).toInt = 2 from rfl, show ((3 : Int32)).toInt = 3 from rfl, show ((4 : Int32)).toInt = 4 from rfl] at *; omega) (by decide) ?_
            refine j_aload_n C dX9_tell_71 rfl ?_
            refine j_iload_n C dX9_tell_72 rfl ?_
            refine j_callVI C (As := [.int v1]) dX9_tell_73 (CX9_wayOf l M hD v0 h0 v1 σ) vv_RX9_31 h0 (by decide) rfl rfl ⟨rfl, rfl⟩ (by decide) (Nat.le_of_ble_eq_true rfl) ⟨Nat.zero_le _, Nat.zero_le _⟩ (fun r_73 s_73 => ?_)
            exact j_iret C dX9_tell_76
set_option maxRecDepth 20000 in
set_option maxHeartbeats 4000000 in
theorem CX10_of (l : Launch) (M : Mc) (hD : Dj M) (v0 : Nat) (h0 : isK v0 10) (v1 : Int32) (v2 : Int32) (σ : Sg) : Ct l M yX10_of cX10_of 3 (some .int) { frames := 2, cells := 0, slots := 0, locals := 43 } vI [.ref (adr M v0), .int v1, .int v2] σ (fX10_of v0 v1 v2 σ) := by
  refine ct_of (l := l) hD (by decide) (Nat.le_of_ble_eq_true rfl) ?_
  intro p e s m args below meth c C
  unfold fX10_of
  refine j_aload_n C dX10_of_0 rfl ?_
  refine j_getR C dX10_of_1 fl_RX10_27 h0 (by decide) rfl rfl (by decide) (fun h_1 => ?_)
  refine j_getR C dX10_of_4 fl_RX10_91 h_1 (by decide) rfl rfl (by decide) (fun h_4 => ?_)
  refine j_iload_n C dX10_of_7 rfl ?_
  refine j_callVI C (As := [.int v1]) dX10_of_8 (CX9_has l M hD (rf (rf v0 2) 1) h_4 v1 σ) vv_RX10_103 h_4 (by decide) rfl rfl ⟨rfl, rfl⟩ (by decide) (Nat.le_of_ble_eq_true rfl) ⟨Nat.zero_le _, Nat.zero_le _⟩ (fun r_8 s_8 => ?_)
  refine j_if_eq C (tgt := 23) dX10_of_11 (by decide) ?_ ?_
  · refine j_aload_n C dX10_of_23 rfl ?_
    refine j_ldc C dX10_of_24 lc_RX10_50 ?_
    refine j_callVI C (As := [.int ((-100001 : Int32))]) dX10_of_26 (CX10_finding l M hD v0 h0 (-100001 : Int32) s_8) vv_RX10_51 h0 (by decide) rfl rfl ⟨rfl, rfl⟩ (by decide) (Nat.le_of_ble_eq_true rfl) ⟨Nat.zero_le _, Nat.zero_le _⟩ (fun r_26 s_26 => ?_)
    exact j_iret C dX10_of_29
  · refine j_iload_n C dX10_of_14 rfl ?_
    refine j_iconst C (v := (0 : Int32)) dX10_of_15 (by decide) ?_
    refine j_iconst C (v := (5 : Int32)) dX10_of_16 (by decide) ?_
    refine j_callSI C (As := [.int v2, .int ((0 : Int32)), .int ((5 : Int32))]) dX10_of_17 (CX10_isWithin l M hD v2 (0 : Int32) (5 : Int32) s_8) vs_RX10_46 rfl rfl ⟨rfl, rfl⟩ (by decide) (Nat.le_of_ble_eq_true rfl) ⟨Nat.zero_le _, Nat.zero_le _⟩ (fun r_17 s_17 => ?_)
    refine j_if_ne C (tgt := 30) dX10_of_20 (by decide) ?_ ?_
    · refine j_aload_n C dX10_of_30 rfl ?_
      refine j_getR C dX10_of_31 fl_RX10_27 h0 (by decide) rfl rfl (by decide) (fun h_31 => ?_)
      refine j_getR C dX10_of_34 fl_RX10_91 h_31 (by decide) rfl rfl (by decide) (fun h_34 => ?_)
      refine j_iload_n C dX10_of_37 rfl ?_
      refine j_iload_n C dX10_of_38 rfl ?_
      refine j_callVI C (As := [.int v1, .int v2]) dX10_of_39 (CX9_tell l M hD (rf (rf v0 2) 1) h_34 v1 v2 s_17) vv_RX10_111 h_34 (by decide) rfl rfl ⟨rfl, rfl⟩ (by decide) (Nat.le_of_ble_eq_true rfl) ⟨Nat.zero_le _, Nat.zero_le _⟩ (fun r_39 s_39 => ?_)
      exact j_iret C dX10_of_42
    · refine j_aload_n C dX10_of_23 rfl ?_
      refine j_ldc C dX10_of_24 lc_RX10_50 ?_
      refine j_callVI C (As := [.int ((-100001 : Int32))]) dX10_of_26 (CX10_finding l M hD v0 h0 (-100001 : Int32) s_17) vv_RX10_51 h0 (by decide) rfl rfl ⟨rfl, rfl⟩ (by decide) (Nat.le_of_ble_eq_true rfl) ⟨Nat.zero_le _, Nat.zero_le _⟩ (fun r_26 s_26 => ?_)
      exact j_iret C dX10_of_29
set_option maxRecDepth 20000 in
set_option maxHeartbeats 4000000 in
theorem CX10_time (l : Launch) (M : Mc) (hD : Dj M) (v0 : Nat) (h0 : isK v0 10) (v1 : Int32) (v2 : Int32) (σ : Sg) : Ct l M yX10_time cX10_time 4 (some .int) { frames := 5, cells := 0, slots := 0, locals := 131 } vI [.ref (adr M v0), .int v1, .int v2] σ (fX10_time v0 v1 v2 σ) := by
  refine ct_of (l := l) hD (by decide) (Nat.le_of_ble_eq_true rfl) ?_
  intro p e s m args below meth c C
  unfold fX10_time
  refine j_aload_n C dX10_time_0 rfl ?_
  refine j_getR C dX10_time_1 fl_RX10_27 h0 (by decide) rfl rfl (by decide) (fun h_1 => ?_)
  refine j_getR C dX10_time_4 fl_RX10_91 h_1 (by decide) rfl rfl (by decide) (fun h_4 => ?_)
  refine j_iload_n C dX10_time_7 rfl ?_
  refine j_callVI C (As := [.int v1]) dX10_time_8 (CX9_has l M hD (rf (rf v0 2) 1) h_4 v1 σ) vv_RX10_103 h_4 (by decide) rfl rfl ⟨rfl, rfl⟩ (by decide) (Nat.le_of_ble_eq_true rfl) ⟨Nat.zero_le _, Nat.zero_le _⟩ (fun r_8 s_8 => ?_)
  refine j_if_eq C (tgt := 25) dX10_time_11 (by decide) ?_ ?_
  · refine j_aload_n C dX10_time_25 rfl ?_
    refine j_ldc C dX10_time_26 lc_RX10_50 ?_
    refine j_callVI C (As := [.int ((-100001 : Int32))]) dX10_time_28 (CX10_finding l M hD v0 h0 (-100001 : Int32) s_8) vv_RX10_51 h0 (by decide) rfl rfl ⟨rfl, rfl⟩ (by decide) (Nat.le_of_ble_eq_true rfl) ⟨Nat.zero_le _, Nat.zero_le _⟩ (fun r_28 s_28 => ?_)
    exact j_iret C dX10_time_31
  · refine j_iload_n C dX10_time_14 rfl ?_
    refine j_iconst C (v := (0 : Int32)) dX10_time_15 (by decide) ?_
    refine j_sipush C (v := (300 : Int32)) dX10_time_16 (by decide) ?_
    refine j_callSI C (As := [.int v2, .int ((0 : Int32)), .int ((300 : Int32))]) dX10_time_19 (CX10_isWithin l M hD v2 (0 : Int32) (300 : Int32) s_8) vs_RX10_46 rfl rfl ⟨rfl, rfl⟩ (by decide) (Nat.le_of_ble_eq_true rfl) ⟨Nat.zero_le _, Nat.zero_le _⟩ (fun r_19 s_19 => ?_)
    refine j_if_ne C (tgt := 32) dX10_time_22 (by decide) ?_ ?_
    · refine j_aload_n C dX10_time_32 rfl ?_
      refine j_callVv C (As := []) dX10_time_33 (CX10_keepForUndo l M hD v0 h0 s_19) vv_RX10_62 h0 (by decide) rfl rfl ⟨rfl, rfl⟩ (by decide) (Nat.le_of_ble_eq_true rfl) ⟨Nat.zero_le _, Nat.zero_le _⟩ (fun r_33 s_33 => ?_)
      refine j_aload_n C dX10_time_36 rfl ?_
      refine j_getR C dX10_time_37 fl_RX10_27 h0 (by decide) rfl rfl (by decide) (fun h_37 => ?_)
      refine j_getR C dX10_time_40 fl_RX10_91 h_37 (by decide) rfl rfl (by decide) (fun h_40 => ?_)
      refine j_getR C dX10_time_43 fl_RX10_115 h_40 (by decide) rfl rfl (by decide) (fun h_43 => ?_)
      refine j_iload_n C dX10_time_46 rfl ?_
      refine j_iald C dX10_time_47 h_43 ?_
      refine j_istore_n C (Ls' := fun v3_48 => [(3, .int v3_48), (0, .ref (adr M v0)), (1, .int v1), (2, .int v2)]) dX10_time_48 (by decide) (fun _ => rfl) (fun v3_48 => ?_)
      refine j_aload_n C dX10_time_49 rfl ?_
      refine j_getR C dX10_time_50 fl_RX10_27 h0 (by decide) rfl rfl (by decide) (fun h_50 => ?_)
      refine j_getR C dX10_time_53 fl_RX10_91 h_50 (by decide) rfl rfl (by decide) (fun h_53 => ?_)
      refine j_getR C dX10_time_56 fl_RX10_115 h_53 (by decide) rfl rfl (by decide) (fun h_56 => ?_)
      refine j_iload_n C dX10_time_59 rfl ?_
      refine j_iload_n C dX10_time_60 rfl ?_
      refine j_iast C dX10_time_61 h_56 (fun s_61 => ?_)
      refine j_iload_n C dX10_time_62 rfl ?_
      exact j_iret C dX10_time_63
    · refine j_aload_n C dX10_time_25 rfl ?_
      refine j_ldc C dX10_time_26 lc_RX10_50 ?_
      refine j_callVI C (As := [.int ((-100001 : Int32))]) dX10_time_28 (CX10_finding l M hD v0 h0 (-100001 : Int32) s_19) vv_RX10_51 h0 (by decide) rfl rfl ⟨rfl, rfl⟩ (by decide) (Nat.le_of_ble_eq_true rfl) ⟨Nat.zero_le _, Nat.zero_le _⟩ (fun r_28 s_28 => ?_)
      exact j_iret C dX10_time_31
set_option maxRecDepth 20000 in
set_option maxHeartbeats 4000000 in
theorem CX9_passes (l : Launch) (M : Mc) (hD : Dj M) (v0 : Nat) (h0 : isK v0 9) (v1 : Int32) (v2 : Int32) (σ : Sg) : Ct l M yX9_passes cX9_passes 3 (some .boolean) { frames := 1, cells := 0, slots := 0, locals := 48 } vI [.ref (adr M v0), .int v1, .int v2] σ (fX9_passes v0 v1 v2 σ) := by
  refine ct_of (l := l) hD (by decide) (Nat.le_of_ble_eq_true rfl) ?_
  intro p e s m args below meth c C
  unfold fX9_passes
  refine j_iload_n C dX9_passes_0 rfl ?_
  refine j_aload_n C dX9_passes_1 rfl ?_
  refine j_getR C dX9_passes_2 fl_RX9_19 h0 (by decide) rfl rfl (by decide) (fun h_2 => ?_)
  refine j_iload_n C dX9_passes_5 rfl ?_
  refine j_iald C dX9_passes_6 h_2 ?_
  refine j_aload_n C dX9_passes_7 rfl ?_
  refine j_getR C dX9_passes_8 fl_RX9_22 h0 (by decide) rfl rfl (by decide) (fun h_8 => ?_)
  refine j_iload_n C dX9_passes_11 rfl ?_
  refine j_iald C dX9_passes_12 h_8 ?_
  refine j_mmin C dX9_passes_13 lm_RX9_35 lm_min_1 lm_2 lm_min_3 (by decide) (Nat.le_of_ble_eq_true rfl) ⟨Nat.zero_le _, Nat.zero_le _⟩ ?_
  refine j_icmp_lt C (tgt := 42) dX9_passes_16 (by decide) ?_ ?_
  · refine j_iconst C (v := (0 : Int32)) dX9_passes_42 (by decide) ?_
    exact j_zret C dX9_passes_43
  · refine j_iload_n C dX9_passes_19 rfl ?_
    refine j_aload_n C dX9_passes_20 rfl ?_
    refine j_getR C dX9_passes_21 fl_RX9_19 h0 (by decide) rfl rfl (by decide) (fun h_21 => ?_)
    refine j_iload_n C dX9_passes_24 rfl ?_
    refine j_iald C dX9_passes_25 h_21 ?_
    refine j_aload_n C dX9_passes_26 rfl ?_
    refine j_getR C dX9_passes_27 fl_RX9_22 h0 (by decide) rfl rfl (by decide) (fun h_27 => ?_)
    refine j_iload_n C dX9_passes_30 rfl ?_
    refine j_iald C dX9_passes_31 h_27 ?_
    refine j_mmax C dX9_passes_32 lm_RX9_41 lm_max_1 lm_2 lm_max_3 (by decide) (Nat.le_of_ble_eq_true rfl) ⟨Nat.zero_le _, Nat.zero_le _⟩ ?_
    refine j_icmp_gt C (tgt := 42) dX9_passes_35 (by decide) ?_ ?_
    · refine j_iconst C (v := (0 : Int32)) dX9_passes_42 (by decide) ?_
      exact j_zret C dX9_passes_43
    · refine j_iconst C (v := (1 : Int32)) dX9_passes_38 (by decide) ?_
      refine j_goto C (tgt := 43) dX9_passes_39 (by decide) ?_
      exact j_zret C dX9_passes_43
set_option maxRecDepth 20000 in
set_option maxHeartbeats 4000000 in
theorem CX8_minutesBetween (l : Launch) (M : Mc) (hD : Dj M) (v0 : Nat) (h0 : isK v0 8) (v1 : Int32) (v2 : Int32) (σ : Sg) : Ct l M yX8_minutesBetween cX8_minutesBetween 6 (some .int) { frames := 0, cells := 0, slots := 0, locals := 0 } vI [.ref (adr M v0), .int v1, .int v2] σ (fX8_minutesBetween v0 v1 v2 σ) := by
  refine ct_of (l := l) hD (by decide) (Nat.le_of_ble_eq_true rfl) ?_
  intro p e s m args below meth c C
  have H26 : ∀ (v3 : Int32) (n : Nat) (v4 : Int32) (v5 : Int32) (τ : Sg), J p l e { frames := 0, cells := 0, slots := 0, locals := 0 } s m args below meth c M 6 vI τ 26 [(0, .ref (adr M v0)), (3, .int v3), (4, .int v4), (5, .int v5)] [] (lq2 (fX8_minutesBetween_26 v0 v3) n v4 v5 τ) := by
    intro v3
    refine j_lq2 (Ls := fun v4 v5 => [(0, .ref (adr M v0)), (3, .int v3), (4, .int v4), (5, .int v5)]) (st := fun _ _ => []) ?_
    intro k26 hk26 v4 v5 σ
    unfold fX8_minutesBetween_26
    refine j_iload C dX8_minutesBetween_26 rfl ?_
    refine j_iload_n C dX8_minutesBetween_28 rfl ?_
    refine j_icmp_ge C (tgt := 50) dX8_minutesBetween_29 (by decide) ?_ ?_
    · refine j_iload C dX8_minutesBetween_50 rfl ?_
      exact j_iret C dX8_minutesBetween_52
    · refine j_iload C dX8_minutesBetween_32 rfl ?_
      refine j_aload_n C dX8_minutesBetween_34 rfl ?_
      refine j_getR C dX8_minutesBetween_35 fl_RX8_19 h0 (by decide) rfl rfl (by decide) (fun h_35 => ?_)
      refine j_iload C dX8_minutesBetween_38 rfl ?_
      refine j_iald C dX8_minutesBetween_40 h_35 ?_
      refine j_iadd C dX8_minutesBetween_41 ?_
      refine j_istore C (Ls' := fun v4_42 => [(4, .int v4_42), (0, .ref (adr M v0)), (3, .int v3), (5, .int v5)]) dX8_minutesBetween_42 (by decide) (fun _ => rfl) (fun v4_42 => ?_)
      refine j_iinc C (v := (1 : Int32)) (Ls' := fun v5_44 => [(5, .int v5_44), (4, .int v4_42), (0, .ref (adr M v0)), (3, .int v3)]) dX8_minutesBetween_44 3 rfl (by decide) (by decide) (fun _ => rfl) (fun v5_44 => ?_)
      refine j_goto C (tgt := 26) dX8_minutesBetween_47 (by decide) ?_
      refine j_sub (Ls' := [(0, .ref (adr M v0)), (3, .int v3), (4, .int v4_42), (5, .int v5_44)]) [2, 3, 1, 0] rfl ?_
      exact hk26 v4_42 v5_44 σ
  have H24 : ∀ (v3 : Int32) (v4 : Int32) (w0 : Int32) (τ : Sg), J p l e { frames := 0, cells := 0, slots := 0, locals := 0 } s m args below meth c M 6 vI τ 24 [(0, .ref (adr M v0)), (3, .int v3), (4, .int v4)] [.int w0] (fX8_minutesBetween_24 v0 v3 v4 w0 τ) := by
    intro v3 v4 w0 σ
    unfold fX8_minutesBetween_24
    refine j_istore C (Ls' := fun v5_24 => [(5, .int v5_24), (0, .ref (adr M v0)), (3, .int v3), (4, .int v4)]) dX8_minutesBetween_24 (by decide) (fun _ => rfl) (fun v5_24 => ?_)
    refine j_sub (Ls' := [(0, .ref (adr M v0)), (3, .int v3), (4, .int v4), (5, .int v5_24)]) [1, 2, 3, 0] rfl ?_
    exact H26 v3 FU v4 v5_24 σ
  have H10 : ∀ (w0 : Int32) (τ : Sg), J p l e { frames := 0, cells := 0, slots := 0, locals := 0 } s m args below meth c M 6 vI τ 10 [(0, .ref (adr M v0)), (1, .int v1), (2, .int v2)] [.int w0] (fX8_minutesBetween_10 v0 v1 v2 w0 τ) := by
    intro w0 σ
    unfold fX8_minutesBetween_10
    refine j_istore_n C (Ls' := fun v3_10 => [(3, .int v3_10), (0, .ref (adr M v0)), (1, .int v1), (2, .int v2)]) dX8_minutesBetween_10 (by decide) (fun _ => rfl) (fun v3_10 => ?_)
    refine j_iconst C (v := (0 : Int32)) dX8_minutesBetween_11 (by decide) ?_
    refine j_istore C (Ls' := fun v4_12 => [(4, .int v4_12), (3, .int v3_10), (0, .ref (adr M v0)), (1, .int v1), (2, .int v2)]) dX8_minutesBetween_12 (by decide) (fun _ => rfl) (fun v4_12 => ?_)
    refine j_iload_n C dX8_minutesBetween_14 rfl ?_
    refine j_iload_n C dX8_minutesBetween_15 rfl ?_
    refine j_icmp_ge C (tgt := 23) dX8_minutesBetween_16 (by decide) ?_ ?_
    · refine j_iload_n C dX8_minutesBetween_23 rfl ?_
      refine j_sub (Ls' := [(0, .ref (adr M v0)), (3, .int v3_10), (4, .int v4_12)]) [2, 1, 0] rfl ?_
      exact H24 v3_10 v4_12 v2 σ
    · refine j_iload_n C dX8_minutesBetween_19 rfl ?_
      refine j_goto C (tgt := 24) dX8_minutesBetween_20 (by decide) ?_
      refine j_sub (Ls' := [(0, .ref (adr M v0)), (3, .int v3_10), (4, .int v4_12)]) [2, 1, 0] rfl ?_
      exact H24 v3_10 v4_12 v1 σ
  unfold fX8_minutesBetween
  refine j_iload_n C dX8_minutesBetween_0 rfl ?_
  refine j_iload_n C dX8_minutesBetween_1 rfl ?_
  refine j_icmp_ge C (tgt := 9) dX8_minutesBetween_2 (by decide) ?_ ?_
  · refine j_iload_n C dX8_minutesBetween_9 rfl ?_
    exact H10 v1 σ
  · refine j_iload_n C dX8_minutesBetween_5 rfl ?_
    refine j_goto C (tgt := 10) dX8_minutesBetween_6 (by decide) ?_
    exact H10 v2 σ
set_option maxRecDepth 20000 in
set_option maxHeartbeats 4000000 in
theorem CX3_dueAt (l : Launch) (M : Mc) (hD : Dj M) (v0 : Nat) (h0 : isK v0 3) (v1 : Int32) (v2 : Int32) (σ : Sg) : Ct l M yX3_dueAt cX3_dueAt 3 (some .int) { frames := 1, cells := 0, slots := 0, locals := 25 } vI [.ref (adr M v0), .int v1, .int v2] σ (fX3_dueAt v0 v1 v2 σ) := by
  refine ct_of (l := l) hD (by decide) (Nat.le_of_ble_eq_true rfl) ?_
  intro p e s m args below meth c C
  unfold fX3_dueAt
  refine j_aload_n C dX3_dueAt_0 rfl ?_
  refine j_getR C dX3_dueAt_1 fl_RX3_21 h0 (by decide) rfl rfl (by decide) (fun h_1 => ?_)
  refine j_getR C dX3_dueAt_4 fl_RX3_48 h_1 (by decide) rfl rfl (by decide) (fun h_4 => ?_)
  refine j_iload_n C dX3_dueAt_7 rfl ?_
  refine j_iald C dX3_dueAt_8 h_4 ?_
  refine j_aload_n C dX3_dueAt_9 rfl ?_
  refine j_getR C dX3_dueAt_10 fl_RX3_12 h0 (by decide) rfl rfl (by decide) (fun h_10 => ?_)
  refine j_aload_n C dX3_dueAt_13 rfl ?_
  refine j_getR C dX3_dueAt_14 fl_RX3_21 h0 (by decide) rfl rfl (by decide) (fun h_14 => ?_)
  refine j_getR C dX3_dueAt_17 fl_RX3_51 h_14 (by decide) rfl rfl (by decide) (fun h_17 => ?_)
  refine j_iload_n C dX3_dueAt_20 rfl ?_
  refine j_iald C dX3_dueAt_21 h_17 ?_
  refine j_iload_n C dX3_dueAt_22 rfl ?_
  refine j_callVI C (As := [.int ((σ (rf (rf v0 1) 2) (v1).toNatClampNeg)), .int v2]) dX3_dueAt_23 (CX8_minutesBetween l M hD (rf v0 0) h_10 (σ (rf (rf v0 1) 2) (v1).toNatClampNeg) v2 σ) vv_RX3_54 h_10 (by decide) rfl rfl ⟨rfl, rfl⟩ (by decide) (Nat.le_of_ble_eq_true rfl) ⟨Nat.zero_le _, Nat.zero_le _⟩ (fun r_23 s_23 => ?_)
  refine j_iadd C dX3_dueAt_26 ?_
  exact j_iret C dX3_dueAt_27
set_option maxRecDepth 20000 in
set_option maxHeartbeats 4000000 in
theorem CX10_due (l : Launch) (M : Mc) (hD : Dj M) (v0 : Nat) (h0 : isK v0 10) (v1 : Int32) (v2 : Int32) (σ : Sg) : Ct l M yX10_due cX10_due 3 (some .int) { frames := 2, cells := 0, slots := 0, locals := 70 } vI [.ref (adr M v0), .int v1, .int v2] σ (fX10_due v0 v1 v2 σ) := by
  refine ct_of (l := l) hD (by decide) (Nat.le_of_ble_eq_true rfl) ?_
  intro p e s m args below meth c C
  unfold fX10_due
  refine j_aload_n C dX10_due_0 rfl ?_
  refine j_getR C dX10_due_1 fl_RX10_27 h0 (by decide) rfl rfl (by decide) (fun h_1 => ?_)
  refine j_getR C dX10_due_4 fl_RX10_91 h_1 (by decide) rfl rfl (by decide) (fun h_4 => ?_)
  refine j_iload_n C dX10_due_7 rfl ?_
  refine j_callVI C (As := [.int v1]) dX10_due_8 (CX9_has l M hD (rf (rf v0 2) 1) h_4 v1 σ) vv_RX10_103 h_4 (by decide) rfl rfl ⟨rfl, rfl⟩ (by decide) (Nat.le_of_ble_eq_true rfl) ⟨Nat.zero_le _, Nat.zero_le _⟩ (fun r_8 s_8 => ?_)
  refine j_if_eq C (tgt := 28) dX10_due_11 (by decide) ?_ ?_
  · refine j_aload_n C dX10_due_28 rfl ?_
    refine j_ldc C dX10_due_29 lc_RX10_50 ?_
    refine j_callVI C (As := [.int ((-100001 : Int32))]) dX10_due_31 (CX10_finding l M hD v0 h0 (-100001 : Int32) s_8) vv_RX10_51 h0 (by decide) rfl rfl ⟨rfl, rfl⟩ (by decide) (Nat.le_of_ble_eq_true rfl) ⟨Nat.zero_le _, Nat.zero_le _⟩ (fun r_31 s_31 => ?_)
    exact j_iret C dX10_due_34
  · refine j_aload_n C dX10_due_14 rfl ?_
    refine j_getR C dX10_due_15 fl_RX10_27 h0 (by decide) rfl rfl (by decide) (fun h_15 => ?_)
    refine j_getR C dX10_due_18 fl_RX10_65 h_15 (by decide) rfl rfl (by decide) (fun h_18 => ?_)
    refine j_iload_n C dX10_due_21 rfl ?_
    refine j_callVI C (As := [.int v2]) dX10_due_22 (CX8_hasStation l M hD (rf (rf v0 2) 0) h_18 v2 s_8) vv_RX10_74 h_18 (by decide) rfl rfl ⟨rfl, rfl⟩ (by decide) (Nat.le_of_ble_eq_true rfl) ⟨Nat.zero_le _, Nat.zero_le _⟩ (fun r_22 s_22 => ?_)
    refine j_if_ne C (tgt := 35) dX10_due_25 (by decide) ?_ ?_
    · refine j_aload_n C dX10_due_35 rfl ?_
      refine j_getR C dX10_due_36 fl_RX10_27 h0 (by decide) rfl rfl (by decide) (fun h_36 => ?_)
      refine j_getR C dX10_due_39 fl_RX10_91 h_36 (by decide) rfl rfl (by decide) (fun h_39 => ?_)
      refine j_iload_n C dX10_due_42 rfl ?_
      refine j_iload_n C dX10_due_43 rfl ?_
      refine j_callVI C (As := [.int v1, .int v2]) dX10_due_44 (CX9_passes l M hD (rf (rf v0 2) 1) h_39 v1 v2 s_22) vv_RX10_118 h_39 (by decide) rfl rfl ⟨rfl, rfl⟩ (by decide) (Nat.le_of_ble_eq_true rfl) ⟨Nat.zero_le _, Nat.zero_le _⟩ (fun r_44 s_44 => ?_)
      refine j_if_ne C (tgt := 57) dX10_due_47 (by decide) ?_ ?_
      · refine j_aload_n C dX10_due_57 rfl ?_
        refine j_getR C dX10_due_58 fl_RX10_27 h0 (by decide) rfl rfl (by decide) (fun h_58 => ?_)
        refine j_iload_n C dX10_due_61 rfl ?_
        refine j_iload_n C dX10_due_62 rfl ?_
        refine j_callVI C (As := [.int v1, .int v2]) dX10_due_63 (CX3_dueAt l M hD (rf v0 2) h_58 v1 v2 s_44) vv_RX10_122 h_58 (by decide) rfl rfl ⟨rfl, rfl⟩ (by decide) (Nat.le_of_ble_eq_true rfl) ⟨Nat.zero_le _, Nat.zero_le _⟩ (fun r_63 s_63 => ?_)
        exact j_iret C dX10_due_66
      · refine j_aload_n C dX10_due_50 rfl ?_
        refine j_ldc C dX10_due_51 lc_RX10_121 ?_
        refine j_callVI C (As := [.int ((-100006 : Int32))]) dX10_due_53 (CX10_finding l M hD v0 h0 (-100006 : Int32) s_44) vv_RX10_51 h0 (by decide) rfl rfl ⟨rfl, rfl⟩ (by decide) (Nat.le_of_ble_eq_true rfl) ⟨Nat.zero_le _, Nat.zero_le _⟩ (fun r_53 s_53 => ?_)
        exact j_iret C dX10_due_56
    · refine j_aload_n C dX10_due_28 rfl ?_
      refine j_ldc C dX10_due_29 lc_RX10_50 ?_
      refine j_callVI C (As := [.int ((-100001 : Int32))]) dX10_due_31 (CX10_finding l M hD v0 h0 (-100001 : Int32) s_22) vv_RX10_51 h0 (by decide) rfl rfl ⟨rfl, rfl⟩ (by decide) (Nat.le_of_ble_eq_true rfl) ⟨Nat.zero_le _, Nat.zero_le _⟩ (fun r_31 s_31 => ?_)
      exact j_iret C dX10_due_34
set_option maxRecDepth 20000 in
set_option maxHeartbeats 4000000 in
theorem CX9_areContrary (l : Launch) (M : Mc) (hD : Dj M) (v0 : Nat) (h0 : isK v0 9) (v1 : Int32) (v2 : Int32) (σ : Sg) : Ct l M yX9_areContrary cX9_areContrary 3 (some .boolean) { frames := 1, cells := 0, slots := 0, locals := 21 } vI [.ref (adr M v0), .int v1, .int v2] σ (fX9_areContrary v0 v1 v2 σ) := by
  refine ct_of (l := l) hD (by decide) (Nat.le_of_ble_eq_true rfl) ?_
  intro p e s m args below meth c C
  unfold fX9_areContrary
  refine j_aload_n C dX9_areContrary_0 rfl ?_
  refine j_iload_n C dX9_areContrary_1 rfl ?_
  refine j_callVI C (As := [.int v1]) dX9_areContrary_2 (CX9_wayOf l M hD v0 h0 v1 σ) vv_RX9_31 h0 (by decide) rfl rfl ⟨rfl, rfl⟩ (by decide) (Nat.le_of_ble_eq_true rfl) ⟨Nat.zero_le _, Nat.zero_le _⟩ (fun r_2 s_2 => ?_)
  refine j_aload_n C dX9_areContrary_5 rfl ?_
  refine j_iload_n C dX9_areContrary_6 rfl ?_
  refine j_callVI C (As := [.int v2]) dX9_areContrary_7 (CX9_wayOf l M hD v0 h0 v2 s_2) vv_RX9_31 h0 (by decide) rfl rfl ⟨rfl, rfl⟩ (by decide) (Nat.le_of_ble_eq_true rfl) ⟨Nat.zero_le _, Nat.zero_le _⟩ (fun r_7 s_7 => ?_)
  refine j_icmp_eq C (tgt := 17) dX9_areContrary_10 (by decide) ?_ ?_
  · refine j_iconst C (v := (0 : Int32)) dX9_areContrary_17 (by decide) ?_
    exact j_zret C dX9_areContrary_18
  · refine j_iconst C (v := (1 : Int32)) dX9_areContrary_13 (by decide) ?_
    refine j_goto C (tgt := 18) dX9_areContrary_14 (by decide) ?_
    exact j_zret C dX9_areContrary_18
set_option maxRecDepth 20000 in
set_option maxHeartbeats 4000000 in
theorem CX9_strength (l : Launch) (M : Mc) (hD : Dj M) (v0 : Nat) (h0 : isK v0 9) (v1 : Int32) (v2 : Int32) (σ : Sg) : Ct l M yX9_strength cX9_strength 3 (some .int) { frames := 0, cells := 0, slots := 0, locals := 0 } vI [.ref (adr M v0), .int v1, .int v2] σ (fX9_strength v0 v1 v2 σ) := by
  refine ct_of (l := l) hD (by decide) (Nat.le_of_ble_eq_true rfl) ?_
  intro p e s m args below meth c C
  unfold fX9_strength
  refine j_iconst C (v := (2 : Int32)) dX9_strength_0 (by decide) ?_
  refine j_gs_rnk C dX9_strength_1 ls_RX9_47 ?_
  refine j_aload_n C dX9_strength_4 rfl ?_
  refine j_getR C dX9_strength_5 fl_RX9_15 h0 (by decide) rfl rfl (by decide) (fun h_5 => ?_)
  refine j_iload_n C dX9_strength_8 rfl ?_
  refine j_iald C dX9_strength_9 h_5 ?_
  refine j_ta_rnk C dX9_strength_10 ?_
  refine j_imul C dX9_strength_11 ?_
  refine j_iload_n C dX9_strength_12 rfl ?_
  refine j_if_ne C (tgt := 20) dX9_strength_13 (by decide) ?_ ?_
  · refine j_iconst C (v := (0 : Int32)) dX9_strength_20 (by decide) ?_
    refine j_iadd C dX9_strength_21 ?_
    exact j_iret C dX9_strength_22
  · refine j_iconst C (v := (1 : Int32)) dX9_strength_16 (by decide) ?_
    refine j_goto C (tgt := 21) dX9_strength_17 (by decide) ?_
    refine j_iadd C dX9_strength_21 ?_
    exact j_iret C dX9_strength_22
set_option maxRecDepth 20000 in
set_option maxHeartbeats 4000000 in
theorem CX10_over (l : Launch) (M : Mc) (hD : Dj M) (v0 : Nat) (h0 : isK v0 10) (v1 : Int32) (v2 : Int32) (σ : Sg) : Ct l M yX10_over cX10_over 5 (some .int) { frames := 2, cells := 0, slots := 0, locals := 43 } vI [.ref (adr M v0), .int v1, .int v2] σ (fX10_over v0 v1 v2 σ) := by
  refine ct_of (l := l) hD (by decide) (Nat.le_of_ble_eq_true rfl) ?_
  intro p e s m args below meth c C
  unfold fX10_over
  refine j_aload_n C dX10_over_0 rfl ?_
  refine j_getR C dX10_over_1 fl_RX10_27 h0 (by decide) rfl rfl (by decide) (fun h_1 => ?_)
  refine j_getR C dX10_over_4 fl_RX10_91 h_1 (by decide) rfl rfl (by decide) (fun h_4 => ?_)
  refine j_iload_n C dX10_over_7 rfl ?_
  refine j_callVI C (As := [.int v1]) dX10_over_8 (CX9_has l M hD (rf (rf v0 2) 1) h_4 v1 σ) vv_RX10_103 h_4 (by decide) rfl rfl ⟨rfl, rfl⟩ (by decide) (Nat.le_of_ble_eq_true rfl) ⟨Nat.zero_le _, Nat.zero_le _⟩ (fun r_8 s_8 => ?_)
  refine j_if_eq C (tgt := 28) dX10_over_11 (by decide) ?_ ?_
  · refine j_aload_n C dX10_over_28 rfl ?_
    refine j_ldc C dX10_over_29 lc_RX10_50 ?_
    refine j_callVI C (As := [.int ((-100001 : Int32))]) dX10_over_31 (CX10_finding l M hD v0 h0 (-100001 : Int32) s_8) vv_RX10_51 h0 (by decide) rfl rfl ⟨rfl, rfl⟩ (by decide) (Nat.le_of_ble_eq_true rfl) ⟨Nat.zero_le _, Nat.zero_le _⟩ (fun r_31 s_31 => ?_)
    exact j_iret C dX10_over_34
  · refine j_aload_n C dX10_over_14 rfl ?_
    refine j_getR C dX10_over_15 fl_RX10_27 h0 (by decide) rfl rfl (by decide) (fun h_15 => ?_)
    refine j_getR C dX10_over_18 fl_RX10_91 h_15 (by decide) rfl rfl (by decide) (fun h_18 => ?_)
    refine j_iload_n C dX10_over_21 rfl ?_
    refine j_callVI C (As := [.int v2]) dX10_over_22 (CX9_has l M hD (rf (rf v0 2) 1) h_18 v2 s_8) vv_RX10_103 h_18 (by decide) rfl rfl ⟨rfl, rfl⟩ (by decide) (Nat.le_of_ble_eq_true rfl) ⟨Nat.zero_le _, Nat.zero_le _⟩ (fun r_22 s_22 => ?_)
    refine j_if_ne C (tgt := 35) dX10_over_25 (by decide) ?_ ?_
    · refine j_aload_n C dX10_over_35 rfl ?_
      refine j_getR C dX10_over_36 fl_RX10_27 h0 (by decide) rfl rfl (by decide) (fun h_36 => ?_)
      refine j_getR C dX10_over_39 fl_RX10_91 h_36 (by decide) rfl rfl (by decide) (fun h_39 => ?_)
      refine j_iload_n C dX10_over_42 rfl ?_
      refine j_iload_n C dX10_over_43 rfl ?_
      refine j_callVI C (As := [.int v1, .int v2]) dX10_over_44 (CX9_areContrary l M hD (rf (rf v0 2) 1) h_39 v1 v2 s_22) vv_RX10_125 h_39 (by decide) rfl rfl ⟨rfl, rfl⟩ (by decide) (Nat.le_of_ble_eq_true rfl) ⟨Nat.zero_le _, Nat.zero_le _⟩ (fun r_44 s_44 => ?_)
      refine j_if_ne C (tgt := 57) dX10_over_47 (by decide) ?_ ?_
      · refine j_aload_n C dX10_over_57 rfl ?_
        refine j_getR C dX10_over_58 fl_RX10_27 h0 (by decide) rfl rfl (by decide) (fun h_58 => ?_)
        refine j_getR C dX10_over_61 fl_RX10_91 h_58 (by decide) rfl rfl (by decide) (fun h_61 => ?_)
        refine j_astore_n C (Ls' := [(3, .ref (adr M (rf (rf v0 2) 1))), (0, .ref (adr M v0)), (1, .int v1), (2, .int v2)]) dX10_over_64 (by decide) rfl ?_
        refine j_aload_n C dX10_over_65 rfl ?_
        refine j_iload_n C dX10_over_66 rfl ?_
        refine j_aload_n C dX10_over_67 rfl ?_
        refine j_iload_n C dX10_over_68 rfl ?_
        refine j_callVI C (As := [.int v1]) dX10_over_69 (CX9_wayOf l M hD (rf (rf v0 2) 1) h_61 v1 s_44) vv_RX10_128 h_61 (by decide) rfl rfl ⟨rfl, rfl⟩ (by decide) (Nat.le_of_ble_eq_true rfl) ⟨Nat.zero_le _, Nat.zero_le _⟩ (fun r_69 s_69 => ?_)
        refine j_callVI C (As := [.int v1, .int r_69]) dX10_over_72 (CX9_strength l M hD (rf (rf v0 2) 1) h_61 v1 r_69 s_69) vv_RX10_131 h_61 (by decide) rfl rfl ⟨rfl, rfl⟩ (by decide) (Nat.le_of_ble_eq_true rfl) ⟨Nat.zero_le _, Nat.zero_le _⟩ (fun r_72 s_72 => ?_)
        refine j_istore C (Ls' := fun v4_75 => [(4, .int v4_75), (3, .ref (adr M (rf (rf v0 2) 1))), (0, .ref (adr M v0)), (1, .int v1), (2, .int v2)]) dX10_over_75 (by decide) (fun _ => rfl) (fun v4_75 => ?_)
        refine j_iload C dX10_over_77 rfl ?_
        refine j_aload_n C dX10_over_79 rfl ?_
        refine j_iload_n C dX10_over_80 rfl ?_
        refine j_aload_n C dX10_over_81 rfl ?_
        refine j_iload_n C dX10_over_82 rfl ?_
        refine j_callVI C (As := [.int v2]) dX10_over_83 (CX9_wayOf l M hD (rf (rf v0 2) 1) h_61 v2 s_72) vv_RX10_128 h_61 (by decide) rfl rfl ⟨rfl, rfl⟩ (by decide) (Nat.le_of_ble_eq_true rfl) ⟨Nat.zero_le _, Nat.zero_le _⟩ (fun r_83 s_83 => ?_)
        refine j_callVI C (As := [.int v2, .int r_83]) dX10_over_86 (CX9_strength l M hD (rf (rf v0 2) 1) h_61 v2 r_83 s_83) vv_RX10_131 h_61 (by decide) rfl rfl ⟨rfl, rfl⟩ (by decide) (Nat.le_of_ble_eq_true rfl) ⟨Nat.zero_le _, Nat.zero_le _⟩ (fun r_86 s_86 => ?_)
        refine j_icmp_le C (tgt := 96) dX10_over_89 (by decide) ?_ ?_
        · refine j_iconst C (v := (0 : Int32)) dX10_over_96 (by decide) ?_
          exact j_iret C dX10_over_97
        · refine j_iconst C (v := (1 : Int32)) dX10_over_92 (by decide) ?_
          refine j_goto C (tgt := 97) dX10_over_93 (by decide) ?_
          exact j_iret C dX10_over_97
      · refine j_aload_n C dX10_over_50 rfl ?_
        refine j_ldc C dX10_over_51 lc_RX10_90 ?_
        refine j_callVI C (As := [.int ((-100003 : Int32))]) dX10_over_53 (CX10_finding l M hD v0 h0 (-100003 : Int32) s_44) vv_RX10_51 h0 (by decide) rfl rfl ⟨rfl, rfl⟩ (by decide) (Nat.le_of_ble_eq_true rfl) ⟨Nat.zero_le _, Nat.zero_le _⟩ (fun r_53 s_53 => ?_)
        exact j_iret C dX10_over_56
    · refine j_aload_n C dX10_over_28 rfl ?_
      refine j_ldc C dX10_over_29 lc_RX10_50 ?_
      refine j_callVI C (As := [.int ((-100001 : Int32))]) dX10_over_31 (CX10_finding l M hD v0 h0 (-100001 : Int32) s_22) vv_RX10_51 h0 (by decide) rfl rfl ⟨rfl, rfl⟩ (by decide) (Nat.le_of_ble_eq_true rfl) ⟨Nat.zero_le _, Nat.zero_le _⟩ (fun r_31 s_31 => ?_)
      exact j_iret C dX10_over_34
set_option maxRecDepth 20000 in
set_option maxHeartbeats 4000000 in
theorem CX10_refusalOfMeet (l : Launch) (M : Mc) (hD : Dj M) (v0 : Nat) (h0 : isK v0 10) (v1 : Int32) (v2 : Int32) (v3 : Int32) (σ : Sg) : Ct l M yX10_refusalOfMeet cX10_refusalOfMeet 4 (some .int) { frames := 2, cells := 0, slots := 0, locals := 43 } vI [.ref (adr M v0), .int v1, .int v2, .int v3] σ (fX10_refusalOfMeet v0 v1 v2 v3 σ) := by
  refine ct_of (l := l) hD (by decide) (Nat.le_of_ble_eq_true rfl) ?_
  intro p e s m args below meth c C
  unfold fX10_refusalOfMeet
  refine j_aload_n C dX10_refusalOfMeet_0 rfl ?_
  refine j_getR C dX10_refusalOfMeet_1 fl_RX10_27 h0 (by decide) rfl rfl (by decide) (fun h_1 => ?_)
  refine j_getR C dX10_refusalOfMeet_4 fl_RX10_91 h_1 (by decide) rfl rfl (by decide) (fun h_4 => ?_)
  refine j_iload_n C dX10_refusalOfMeet_7 rfl ?_
  refine j_callVI C (As := [.int v1]) dX10_refusalOfMeet_8 (CX9_has l M hD (rf (rf v0 2) 1) h_4 v1 σ) vv_RX10_103 h_4 (by decide) rfl rfl ⟨rfl, rfl⟩ (by decide) (Nat.le_of_ble_eq_true rfl) ⟨Nat.zero_le _, Nat.zero_le _⟩ (fun r_8 s_8 => ?_)
  refine j_if_eq C (tgt := 42) dX10_refusalOfMeet_11 (by decide) ?_ ?_
  · refine j_ldc C dX10_refusalOfMeet_42 lc_RX10_50 ?_
    exact j_iret C dX10_refusalOfMeet_44
  · refine j_aload_n C dX10_refusalOfMeet_14 rfl ?_
    refine j_getR C dX10_refusalOfMeet_15 fl_RX10_27 h0 (by decide) rfl rfl (by decide) (fun h_15 => ?_)
    refine j_getR C dX10_refusalOfMeet_18 fl_RX10_91 h_15 (by decide) rfl rfl (by decide) (fun h_18 => ?_)
    refine j_iload_n C dX10_refusalOfMeet_21 rfl ?_
    refine j_callVI C (As := [.int v2]) dX10_refusalOfMeet_22 (CX9_has l M hD (rf (rf v0 2) 1) h_18 v2 s_8) vv_RX10_103 h_18 (by decide) rfl rfl ⟨rfl, rfl⟩ (by decide) (Nat.le_of_ble_eq_true rfl) ⟨Nat.zero_le _, Nat.zero_le _⟩ (fun r_22 s_22 => ?_)
    refine j_if_eq C (tgt := 42) dX10_refusalOfMeet_25 (by decide) ?_ ?_
    · refine j_ldc C dX10_refusalOfMeet_42 lc_RX10_50 ?_
      exact j_iret C dX10_refusalOfMeet_44
    · refine j_aload_n C dX10_refusalOfMeet_28 rfl ?_
      refine j_getR C dX10_refusalOfMeet_29 fl_RX10_27 h0 (by decide) rfl rfl (by decide) (fun h_29 => ?_)
      refine j_getR C dX10_refusalOfMeet_32 fl_RX10_65 h_29 (by decide) rfl rfl (by decide) (fun h_32 => ?_)
      refine j_iload_n C dX10_refusalOfMeet_35 rfl ?_
      refine j_callVI C (As := [.int v3]) dX10_refusalOfMeet_36 (CX8_hasStation l M hD (rf (rf v0 2) 0) h_32 v3 s_22) vv_RX10_74 h_32 (by decide) rfl rfl ⟨rfl, rfl⟩ (by decide) (Nat.le_of_ble_eq_true rfl) ⟨Nat.zero_le _, Nat.zero_le _⟩ (fun r_36 s_36 => ?_)
      refine j_if_ne C (tgt := 45) dX10_refusalOfMeet_39 (by decide) ?_ ?_
      · refine j_aload_n C dX10_refusalOfMeet_45 rfl ?_
        refine j_getR C dX10_refusalOfMeet_46 fl_RX10_27 h0 (by decide) rfl rfl (by decide) (fun h_46 => ?_)
        refine j_getR C dX10_refusalOfMeet_49 fl_RX10_91 h_46 (by decide) rfl rfl (by decide) (fun h_49 => ?_)
        refine j_iload_n C dX10_refusalOfMeet_52 rfl ?_
        refine j_iload_n C dX10_refusalOfMeet_53 rfl ?_
        refine j_callVI C (As := [.int v1, .int v2]) dX10_refusalOfMeet_54 (CX9_areContrary l M hD (rf (rf v0 2) 1) h_49 v1 v2 s_36) vv_RX10_125 h_49 (by decide) rfl rfl ⟨rfl, rfl⟩ (by decide) (Nat.le_of_ble_eq_true rfl) ⟨Nat.zero_le _, Nat.zero_le _⟩ (fun r_54 s_54 => ?_)
        refine j_if_eq C (tgt := 64) dX10_refusalOfMeet_57 (by decide) ?_ ?_
        · refine j_ldc C dX10_refusalOfMeet_64 lc_RX10_90 ?_
          exact j_iret C dX10_refusalOfMeet_66
        · refine j_iconst C (v := (0 : Int32)) dX10_refusalOfMeet_60 (by decide) ?_
          refine j_goto C (tgt := 66) dX10_refusalOfMeet_61 (by decide) ?_
          exact j_iret C dX10_refusalOfMeet_66
      · refine j_ldc C dX10_refusalOfMeet_42 lc_RX10_50 ?_
        exact j_iret C dX10_refusalOfMeet_44
set_option maxRecDepth 20000 in
set_option maxHeartbeats 4000000 in
theorem CX5_add (l : Launch) (M : Mc) (hD : Dj M) (v0 : Nat) (h0 : isK v0 5) (v1 : Int32) (v2 : Int32) (v3 : Int32) (v4 : Int32) (v5 : Int32) (σ : Sg) : Ct l M yX5_add cX5_add 8 (some .int) { frames := 0, cells := 0, slots := 0, locals := 0 } vI [.ref (adr M v0), .int v1, .int v2, .int v3, .int v4, .int v5] σ (fX5_add v0 v1 v2 v3 v4 v5 σ) := by
  refine ct_of (l := l) hD (by decide) (Nat.le_of_ble_eq_true rfl) ?_
  intro p e s m args below meth c C
  have H51 : ∀ (v6 : Int32) (n : Nat) (v7 : Int32) (τ : Sg), J p l e { frames := 0, cells := 0, slots := 0, locals := 0 } s m args below meth c M 8 vI τ 51 [(0, .ref (adr M v0)), (6, .int v6), (7, .int v7)] [] (lq1 (fX5_add_51 v0 v6) n v7 τ) := by
    intro v6
    refine j_lq1 (Ls := fun v7 => [(0, .ref (adr M v0)), (6, .int v6), (7, .int v7)]) (st := fun _ => []) ?_
    intro k51 hk51 v7 σ
    unfold fX5_add_51
    refine j_iload C dX5_add_51 rfl ?_
    refine j_iconst C (v := (5 : Int32)) dX5_add_53 (by decide) ?_
    refine j_icmp_ge C (tgt := 76) dX5_add_54 (by decide) ?_ ?_
    · refine j_aload_n C dX5_add_76 rfl ?_
      refine j_dup C dX5_add_77 rfl ?_
      refine j_getI C dX5_add_78 fl_RX5_9 h0 (by decide) rfl ?_
      refine j_iconst C (v := (1 : Int32)) dX5_add_81 (by decide) ?_
      refine j_iadd C dX5_add_82 ?_
      refine j_put C dX5_add_83 fl_RX5_9 fs_5_0 h0 (by decide) rfl rfl rfl (fun s_83 => ?_)
      refine j_iload C dX5_add_86 rfl ?_
      exact j_iret C dX5_add_88
    · refine j_aload_n C dX5_add_57 rfl ?_
      refine j_getR C dX5_add_58 fl_RX5_31 h0 (by decide) rfl rfl (by decide) (fun h_58 => ?_)
      refine j_iload C dX5_add_61 rfl ?_
      refine j_iconst C (v := (5 : Int32)) dX5_add_63 (by decide) ?_
      refine j_imul C dX5_add_64 ?_
      refine j_iload C dX5_add_65 rfl ?_
      refine j_iadd C dX5_add_67 ?_
      refine j_iconst C (v := (-1 : Int32)) dX5_add_68 (by decide) ?_
      refine j_iast C dX5_add_69 h_58 (fun s_69 => ?_)
      refine j_iinc C (v := (1 : Int32)) (Ls' := fun v7_70 => [(7, .int v7_70), (0, .ref (adr M v0)), (6, .int v6)]) dX5_add_70 2 rfl (by decide) (by decide) (fun _ => rfl) (fun v7_70 => ?_)
      refine j_goto C (tgt := 51) dX5_add_73 (by decide) ?_
      refine j_sub (Ls' := [(0, .ref (adr M v0)), (6, .int v6), (7, .int v7_70)]) [1, 2, 0] rfl ?_
      exact hk51 v7_70 s_69
  unfold fX5_add
  refine j_aload_n C dX5_add_0 rfl ?_
  refine j_getI C dX5_add_1 fl_RX5_9 h0 (by decide) rfl ?_
  refine j_istore C (Ls' := fun v6_4 => [(6, .int v6_4), (0, .ref (adr M v0)), (1, .int v1), (2, .int v2), (3, .int v3), (4, .int v4), (5, .int v5)]) dX5_add_4 (by decide) (fun _ => rfl) (fun v6_4 => ?_)
  refine j_aload_n C dX5_add_6 rfl ?_
  refine j_getR C dX5_add_7 fl_RX5_15 h0 (by decide) rfl rfl (by decide) (fun h_7 => ?_)
  refine j_iload C dX5_add_10 rfl ?_
  refine j_iload_n C dX5_add_12 rfl ?_
  refine j_iast C dX5_add_13 h_7 (fun s_13 => ?_)
  refine j_aload_n C dX5_add_14 rfl ?_
  refine j_getR C dX5_add_15 fl_RX5_19 h0 (by decide) rfl rfl (by decide) (fun h_15 => ?_)
  refine j_iload C dX5_add_18 rfl ?_
  refine j_iload_n C dX5_add_20 rfl ?_
  refine j_iast C dX5_add_21 h_15 (fun s_21 => ?_)
  refine j_aload_n C dX5_add_22 rfl ?_
  refine j_getR C dX5_add_23 fl_RX5_22 h0 (by decide) rfl rfl (by decide) (fun h_23 => ?_)
  refine j_iload C dX5_add_26 rfl ?_
  refine j_iload_n C dX5_add_28 rfl ?_
  refine j_iast C dX5_add_29 h_23 (fun s_29 => ?_)
  refine j_aload_n C dX5_add_30 rfl ?_
  refine j_getR C dX5_add_31 fl_RX5_25 h0 (by decide) rfl rfl (by decide) (fun h_31 => ?_)
  refine j_iload C dX5_add_34 rfl ?_
  refine j_iload C dX5_add_36 rfl ?_
  refine j_iast C dX5_add_38 h_31 (fun s_38 => ?_)
  refine j_aload_n C dX5_add_39 rfl ?_
  refine j_getR C dX5_add_40 fl_RX5_28 h0 (by decide) rfl rfl (by decide) (fun h_40 => ?_)
  refine j_iload C dX5_add_43 rfl ?_
  refine j_iload C dX5_add_45 rfl ?_
  refine j_iast C dX5_add_47 h_40 (fun s_47 => ?_)
  refine j_iconst C (v := (0 : Int32)) dX5_add_48 (by decide) ?_
  refine j_istore C (Ls' := fun v7_49 => [(7, .int v7_49), (6, .int v6_4), (0, .ref (adr M v0)), (1, .int v1), (2, .int v2), (3, .int v3), (4, .int v4), (5, .int v5)]) dX5_add_49 (by decide) (fun _ => rfl) (fun v7_49 => ?_)
  refine j_sub (Ls' := [(0, .ref (adr M v0)), (6, .int v6_4), (7, .int v7_49)]) [2, 1, 0] rfl ?_
  exact H51 v6_4 FU v7_49 s_47
set_option maxRecDepth 20000 in
set_option maxHeartbeats 4000000 in
theorem CX10_write (l : Launch) (M : Mc) (hD : Dj M) (v0 : Nat) (h0 : isK v0 10) (v1 : Int32) (v2 : Int32) (v3 : Int32) (v4 : Int32) (v5 : Int32) (σ : Sg) : Ct l M yX10_write cX10_write 6 (some .int) { frames := 5, cells := 0, slots := 0, locals := 131 } vI [.ref (adr M v0), .int v1, .int v2, .int v3, .int v4, .int v5] σ (fX10_write v0 v1 v2 v3 v4 v5 σ) := by
  refine ct_of (l := l) hD (by decide) (Nat.le_of_ble_eq_true rfl) ?_
  intro p e s m args below meth c C
  unfold fX10_write
  refine j_aload_n C dX10_write_0 rfl ?_
  refine j_getR C dX10_write_1 fl_RX10_27 h0 (by decide) rfl rfl (by decide) (fun h_1 => ?_)
  refine j_getR C dX10_write_4 fl_RX10_141 h_1 (by decide) rfl rfl (by decide) (fun h_4 => ?_)
  refine j_getI C dX10_write_7 fl_RX10_276 h_4 (by decide) rfl ?_
  refine j_bipush C (v := (12 : Int32)) dX10_write_10 (by decide) ?_
  refine j_icmp_lt C (tgt := 22) dX10_write_12 (by decide) ?_ ?_
  · refine j_aload_n C dX10_write_22 rfl ?_
    refine j_callVv C (As := []) dX10_write_23 (CX10_keepForUndo l M hD v0 h0 σ) vv_RX10_62 h0 (by decide) rfl rfl ⟨rfl, rfl⟩ (by decide) (Nat.le_of_ble_eq_true rfl) ⟨Nat.zero_le _, Nat.zero_le _⟩ (fun r_23 s_23 => ?_)
    refine j_aload_n C dX10_write_26 rfl ?_
    refine j_getR C dX10_write_27 fl_RX10_27 h0 (by decide) rfl rfl (by decide) (fun h_27 => ?_)
    refine j_getR C dX10_write_30 fl_RX10_141 h_27 (by decide) rfl rfl (by decide) (fun h_30 => ?_)
    refine j_iload_n C dX10_write_33 rfl ?_
    refine j_iload_n C dX10_write_34 rfl ?_
    refine j_iload_n C dX10_write_35 rfl ?_
    refine j_iload C dX10_write_36 rfl ?_
    refine j_iload C dX10_write_38 rfl ?_
    refine j_callVI C (As := [.int v1, .int v2, .int v3, .int v4, .int v5]) dX10_write_40 (CX5_add l M hD (rf (rf v0 2) 2) h_30 v1 v2 v3 v4 v5 s_23) vv_RX10_277 h_30 (by decide) rfl rfl ⟨rfl, rfl⟩ (by decide) (Nat.le_of_ble_eq_true rfl) ⟨Nat.zero_le _, Nat.zero_le _⟩ (fun r_40 s_40 => ?_)
    exact j_iret C dX10_write_43
  · refine j_aload_n C dX10_write_15 rfl ?_
    refine j_ldc C dX10_write_16 lc_RX10_98 ?_
    refine j_callVI C (As := [.int ((-100005 : Int32))]) dX10_write_18 (CX10_finding l M hD v0 h0 (-100005 : Int32) σ) vv_RX10_51 h0 (by decide) rfl rfl ⟨rfl, rfl⟩ (by decide) (Nat.le_of_ble_eq_true rfl) ⟨Nat.zero_le _, Nat.zero_le _⟩ (fun r_18 s_18 => ?_)
    exact j_iret C dX10_write_21
set_option maxRecDepth 20000 in
set_option maxHeartbeats 4000000 in
theorem CX10_meet (l : Launch) (M : Mc) (hD : Dj M) (v0 : Nat) (h0 : isK v0 10) (v1 : Int32) (v2 : Int32) (v3 : Int32) (σ : Sg) : Ct l M yX10_meet cX10_meet 5 (some .int) { frames := 6, cells := 0, slots := 0, locals := 156 } vI [.ref (adr M v0), .int v1, .int v2, .int v3] σ (fX10_meet v0 v1 v2 v3 σ) := by
  refine ct_of (l := l) hD (by decide) (Nat.le_of_ble_eq_true rfl) ?_
  intro p e s m args below meth c C
  unfold fX10_meet
  refine j_aload_n C dX10_meet_0 rfl ?_
  refine j_iload_n C dX10_meet_1 rfl ?_
  refine j_iload_n C dX10_meet_2 rfl ?_
  refine j_iload_n C dX10_meet_3 rfl ?_
  refine j_callVI C (As := [.int v1, .int v2, .int v3]) dX10_meet_4 (CX10_refusalOfMeet l M hD v0 h0 v1 v2 v3 σ) vv_RX10_134 h0 (by decide) rfl rfl ⟨rfl, rfl⟩ (by decide) (Nat.le_of_ble_eq_true rfl) ⟨Nat.zero_le _, Nat.zero_le _⟩ (fun r_4 s_4 => ?_)
  refine j_istore C (Ls' := fun v4_7 => [(4, .int v4_7), (0, .ref (adr M v0)), (1, .int v1), (2, .int v2), (3, .int v3)]) dX10_meet_7 (by decide) (fun _ => rfl) (fun v4_7 => ?_)
  refine j_iload C dX10_meet_9 rfl ?_
  refine j_if_eq C (tgt := 21) dX10_meet_11 (by decide) ?_ ?_
  · refine j_aload_n C dX10_meet_21 rfl ?_
    refine j_iconst C (v := (0 : Int32)) dX10_meet_22 (by decide) ?_
    refine j_iload_n C dX10_meet_23 rfl ?_
    refine j_iload_n C dX10_meet_24 rfl ?_
    refine j_iload_n C dX10_meet_25 rfl ?_
    refine j_iconst C (v := (0 : Int32)) dX10_meet_26 (by decide) ?_
    refine j_callVI C (As := [.int ((0 : Int32)), .int v1, .int v2, .int v3, .int ((0 : Int32))]) dX10_meet_27 (CX10_write l M hD v0 h0 (0 : Int32) v1 v2 v3 (0 : Int32) s_4) vv_RX10_138 h0 (by decide) rfl rfl ⟨rfl, rfl⟩ (by decide) (Nat.le_of_ble_eq_true rfl) ⟨Nat.zero_le _, Nat.zero_le _⟩ (fun r_27 s_27 => ?_)
    exact j_iret C dX10_meet_30
  · refine j_aload_n C dX10_meet_14 rfl ?_
    refine j_iload C dX10_meet_15 rfl ?_
    refine j_callVI C (As := [.int v4_7]) dX10_meet_17 (CX10_finding l M hD v0 h0 v4_7 s_4) vv_RX10_51 h0 (by decide) rfl rfl ⟨rfl, rfl⟩ (by decide) (Nat.le_of_ble_eq_true rfl) ⟨Nat.zero_le _, Nat.zero_le _⟩ (fun r_17 s_17 => ?_)
    exact j_iret C dX10_meet_20
set_option maxRecDepth 20000 in
set_option maxHeartbeats 4000000 in
theorem CX10_late (l : Launch) (M : Mc) (hD : Dj M) (v0 : Nat) (h0 : isK v0 10) (v1 : Int32) (v2 : Int32) (σ : Sg) : Ct l M yX10_late cX10_late 3 (some .int) { frames := 6, cells := 0, slots := 0, locals := 156 } vI [.ref (adr M v0), .int v1, .int v2] σ (fX10_late v0 v1 v2 σ) := by
  refine ct_of (l := l) hD (by decide) (Nat.le_of_ble_eq_true rfl) ?_
  intro p e s m args below meth c C
  unfold fX10_late
  refine j_aload_n C dX10_late_0 rfl ?_
  refine j_getR C dX10_late_1 fl_RX10_27 h0 (by decide) rfl rfl (by decide) (fun h_1 => ?_)
  refine j_getR C dX10_late_4 fl_RX10_91 h_1 (by decide) rfl rfl (by decide) (fun h_4 => ?_)
  refine j_iload_n C dX10_late_7 rfl ?_
  refine j_callVI C (As := [.int v1]) dX10_late_8 (CX9_has l M hD (rf (rf v0 2) 1) h_4 v1 σ) vv_RX10_103 h_4 (by decide) rfl rfl ⟨rfl, rfl⟩ (by decide) (Nat.le_of_ble_eq_true rfl) ⟨Nat.zero_le _, Nat.zero_le _⟩ (fun r_8 s_8 => ?_)
  refine j_if_eq C (tgt := 24) dX10_late_11 (by decide) ?_ ?_
  · refine j_aload_n C dX10_late_24 rfl ?_
    refine j_ldc C dX10_late_25 lc_RX10_50 ?_
    refine j_callVI C (As := [.int ((-100001 : Int32))]) dX10_late_27 (CX10_finding l M hD v0 h0 (-100001 : Int32) s_8) vv_RX10_51 h0 (by decide) rfl rfl ⟨rfl, rfl⟩ (by decide) (Nat.le_of_ble_eq_true rfl) ⟨Nat.zero_le _, Nat.zero_le _⟩ (fun r_27 s_27 => ?_)
    exact j_iret C dX10_late_30
  · refine j_iload_n C dX10_late_14 rfl ?_
    refine j_iconst C (v := (1 : Int32)) dX10_late_15 (by decide) ?_
    refine j_bipush C (v := (120 : Int32)) dX10_late_16 (by decide) ?_
    refine j_callSI C (As := [.int v2, .int ((1 : Int32)), .int ((120 : Int32))]) dX10_late_18 (CX10_isWithin l M hD v2 (1 : Int32) (120 : Int32) s_8) vs_RX10_46 rfl rfl ⟨rfl, rfl⟩ (by decide) (Nat.le_of_ble_eq_true rfl) ⟨Nat.zero_le _, Nat.zero_le _⟩ (fun r_18 s_18 => ?_)
    refine j_if_ne C (tgt := 31) dX10_late_21 (by decide) ?_ ?_
    · refine j_aload_n C dX10_late_31 rfl ?_
      refine j_iconst C (v := (1 : Int32)) dX10_late_32 (by decide) ?_
      refine j_iload_n C dX10_late_33 rfl ?_
      refine j_iconst C (v := (-1 : Int32)) dX10_late_34 (by decide) ?_
      refine j_iconst C (v := (-1 : Int32)) dX10_late_35 (by decide) ?_
      refine j_iload_n C dX10_late_36 rfl ?_
      refine j_callVI C (As := [.int ((1 : Int32)), .int v1, .int ((-1 : Int32)), .int ((-1 : Int32)), .int v2]) dX10_late_37 (CX10_write l M hD v0 h0 (1 : Int32) v1 (-1 : Int32) (-1 : Int32) v2 s_18) vv_RX10_138 h0 (by decide) rfl rfl ⟨rfl, rfl⟩ (by decide) (Nat.le_of_ble_eq_true rfl) ⟨Nat.zero_le _, Nat.zero_le _⟩ (fun r_37 s_37 => ?_)
      exact j_iret C dX10_late_40
    · refine j_aload_n C dX10_late_24 rfl ?_
      refine j_ldc C dX10_late_25 lc_RX10_50 ?_
      refine j_callVI C (As := [.int ((-100001 : Int32))]) dX10_late_27 (CX10_finding l M hD v0 h0 (-100001 : Int32) s_18) vv_RX10_51 h0 (by decide) rfl rfl ⟨rfl, rfl⟩ (by decide) (Nat.le_of_ble_eq_true rfl) ⟨Nat.zero_le _, Nat.zero_le _⟩ (fun r_27 s_27 => ?_)
      exact j_iret C dX10_late_30
set_option maxRecDepth 20000 in
set_option maxHeartbeats 4000000 in
theorem CX10_wait (l : Launch) (M : Mc) (hD : Dj M) (v0 : Nat) (h0 : isK v0 10) (v1 : Int32) (v2 : Int32) (v3 : Int32) (σ : Sg) : Ct l M yX10_wait cX10_wait 4 (some .int) { frames := 6, cells := 0, slots := 0, locals := 156 } vI [.ref (adr M v0), .int v1, .int v2, .int v3] σ (fX10_wait v0 v1 v2 v3 σ) := by
  refine ct_of (l := l) hD (by decide) (Nat.le_of_ble_eq_true rfl) ?_
  intro p e s m args below meth c C
  unfold fX10_wait
  refine j_aload_n C dX10_wait_0 rfl ?_
  refine j_getR C dX10_wait_1 fl_RX10_27 h0 (by decide) rfl rfl (by decide) (fun h_1 => ?_)
  refine j_getR C dX10_wait_4 fl_RX10_91 h_1 (by decide) rfl rfl (by decide) (fun h_4 => ?_)
  refine j_iload_n C dX10_wait_7 rfl ?_
  refine j_callVI C (As := [.int v1]) dX10_wait_8 (CX9_has l M hD (rf (rf v0 2) 1) h_4 v1 σ) vv_RX10_103 h_4 (by decide) rfl rfl ⟨rfl, rfl⟩ (by decide) (Nat.le_of_ble_eq_true rfl) ⟨Nat.zero_le _, Nat.zero_le _⟩ (fun r_8 s_8 => ?_)
  refine j_if_eq C (tgt := 39) dX10_wait_11 (by decide) ?_ ?_
  · refine j_aload_n C dX10_wait_39 rfl ?_
    refine j_ldc C dX10_wait_40 lc_RX10_50 ?_
    refine j_callVI C (As := [.int ((-100001 : Int32))]) dX10_wait_42 (CX10_finding l M hD v0 h0 (-100001 : Int32) s_8) vv_RX10_51 h0 (by decide) rfl rfl ⟨rfl, rfl⟩ (by decide) (Nat.le_of_ble_eq_true rfl) ⟨Nat.zero_le _, Nat.zero_le _⟩ (fun r_42 s_42 => ?_)
    exact j_iret C dX10_wait_45
  · refine j_aload_n C dX10_wait_14 rfl ?_
    refine j_getR C dX10_wait_15 fl_RX10_27 h0 (by decide) rfl rfl (by decide) (fun h_15 => ?_)
    refine j_getR C dX10_wait_18 fl_RX10_65 h_15 (by decide) rfl rfl (by decide) (fun h_18 => ?_)
    refine j_iload_n C dX10_wait_21 rfl ?_
    refine j_callVI C (As := [.int v2]) dX10_wait_22 (CX8_hasStation l M hD (rf (rf v0 2) 0) h_18 v2 s_8) vv_RX10_74 h_18 (by decide) rfl rfl ⟨rfl, rfl⟩ (by decide) (Nat.le_of_ble_eq_true rfl) ⟨Nat.zero_le _, Nat.zero_le _⟩ (fun r_22 s_22 => ?_)
    refine j_if_eq C (tgt := 39) dX10_wait_25 (by decide) ?_ ?_
    · refine j_aload_n C dX10_wait_39 rfl ?_
      refine j_ldc C dX10_wait_40 lc_RX10_50 ?_
      refine j_callVI C (As := [.int ((-100001 : Int32))]) dX10_wait_42 (CX10_finding l M hD v0 h0 (-100001 : Int32) s_22) vv_RX10_51 h0 (by decide) rfl rfl ⟨rfl, rfl⟩ (by decide) (Nat.le_of_ble_eq_true rfl) ⟨Nat.zero_le _, Nat.zero_le _⟩ (fun r_42 s_42 => ?_)
      exact j_iret C dX10_wait_45
    · refine j_iload_n C dX10_wait_28 rfl ?_
      refine j_iconst C (v := (0 : Int32)) dX10_wait_29 (by decide) ?_
      refine j_sipush C (v := (400 : Int32)) dX10_wait_30 (by decide) ?_
      refine j_callSI C (As := [.int v3, .int ((0 : Int32)), .int ((400 : Int32))]) dX10_wait_33 (CX10_isWithin l M hD v3 (0 : Int32) (400 : Int32) s_22) vs_RX10_46 rfl rfl ⟨rfl, rfl⟩ (by decide) (Nat.le_of_ble_eq_true rfl) ⟨Nat.zero_le _, Nat.zero_le _⟩ (fun r_33 s_33 => ?_)
      refine j_if_ne C (tgt := 46) dX10_wait_36 (by decide) ?_ ?_
      · refine j_aload_n C dX10_wait_46 rfl ?_
        refine j_iconst C (v := (2 : Int32)) dX10_wait_47 (by decide) ?_
        refine j_iload_n C dX10_wait_48 rfl ?_
        refine j_iconst C (v := (-1 : Int32)) dX10_wait_49 (by decide) ?_
        refine j_iload_n C dX10_wait_50 rfl ?_
        refine j_iload_n C dX10_wait_51 rfl ?_
        refine j_callVI C (As := [.int ((2 : Int32)), .int v1, .int ((-1 : Int32)), .int v2, .int v3]) dX10_wait_52 (CX10_write l M hD v0 h0 (2 : Int32) v1 (-1 : Int32) v2 v3 s_33) vv_RX10_138 h0 (by decide) rfl rfl ⟨rfl, rfl⟩ (by decide) (Nat.le_of_ble_eq_true rfl) ⟨Nat.zero_le _, Nat.zero_le _⟩ (fun r_52 s_52 => ?_)
        exact j_iret C dX10_wait_55
      · refine j_aload_n C dX10_wait_39 rfl ?_
        refine j_ldc C dX10_wait_40 lc_RX10_50 ?_
        refine j_callVI C (As := [.int ((-100001 : Int32))]) dX10_wait_42 (CX10_finding l M hD v0 h0 (-100001 : Int32) s_33) vv_RX10_51 h0 (by decide) rfl rfl ⟨rfl, rfl⟩ (by decide) (Nat.le_of_ble_eq_true rfl) ⟨Nat.zero_le _, Nat.zero_le _⟩ (fun r_42 s_42 => ?_)
        exact j_iret C dX10_wait_45
