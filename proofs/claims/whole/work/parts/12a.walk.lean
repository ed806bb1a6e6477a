set_option maxRecDepth 20000 in
set_option maxHeartbeats 4000000 in
theorem CX10_isWithin (l : Launch) (M : Mc) (hD : Dj M) (v0 : Int32) (v1 : Int32) (v2 : Int32) (σ : Sg) : Ct l M yX10_isWithin cX10_isWithin 3 (some .boolean) { frames := 0, cells := 0, slots := 0, locals := 0 } vI [.int v0, .int v1, .int v2] σ (fX10_isWithin v0 v1 v2 σ) := by
  refine ct_of (l := l) hD (by decide) (Nat.le_of_ble_eq_true rfl) ?_
  intro p e s m args below meth c C
  unfold fX10_isWithin
  refine j_iload_n C dX10_isWithin_0 rfl ?_
  refine j_iload_n C dX10_isWithin_1 rfl ?_
  refine j_icmp_lt C (tgt := 14) dX10_isWithin_2 (by decide) ?_ ?_
  · refine j_iconst C (v := (0 : Int32)) dX10_isWithin_14 (by decide) ?_
    exact j_zret C dX10_isWithin_15
  · refine j_iload_n C dX10_isWithin_5 rfl ?_
    refine j_iload_n C dX10_isWithin_6 rfl ?_
    refine j_icmp_gt C (tgt := 14) dX10_isWithin_7 (by decide) ?_ ?_
    · refine j_iconst C (v := (0 : Int32)) dX10_isWithin_14 (by decide) ?_
      exact j_zret C dX10_isWithin_15
    · refine j_iconst C (v := (1 : Int32)) dX10_isWithin_10 (by decide) ?_
      refine j_goto C (tgt := 15) dX10_isWithin_11 (by decide) ?_
      exact j_zret C dX10_isWithin_15
set_option maxRecDepth 20000 in
set_option maxHeartbeats 4000000 in
theorem CX10_finding (l : Launch) (M : Mc) (hD : Dj M) (v0 : Nat) (h0 : isK v0 10) (v1 : Int32) (σ : Sg) : Ct l M yX10_finding cX10_finding 2 (some .int) { frames := 0, cells := 0, slots := 0, locals := 0 } vI [.ref (adr M v0), .int v1] σ (fX10_finding v0 v1 σ) := by
  refine ct_of (l := l) hD (by decide) (Nat.le_of_ble_eq_true rfl) ?_
  intro p e s m args below meth c C
  unfold fX10_finding
  refine j_aload_n C dX10_finding_0 rfl ?_
  refine j_dup C dX10_finding_1 rfl ?_
  refine j_getI C dX10_finding_2 fl_RX10_41 h0 (by decide) rfl ?_
  refine j_iconst C (v := (1 : Int32)) dX10_finding_5 (by decide) ?_
  refine j_iadd C dX10_finding_6 ?_
  refine j_put C dX10_finding_7 fl_RX10_41 fs_10_5 h0 (by decide) rfl rfl rfl (fun s_7 => ?_)
  refine j_iload_n C dX10_finding_10 rfl ?_
  exact j_iret C dX10_finding_11
set_option maxRecDepth 20000 in
set_option maxHeartbeats 4000000 in
theorem CX9_useStationFrom (l : Launch) (M : Mc) (hD : Dj M) (v0 : Nat) (h0 : isK v0 9) (v1 : Int32) (σ : Sg) : Ct l M yX9_useStationFrom cX9_useStationFrom 3 (some .boolean) { frames := 0, cells := 0, slots := 0, locals := 0 } vI [.ref (adr M v0), .int v1] σ (fX9_useStationFrom v0 v1 σ) := by
  refine ct_of (l := l) hD (by decide) (Nat.le_of_ble_eq_true rfl) ?_
  intro p e s m args below meth c C
  have H2 : ∀  (n : Nat) (v2 : Int32) (τ : Sg), J p l e { frames := 0, cells := 0, slots := 0, locals := 0 } s m args below meth c M 3 vI τ 2 [(0, .ref (adr M v0)), (1, .int v1), (2, .int v2)] [] (lq1 (fX9_useStationFrom_2 v0 v1) n v2 τ) := by
    refine j_lq1 (Ls := fun v2 => [(0, .ref (adr M v0)), (1, .int v1), (2, .int v2)]) (st := fun _ => []) ?_
    intro k2 hk2 v2 σ
    unfold fX9_useStationFrom_2
    refine j_iload_n C dX9_useStationFrom_2 rfl ?_
    refine j_aload_n C dX9_useStationFrom_3 rfl ?_
    refine j_getI C dX9_useStationFrom_4 fl_RX9_9 h0 (by decide) rfl ?_
    refine j_icmp_ge C (tgt := 38) dX9_useStationFrom_7 (by decide) ?_ ?_
    · refine j_iconst C (v := (0 : Int32)) dX9_useStationFrom_38 (by decide) ?_
      exact j_zret C dX9_useStationFrom_39
    · refine j_aload_n C dX9_useStationFrom_10 rfl ?_
      refine j_getR C dX9_useStationFrom_11 fl_RX9_19 h0 (by decide) rfl rfl (by decide) (fun h_11 => ?_)
      refine j_iload_n C dX9_useStationFrom_14 rfl ?_
      refine j_iald C dX9_useStationFrom_15 h_11 ?_
      refine j_iload_n C dX9_useStationFrom_16 rfl ?_
      refine j_icmp_ge C (tgt := 30) dX9_useStationFrom_17 (by decide) ?_ ?_
      · refine j_iconst C (v := (1 : Int32)) dX9_useStationFrom_30 (by decide) ?_
        exact j_zret C dX9_useStationFrom_31
      · refine j_aload_n C dX9_useStationFrom_20 rfl ?_
        refine j_getR C dX9_useStationFrom_21 fl_RX9_22 h0 (by decide) rfl rfl (by decide) (fun h_21 => ?_)
        refine j_iload_n C dX9_useStationFrom_24 rfl ?_
        refine j_iald C dX9_useStationFrom_25 h_21 ?_
        refine j_iload_n C dX9_useStationFrom_26 rfl ?_
        refine j_icmp_lt C (tgt := 32) dX9_useStationFrom_27 (by decide) ?_ ?_
        · refine j_iinc C (v := (1 : Int32)) (Ls' := fun v2_32 => [(2, .int v2_32), (0, .ref (adr M v0)), (1, .int v1)]) dX9_useStationFrom_32 2 rfl (by decide) (by decide) (fun _ => rfl) (fun v2_32 => ?_)
          refine j_goto C (tgt := 2) dX9_useStationFrom_35 (by decide) ?_
          refine j_sub (Ls' := [(0, .ref (adr M v0)), (1, .int v1), (2, .int v2_32)]) [1, 2, 0] rfl ?_
          exact hk2 v2_32 σ
        · refine j_iconst C (v := (1 : Int32)) dX9_useStationFrom_30 (by decide) ?_
          exact j_zret C dX9_useStationFrom_31
  unfold fX9_useStationFrom
  refine j_iconst C (v := (0 : Int32)) dX9_useStationFrom_0 (by decide) ?_
  refine j_istore_n C (Ls' := fun v2_1 => [(2, .int v2_1), (0, .ref (adr M v0)), (1, .int v1)]) dX9_useStationFrom_1 (by decide) (fun _ => rfl) (fun v2_1 => ?_)
  refine j_sub (Ls' := [(0, .ref (adr M v0)), (1, .int v1), (2, .int v2_1)]) [1, 2, 0] rfl ?_
  exact H2 FU v2_1 σ
set_option maxRecDepth 20000 in
set_option maxHeartbeats 4000000 in
theorem CX5_useStationFrom (l : Launch) (M : Mc) (hD : Dj M) (v0 : Nat) (h0 : isK v0 5) (v1 : Int32) (σ : Sg) : Ct l M yX5_useStationFrom cX5_useStationFrom 3 (some .boolean) { frames := 0, cells := 0, slots := 0, locals := 0 } vI [.ref (adr M v0), .int v1] σ (fX5_useStationFrom v0 v1 σ) := by
  refine ct_of (l := l) hD (by decide) (Nat.le_of_ble_eq_true rfl) ?_
  intro p e s m args below meth c C
  have H2 : ∀  (n : Nat) (v2 : Int32) (τ : Sg), J p l e { frames := 0, cells := 0, slots := 0, locals := 0 } s m args below meth c M 3 vI τ 2 [(0, .ref (adr M v0)), (1, .int v1), (2, .int v2)] [] (lq1 (fX5_useStationFrom_2 v0 v1) n v2 τ) := by
    refine j_lq1 (Ls := fun v2 => [(0, .ref (adr M v0)), (1, .int v1), (2, .int v2)]) (st := fun _ => []) ?_
    intro k2 hk2 v2 σ
    unfold fX5_useStationFrom_2
    refine j_iload_n C dX5_useStationFrom_2 rfl ?_
    refine j_aload_n C dX5_useStationFrom_3 rfl ?_
    refine j_getI C dX5_useStationFrom_4 fl_RX5_9 h0 (by decide) rfl ?_
    refine j_icmp_ge C (tgt := 28) dX5_useStationFrom_7 (by decide) ?_ ?_
    · refine j_iconst C (v := (0 : Int32)) dX5_useStationFrom_28 (by decide) ?_
      exact j_zret C dX5_useStationFrom_29
    · refine j_aload_n C dX5_useStationFrom_10 rfl ?_
      refine j_getR C dX5_useStationFrom_11 fl_RX5_25 h0 (by decide) rfl rfl (by decide) (fun h_11 => ?_)
      refine j_iload_n C dX5_useStationFrom_14 rfl ?_
      refine j_iald C dX5_useStationFrom_15 h_11 ?_
      refine j_iload_n C dX5_useStationFrom_16 rfl ?_
      refine j_icmp_lt C (tgt := 22) dX5_useStationFrom_17 (by decide) ?_ ?_
      · refine j_iinc C (v := (1 : Int32)) (Ls' := fun v2_22 => [(2, .int v2_22), (0, .ref (adr M v0)), (1, .int v1)]) dX5_useStationFrom_22 2 rfl (by decide) (by decide) (fun _ => rfl) (fun v2_22 => ?_)
        refine j_goto C (tgt := 2) dX5_useStationFrom_25 (by decide) ?_
        refine j_sub (Ls' := [(0, .ref (adr M v0)), (1, .int v1), (2, .int v2_22)]) [1, 2, 0] rfl ?_
        exact hk2 v2_22 σ
      · refine j_iconst C (v := (1 : Int32)) dX5_useStationFrom_20 (by decide) ?_
        exact j_zret C dX5_useStationFrom_21
  unfold fX5_useStationFrom
  refine j_iconst C (v := (0 : Int32)) dX5_useStationFrom_0 (by decide) ?_
  refine j_istore_n C (Ls' := fun v2_1 => [(2, .int v2_1), (0, .ref (adr M v0)), (1, .int v1)]) dX5_useStationFrom_1 (by decide) (fun _ => rfl) (fun v2_1 => ?_)
  refine j_sub (Ls' := [(0, .ref (adr M v0)), (1, .int v1), (2, .int v2_1)]) [1, 2, 0] rfl ?_
  exact H2 FU v2_1 σ
set_option maxRecDepth 20000 in
set_option maxHeartbeats 4000000 in
theorem CX3_needsMoreThan (l : Launch) (M : Mc) (hD : Dj M) (v0 : Nat) (h0 : isK v0 3) (v1 : Int32) (σ : Sg) : Ct l M yX3_needsMoreThan cX3_needsMoreThan 2 (some .boolean) { frames := 1, cells := 0, slots := 0, locals := 22 } vI [.ref (adr M v0), .int v1] σ (fX3_needsMoreThan v0 v1 σ) := by
  refine ct_of (l := l) hD (by decide) (Nat.le_of_ble_eq_true rfl) ?_
  intro p e s m args below meth c C
  unfold fX3_needsMoreThan
  refine j_aload_n C dX3_needsMoreThan_0 rfl ?_
  refine j_getR C dX3_needsMoreThan_1 fl_RX3_21 h0 (by decide) rfl rfl (by decide) (fun h_1 => ?_)
  refine j_iload_n C dX3_needsMoreThan_4 rfl ?_
  refine j_callVI C (As := [.int v1]) dX3_needsMoreThan_5 (CX9_useStationFrom l M hD (rf v0 1) h_1 v1 σ) vv_RX3_43 h_1 (by decide) rfl rfl ⟨rfl, rfl⟩ (by decide) (Nat.le_of_ble_eq_true rfl) ⟨Nat.zero_le _, Nat.zero_le _⟩ (fun r_5 s_5 => ?_)
  refine j_if_ne C (tgt := 22) dX3_needsMoreThan_8 (by decide) ?_ ?_
  · refine j_iconst C (v := (1 : Int32)) dX3_needsMoreThan_22 (by decide) ?_
    refine j_goto C (tgt := 27) dX3_needsMoreThan_23 (by decide) ?_
    exact j_zret C dX3_needsMoreThan_27
  · refine j_aload_n C dX3_needsMoreThan_11 rfl ?_
    refine j_getR C dX3_needsMoreThan_12 fl_RX3_28 h0 (by decide) rfl rfl (by decide) (fun h_12 => ?_)
    refine j_iload_n C dX3_needsMoreThan_15 rfl ?_
    refine j_callVI C (As := [.int v1]) dX3_needsMoreThan_16 (CX5_useStationFrom l M hD (rf v0 2) h_12 v1 s_5) vv_RX3_47 h_12 (by decide) rfl rfl ⟨rfl, rfl⟩ (by decide) (Nat.le_of_ble_eq_true rfl) ⟨Nat.zero_le _, Nat.zero_le _⟩ (fun r_16 s_16 => ?_)
    refine j_if_eq C (tgt := 26) dX3_needsMoreThan_19 (by decide) ?_ ?_
    · refine j_iconst C (v := (0 : Int32)) dX3_needsMoreThan_26 (by decide) ?_
      exact j_zret C dX3_needsMoreThan_27
    · refine j_iconst C (v := (1 : Int32)) dX3_needsMoreThan_22 (by decide) ?_
      refine j_goto C (tgt := 27) dX3_needsMoreThan_23 (by decide) ?_
      exact j_zret C dX3_needsMoreThan_27
set_option maxRecDepth 20000 in
set_option maxHeartbeats 4000000 in
theorem CX8_takeFrom (l : Launch) (M : Mc) (hD : Dj M) (v0 : Nat) (h0 : isK v0 8) (v1 : Nat) (h1 : isK v1 8) (σ : Sg) : Ct l M yX8_takeFrom cX8_takeFrom 2 none { frames := 1, cells := 0, slots := 0, locals := 48 } vV [.ref (adr M v0), .ref (adr M v1)] σ (fX8_takeFrom v0 v1 σ) := by
  refine ct_of (l := l) hD (by decide) (Nat.le_of_ble_eq_true rfl) ?_
  intro p e s m args below meth c C
  unfold fX8_takeFrom
  refine j_aload_n C dX8_takeFrom_0 rfl ?_
  refine j_aload_n C dX8_takeFrom_1 rfl ?_
  refine j_getI C dX8_takeFrom_2 fl_RX8_9 h1 (by decide) rfl ?_
  refine j_put C dX8_takeFrom_5 fl_RX8_9 fs_8_0 h0 (by decide) rfl rfl rfl (fun s_5 => ?_)
  refine j_aload_n C dX8_takeFrom_8 rfl ?_
  refine j_getR C dX8_takeFrom_9 fl_RX8_15 h1 (by decide) rfl rfl (by decide) (fun h_9 => ?_)
  refine j_iconst C (v := (0 : Int32)) dX8_takeFrom_12 (by decide) ?_
  refine j_aload_n C dX8_takeFrom_13 rfl ?_
  refine j_getR C dX8_takeFrom_14 fl_RX8_15 h0 (by decide) rfl rfl (by decide) (fun h_14 => ?_)
  refine j_iconst C (v := (0 : Int32)) dX8_takeFrom_17 (by decide) ?_
  refine j_aload_n C dX8_takeFrom_18 rfl ?_
  refine j_getR C dX8_takeFrom_19 fl_RX8_15 h0 (by decide) rfl rfl (by decide) (fun h_19 => ?_)
  refine j_alen C (t0 := 1) dX8_takeFrom_22 h_19 (by decide) (by decide) rfl ?_
  refine j_copy C dX8_takeFrom_23 lm_RX8_28 h_9 h_14 (by decide) (Nat.le_of_ble_eq_true rfl) lm_copy_1 lm_copy_2 lm_copy_3 (fun s_23 => ?_)
  refine j_aload_n C dX8_takeFrom_26 rfl ?_
  refine j_getR C dX8_takeFrom_27 fl_RX8_19 h1 (by decide) rfl rfl (by decide) (fun h_27 => ?_)
  refine j_iconst C (v := (0 : Int32)) dX8_takeFrom_30 (by decide) ?_
  refine j_aload_n C dX8_takeFrom_31 rfl ?_
  refine j_getR C dX8_takeFrom_32 fl_RX8_19 h0 (by decide) rfl rfl (by decide) (fun h_32 => ?_)
  refine j_iconst C (v := (0 : Int32)) dX8_takeFrom_35 (by decide) ?_
  refine j_aload_n C dX8_takeFrom_36 rfl ?_
  refine j_getR C dX8_takeFrom_37 fl_RX8_19 h0 (by decide) rfl rfl (by decide) (fun h_37 => ?_)
  refine j_alen C (t0 := 1) dX8_takeFrom_40 h_37 (by decide) (by decide) rfl ?_
  refine j_copy C dX8_takeFrom_41 lm_RX8_28 h_27 h_32 (by decide) (Nat.le_of_ble_eq_true rfl) lm_copy_1 lm_copy_2 lm_copy_3 (fun s_41 => ?_)
  exact j_vret C dX8_takeFrom_44
set_option maxRecDepth 20000 in
set_option maxHeartbeats 4000000 in
theorem CX9_takeFrom (l : Launch) (M : Mc) (hD : Dj M) (v0 : Nat) (h0 : isK v0 9) (v1 : Nat) (h1 : isK v1 9) (σ : Sg) : Ct l M yX9_takeFrom cX9_takeFrom 2 none { frames := 1, cells := 0, slots := 0, locals := 48 } vV [.ref (adr M v0), .ref (adr M v1)] σ (fX9_takeFrom v0 v1 σ) := by
  refine ct_of (l := l) hD (by decide) (Nat.le_of_ble_eq_true rfl) ?_
  intro p e s m args below meth c C
  unfold fX9_takeFrom
  refine j_aload_n C dX9_takeFrom_0 rfl ?_
  refine j_aload_n C dX9_takeFrom_1 rfl ?_
  refine j_getI C dX9_takeFrom_2 fl_RX9_9 h1 (by decide) rfl ?_
  refine j_put C dX9_takeFrom_5 fl_RX9_9 fs_9_0 h0 (by decide) rfl rfl rfl (fun s_5 => ?_)
  refine j_aload_n C dX9_takeFrom_8 rfl ?_
  refine j_getR C dX9_takeFrom_9 fl_RX9_15 h1 (by decide) rfl rfl (by decide) (fun h_9 => ?_)
  refine j_iconst C (v := (0 : Int32)) dX9_takeFrom_12 (by decide) ?_
  refine j_aload_n C dX9_takeFrom_13 rfl ?_
  refine j_getR C dX9_takeFrom_14 fl_RX9_15 h0 (by decide) rfl rfl (by decide) (fun h_14 => ?_)
  refine j_iconst C (v := (0 : Int32)) dX9_takeFrom_17 (by decide) ?_
  refine j_aload_n C dX9_takeFrom_18 rfl ?_
  refine j_getR C dX9_takeFrom_19 fl_RX9_15 h0 (by decide) rfl rfl (by decide) (fun h_19 => ?_)
  refine j_alen C (t0 := 1) dX9_takeFrom_22 h_19 (by decide) (by decide) rfl ?_
  refine j_copy C dX9_takeFrom_23 lm_RX9_50 h_9 h_14 (by decide) (Nat.le_of_ble_eq_true rfl) lm_copy_1 lm_copy_2 lm_copy_3 (fun s_23 => ?_)
  refine j_aload_n C dX9_takeFrom_26 rfl ?_
  refine j_getR C dX9_takeFrom_27 fl_RX9_19 h1 (by decide) rfl rfl (by decide) (fun h_27 => ?_)
  refine j_iconst C (v := (0 : Int32)) dX9_takeFrom_30 (by decide) ?_
  refine j_aload_n C dX9_takeFrom_31 rfl ?_
  refine j_getR C dX9_takeFrom_32 fl_RX9_19 h0 (by decide) rfl rfl (by decide) (fun h_32 => ?_)
  refine j_iconst C (v := (0 : Int32)) dX9_takeFrom_35 (by decide) ?_
  refine j_aload_n C dX9_takeFrom_36 rfl ?_
  refine j_getR C dX9_takeFrom_37 fl_RX9_19 h0 (by decide) rfl rfl (by decide) (fun h_37 => ?_)
  refine j_alen C (t0 := 1) dX9_takeFrom_40 h_37 (by decide) (by decide) rfl ?_
  refine j_copy C dX9_takeFrom_41 lm_RX9_50 h_27 h_32 (by decide) (Nat.le_of_ble_eq_true rfl) lm_copy_1 lm_copy_2 lm_copy_3 (fun s_41 => ?_)
  refine j_aload_n C dX9_takeFrom_44 rfl ?_
  refine j_getR C dX9_takeFrom_45 fl_RX9_22 h1 (by decide) rfl rfl (by decide) (fun h_45 => ?_)
  refine j_iconst C (v := (0 : Int32)) dX9_takeFrom_48 (by decide) ?_
  refine j_aload_n C dX9_takeFrom_49 rfl ?_
  refine j_getR C dX9_takeFrom_50 fl_RX9_22 h0 (by decide) rfl rfl (by decide) (fun h_50 => ?_)
  refine j_iconst C (v := (0 : Int32)) dX9_takeFrom_53 (by decide) ?_
  refine j_aload_n C dX9_takeFrom_54 rfl ?_
  refine j_getR C dX9_takeFrom_55 fl_RX9_22 h0 (by decide) rfl rfl (by decide) (fun h_55 => ?_)
  refine j_alen C (t0 := 1) dX9_takeFrom_58 h_55 (by decide) (by decide) rfl ?_
  refine j_copy C dX9_takeFrom_59 lm_RX9_50 h_45 h_50 (by decide) (Nat.le_of_ble_eq_true rfl) lm_copy_1 lm_copy_2 lm_copy_3 (fun s_59 => ?_)
  refine j_aload_n C dX9_takeFrom_62 rfl ?_
  refine j_getR C dX9_takeFrom_63 fl_RX9_25 h1 (by decide) rfl rfl (by decide) (fun h_63 => ?_)
  refine j_iconst C (v := (0 : Int32)) dX9_takeFrom_66 (by decide) ?_
  refine j_aload_n C dX9_takeFrom_67 rfl ?_
  refine j_getR C dX9_takeFrom_68 fl_RX9_25 h0 (by decide) rfl rfl (by decide) (fun h_68 => ?_)
  refine j_iconst C (v := (0 : Int32)) dX9_takeFrom_71 (by decide) ?_
  refine j_aload_n C dX9_takeFrom_72 rfl ?_
  refine j_getR C dX9_takeFrom_73 fl_RX9_25 h0 (by decide) rfl rfl (by decide) (fun h_73 => ?_)
  refine j_alen C (t0 := 1) dX9_takeFrom_76 h_73 (by decide) (by decide) rfl ?_
  refine j_copy C dX9_takeFrom_77 lm_RX9_50 h_63 h_68 (by decide) (Nat.le_of_ble_eq_true rfl) lm_copy_1 lm_copy_2 lm_copy_3 (fun s_77 => ?_)
  refine j_aload_n C dX9_takeFrom_80 rfl ?_
  refine j_getR C dX9_takeFrom_81 fl_RX9_28 h1 (by decide) rfl rfl (by decide) (fun h_81 => ?_)
  refine j_iconst C (v := (0 : Int32)) dX9_takeFrom_84 (by decide) ?_
  refine j_aload_n C dX9_takeFrom_85 rfl ?_
  refine j_getR C dX9_takeFrom_86 fl_RX9_28 h0 (by decide) rfl rfl (by decide) (fun h_86 => ?_)
  refine j_iconst C (v := (0 : Int32)) dX9_takeFrom_89 (by decide) ?_
  refine j_aload_n C dX9_takeFrom_90 rfl ?_
  refine j_getR C dX9_takeFrom_91 fl_RX9_28 h0 (by decide) rfl rfl (by decide) (fun h_91 => ?_)
  refine j_alen C (t0 := 1) dX9_takeFrom_94 h_91 (by decide) (by decide) rfl ?_
  refine j_copy C dX9_takeFrom_95 lm_RX9_50 h_81 h_86 (by decide) (Nat.le_of_ble_eq_true rfl) lm_copy_1 lm_copy_2 lm_copy_3 (fun s_95 => ?_)
  exact j_vret C dX9_takeFrom_98
set_option maxRecDepth 20000 in
set_option maxHeartbeats 4000000 in
theorem CX5_takeFrom (l : Launch) (M : Mc) (hD : Dj M) (v0 : Nat) (h0 : isK v0 5) (v1 : Nat) (h1 : isK v1 5) (σ : Sg) : Ct l M yX5_takeFrom cX5_takeFrom 2 none { frames := 1, cells := 0, slots := 0, locals := 48 } vV [.ref (adr M v0), .ref (adr M v1)] σ (fX5_takeFrom v0 v1 σ) := by
  refine ct_of (l := l) hD (by decide) (Nat.le_of_ble_eq_true rfl) ?_
  intro p e s m args below meth c C
  unfold fX5_takeFrom
  refine j_aload_n C dX5_takeFrom_0 rfl ?_
  refine j_aload_n C dX5_takeFrom_1 rfl ?_
  refine j_getI C dX5_takeFrom_2 fl_RX5_9 h1 (by decide) rfl ?_
  refine j_put C dX5_takeFrom_5 fl_RX5_9 fs_5_0 h0 (by decide) rfl rfl rfl (fun s_5 => ?_)
  refine j_aload_n C dX5_takeFrom_8 rfl ?_
  refine j_getR C dX5_takeFrom_9 fl_RX5_15 h1 (by decide) rfl rfl (by decide) (fun h_9 => ?_)
  refine j_iconst C (v := (0 : Int32)) dX5_takeFrom_12 (by decide) ?_
  refine j_aload_n C dX5_takeFrom_13 rfl ?_
  refine j_getR C dX5_takeFrom_14 fl_RX5_15 h0 (by decide) rfl rfl (by decide) (fun h_14 => ?_)
  refine j_iconst C (v := (0 : Int32)) dX5_takeFrom_17 (by decide) ?_
  refine j_aload_n C dX5_takeFrom_18 rfl ?_
  refine j_getR C dX5_takeFrom_19 fl_RX5_15 h0 (by decide) rfl rfl (by decide) (fun h_19 => ?_)
  refine j_alen C (t0 := 1) dX5_takeFrom_22 h_19 (by decide) (by decide) rfl ?_
  refine j_copy C dX5_takeFrom_23 lm_RX5_46 h_9 h_14 (by decide) (Nat.le_of_ble_eq_true rfl) lm_copy_1 lm_copy_2 lm_copy_3 (fun s_23 => ?_)
  refine j_aload_n C dX5_takeFrom_26 rfl ?_
  refine j_getR C dX5_takeFrom_27 fl_RX5_19 h1 (by decide) rfl rfl (by decide) (fun h_27 => ?_)
  refine j_iconst C (v := (0 : Int32)) dX5_takeFrom_30 (by decide) ?_
  refine j_aload_n C dX5_takeFrom_31 rfl ?_
  refine j_getR C dX5_takeFrom_32 fl_RX5_19 h0 (by decide) rfl rfl (by decide) (fun h_32 => ?_)
  refine j_iconst C (v := (0 : Int32)) dX5_takeFrom_35 (by decide) ?_
  refine j_aload_n C dX5_takeFrom_36 rfl ?_
  refine j_getR C dX5_takeFrom_37 fl_RX5_19 h0 (by decide) rfl rfl (by decide) (fun h_37 => ?_)
  refine j_alen C (t0 := 1) dX5_takeFrom_40 h_37 (by decide) (by decide) rfl ?_
  refine j_copy C dX5_takeFrom_41 lm_RX5_46 h_27 h_32 (by decide) (Nat.le_of_ble_eq_true rfl) lm_copy_1 lm_copy_2 lm_copy_3 (fun s_41 => ?_)
  refine j_aload_n C dX5_takeFrom_44 rfl ?_
  refine j_getR C dX5_takeFrom_45 fl_RX5_22 h1 (by decide) rfl rfl (by decide) (fun h_45 => ?_)
  refine j_iconst C (v := (0 : Int32)) dX5_takeFrom_48 (by decide) ?_
  refine j_aload_n C dX5_takeFrom_49 rfl ?_
  refine j_getR C dX5_takeFrom_50 fl_RX5_22 h0 (by decide) rfl rfl (by decide) (fun h_50 => ?_)
  refine j_iconst C (v := (0 : Int32)) dX5_takeFrom_53 (by decide) ?_
  refine j_aload_n C dX5_takeFrom_54 rfl ?_
  refine j_getR C dX5_takeFrom_55 fl_RX5_22 h0 (by decide) rfl rfl (by decide) (fun h_55 => ?_)
  refine j_alen C (t0 := 1) dX5_takeFrom_58 h_55 (by decide) (by decide) rfl ?_
  refine j_copy C dX5_takeFrom_59 lm_RX5_46 h_45 h_50 (by decide) (Nat.le_of_ble_eq_true rfl) lm_copy_1 lm_copy_2 lm_copy_3 (fun s_59 => ?_)
  refine j_aload_n C dX5_takeFrom_62 rfl ?_
  refine j_getR C dX5_takeFrom_63 fl_RX5_25 h1 (by decide) rfl rfl (by decide) (fun h_63 => ?_)
  refine j_iconst C (v := (0 : Int32)) dX5_takeFrom_66 (by decide) ?_
  refine j_aload_n C dX5_takeFrom_67 rfl ?_
  refine j_getR C dX5_takeFrom_68 fl_RX5_25 h0 (by decide) rfl rfl (by decide) (fun h_68 => ?_)
  refine j_iconst C (v := (0 : Int32)) dX5_takeFrom_71 (by decide) ?_
  refine j_aload_n C dX5_takeFrom_72 rfl ?_
  refine j_getR C dX5_takeFrom_73 fl_RX5_25 h0 (by decide) rfl rfl (by decide) (fun h_73 => ?_)
  refine j_alen C (t0 := 1) dX5_takeFrom_76 h_73 (by decide) (by decide) rfl ?_
  refine j_copy C dX5_takeFrom_77 lm_RX5_46 h_63 h_68 (by decide) (Nat.le_of_ble_eq_true rfl) lm_copy_1 lm_copy_2 lm_copy_3 (fun s_77 => ?_)
  refine j_aload_n C dX5_takeFrom_80 rfl ?_
  refine j_getR C dX5_takeFrom_81 fl_RX5_28 h1 (by decide) rfl rfl (by decide) (fun h_81 => ?_)
  refine j_iconst C (v := (0 : Int32)) dX5_takeFrom_84 (by decide) ?_
  refine j_aload_n C dX5_takeFrom_85 rfl ?_
  refine j_getR C dX5_takeFrom_86 fl_RX5_28 h0 (by decide) rfl rfl (by decide) (fun h_86 => ?_)
  refine j_iconst C (v := (0 : Int32)) dX5_takeFrom_89 (by decide) ?_
  refine j_aload_n C dX5_takeFrom_90 rfl ?_
  refine j_getR C dX5_takeFrom_91 fl_RX5_28 h0 (by decide) rfl rfl (by decide) (fun h_91 => ?_)
  refine j_alen C (t0 := 1) dX5_takeFrom_94 h_91 (by decide) (by decide) rfl ?_
  refine j_copy C dX5_takeFrom_95 lm_RX5_46 h_81 h_86 (by decide) (Nat.le_of_ble_eq_true rfl) lm_copy_1 lm_copy_2 lm_copy_3 (fun s_95 => ?_)
  refine j_aload_n C dX5_takeFrom_98 rfl ?_
  refine j_getR C dX5_takeFrom_99 fl_RX5_31 h1 (by decide) rfl rfl (by decide) (fun h_99 => ?_)
  refine j_iconst C (v := (0 : Int32)) dX5_takeFrom_102 (by decide) ?_
  refine j_aload_n C dX5_takeFrom_103 rfl ?_
  refine j_getR C dX5_takeFrom_104 fl_RX5_31 h0 (by decide) rfl rfl (by decide) (fun h_104 => ?_)
  refine j_iconst C (v := (0 : Int32)) dX5_takeFrom_107 (by decide) ?_
  refine j_aload_n C dX5_takeFrom_108 rfl ?_
  refine j_getR C dX5_takeFrom_109 fl_RX5_31 h0 (by decide) rfl rfl (by decide) (fun h_109 => ?_)
  refine j_alen C (t0 := 1) dX5_takeFrom_112 h_109 (by decide) (by decide) rfl ?_
  refine j_copy C dX5_takeFrom_113 lm_RX5_46 h_99 h_104 (by decide) (Nat.le_of_ble_eq_true rfl) lm_copy_1 lm_copy_2 lm_copy_3 (fun s_113 => ?_)
  exact j_vret C dX5_takeFrom_116
set_option maxRecDepth 20000 in
set_option maxHeartbeats 4000000 in
theorem CX3_takeFrom (l : Launch) (M : Mc) (hD : Dj M) (v0 : Nat) (h0 : isK v0 3) (v1 : Nat) (h1 : isK v1 3) (σ : Sg) : Ct l M yX3_takeFrom cX3_takeFrom 2 none { frames := 2, cells := 0, slots := 0, locals := 69 } vV [.ref (adr M v0), .ref (adr M v1)] σ (fX3_takeFrom v0 v1 σ) := by
  refine ct_of (l := l) hD (by decide) (Nat.le_of_ble_eq_true rfl) ?_
  intro p e s m args below meth c C
  unfold fX3_takeFrom
  refine j_aload_n C dX3_takeFrom_0 rfl ?_
  refine j_getR C dX3_takeFrom_1 fl_RX3_12 h0 (by decide) rfl rfl (by decide) (fun h_1 => ?_)
  refine j_aload_n C dX3_takeFrom_4 rfl ?_
  refine j_getR C dX3_takeFrom_5 fl_RX3_12 h1 (by decide) rfl rfl (by decide) (fun h_5 => ?_)
  refine j_callVv C (As := [.ref (adr M (rf v1 0))]) dX3_takeFrom_8 (CX8_takeFrom l M hD (rf v0 0) h_1 (rf v1 0) h_5 σ) vv_RX3_58 h_1 (by decide) rfl rfl ⟨rfl, rfl⟩ (by decide) (Nat.le_of_ble_eq_true rfl) ⟨Nat.zero_le _, Nat.zero_le _⟩ (fun r_8 s_8 => ?_)
  refine j_aload_n C dX3_takeFrom_11 rfl ?_
  refine j_getR C dX3_takeFrom_12 fl_RX3_21 h0 (by decide) rfl rfl (by decide) (fun h_12 => ?_)
  refine j_aload_n C dX3_takeFrom_15 rfl ?_
  refine j_getR C dX3_takeFrom_16 fl_RX3_21 h1 (by decide) rfl rfl (by decide) (fun h_16 => ?_)
  refine j_callVv C (As := [.ref (adr M (rf v1 1))]) dX3_takeFrom_19 (CX9_takeFrom l M hD (rf v0 1) h_12 (rf v1 1) h_16 s_8) vv_RX3_62 h_12 (by decide) rfl rfl ⟨rfl, rfl⟩ (by decide) (Nat.le_of_ble_eq_true rfl) ⟨Nat.zero_le _, Nat.zero_le _⟩ (fun r_19 s_19 => ?_)
  refine j_aload_n C dX3_takeFrom_22 rfl ?_
  refine j_getR C dX3_takeFrom_23 fl_RX3_28 h0 (by decide) rfl rfl (by decide) (fun h_23 => ?_)
  refine j_aload_n C dX3_takeFrom_26 rfl ?_
  refine j_getR C dX3_takeFrom_27 fl_RX3_28 h1 (by decide) rfl rfl (by decide) (fun h_27 => ?_)
  refine j_callVv C (As := [.ref (adr M (rf v1 2))]) dX3_takeFrom_30 (CX5_takeFrom l M hD (rf v0 2) h_23 (rf v1 2) h_27 s_19) vv_RX3_65 h_23 (by decide) rfl rfl ⟨rfl, rfl⟩ (by decide) (Nat.le_of_ble_eq_true rfl) ⟨Nat.zero_le _, Nat.zero_le _⟩ (fun r_30 s_30 => ?_)
  refine j_aload_n C dX3_takeFrom_33 rfl ?_
  refine j_aload_n C dX3_takeFrom_34 rfl ?_
  refine j_getI C dX3_takeFrom_35 fl_RX3_32 h1 (by decide) rfl ?_
  refine j_put C dX3_takeFrom_38 fl_RX3_32 fs_3_3 h0 (by decide) rfl rfl rfl (fun s_38 => ?_)
  refine j_aload_n C dX3_takeFrom_41 rfl ?_
  refine j_getR C dX3_takeFrom_42 fl_RX3_36 h1 (by decide) rfl rfl (by decide) (fun h_42 => ?_)
  refine j_iconst C (v := (0 : Int32)) dX3_takeFrom_45 (by decide) ?_
  refine j_aload_n C dX3_takeFrom_46 rfl ?_
  refine j_getR C dX3_takeFrom_47 fl_RX3_36 h0 (by decide) rfl rfl (by decide) (fun h_47 => ?_)
  refine j_iconst C (v := (0 : Int32)) dX3_takeFrom_50 (by decide) ?_
  refine j_aload_n C dX3_takeFrom_51 rfl ?_
  refine j_getR C dX3_takeFrom_52 fl_RX3_36 h0 (by decide) rfl rfl (by decide) (fun h_52 => ?_)
  refine j_alen C (t0 := 1) dX3_takeFrom_55 h_52 (by decide) (by decide) rfl ?_
  refine j_copy C dX3_takeFrom_56 lm_RX3_68 h_42 h_47 (by decide) (Nat.le_of_ble_eq_true rfl) lm_copy_1 lm_copy_2 lm_copy_3 (fun s_56 => ?_)
  refine j_aload_n C dX3_takeFrom_59 rfl ?_
  refine j_getR C dX3_takeFrom_60 fl_RX3_40 h1 (by decide) rfl rfl (by decide) (fun h_60 => ?_)
  refine j_iconst C (v := (0 : Int32)) dX3_takeFrom_63 (by decide) ?_
  refine j_aload_n C dX3_takeFrom_64 rfl ?_
  refine j_getR C dX3_takeFrom_65 fl_RX3_40 h0 (by decide) rfl rfl (by decide) (fun h_65 => ?_)
  refine j_iconst C (v := (0 : Int32)) dX3_takeFrom_68 (by decide) ?_
  refine j_aload_n C dX3_takeFrom_69 rfl ?_
  refine j_getR C dX3_takeFrom_70 fl_RX3_40 h0 (by decide) rfl rfl (by decide) (fun h_70 => ?_)
  refine j_alen C (t0 := 1) dX3_takeFrom_73 h_70 (by decide) (by decide) rfl ?_
  refine j_copy C dX3_takeFrom_74 lm_RX3_68 h_60 h_65 (by decide) (Nat.le_of_ble_eq_true rfl) lm_copy_1 lm_copy_2 lm_copy_3 (fun s_74 => ?_)
  exact j_vret C dX3_takeFrom_77
set_option maxRecDepth 20000 in
set_option maxHeartbeats 4000000 in
theorem CX2_keep (l : Launch) (M : Mc) (hD : Dj M) (v0 : Nat) (h0 : isK v0 2) (v1 : Nat) (h1 : isK v1 3) (σ : Sg) : Ct l M yX2_keep cX2_keep 2 none { frames := 3, cells := 0, slots := 0, locals := 90 } vV [.ref (adr M v0), .ref (adr M v1)] σ (fX2_keep v0 v1 σ) := by
  refine ct_of (l := l) hD (by decide) (Nat.le_of_ble_eq_true rfl) ?_
  intro p e s m args below meth c C
  unfold fX2_keep
  refine j_aload_n C dX2_keep_0 rfl ?_
  refine j_getR C dX2_keep_1 fl_RX2_11 h0 (by decide) rfl rfl (by decide) (fun h_1 => ?_)
  refine j_aload_n C dX2_keep_4 rfl ?_
  refine j_getI C dX2_keep_5 fl_RX2_17 h0 (by decide) rfl ?_
  refine j_aald C (t0 := 4) dX2_keep_8 h_1 (by decide) rfl (fun h_8 => ?_)
  refine j_aload_n C dX2_keep_9 rfl ?_
  refine j_callVv C (As := [.ref (adr M v1)]) dX2_keep_10 (CX3_takeFrom l M hD (rf (rf v0 0) ((σ v0 1)).toNatClampNeg) h_8 v1 h1 σ) vv_RX2_25 h_8 (by decide) rfl rfl ⟨rfl, rfl⟩ (by decide) (Nat.le_of_ble_eq_true rfl) ⟨Nat.zero_le _, Nat.zero_le _⟩ (fun r_10 s_10 => ?_)
  refine j_aload_n C dX2_keep_13 rfl ?_
  refine j_aload_n C dX2_keep_14 rfl ?_
  refine j_getI C dX2_keep_15 fl_RX2_17 h0 (by decide) rfl ?_
  refine j_iconst C (v := (1 : Int32)) dX2_keep_18 (by decide) ?_
  refine j_iadd C dX2_keep_19 ?_
  refine j_bipush C (v := (16 : Int32)) dX2_keep_20 (by decide) ?_
  refine j_irem C dX2_keep_22 (by decide) ?_
  refine j_put C dX2_keep_23 fl_RX2_17 fs_2_1 h0 (by decide) rfl rfl rfl (fun s_23 => ?_)
  refine j_aload_n C dX2_keep_26 rfl ?_
  refine j_aload_n C dX2_keep_27 rfl ?_
  refine j_getI C dX2_keep_28 fl_RX2_21 h0 (by decide) rfl ?_
  refine j_bipush C (v := (16 : Int32)) dX2_keep_31 (by decide) ?_
  refine j_icmp_ge C (tgt := 45) dX2_keep_33 (by decide) ?_ ?_
  · refine j_bipush C (v := (16 : Int32)) dX2_keep_45 (by decide) ?_
    refine j_put C dX2_keep_47 fl_RX2_21 fs_2_2 h0 (by decide) rfl rfl rfl (fun s_47 => ?_)
    exact j_vret C dX2_keep_50
  · refine j_aload_n C dX2_keep_36 rfl ?_
    refine j_getI C dX2_keep_37 fl_RX2_21 h0 (by decide) rfl ?_
    refine j_iconst C (v := (1 : Int32)) dX2_keep_40 (by decide) ?_
    refine j_iadd C dX2_keep_41 ?_
    refine j_goto C (tgt := 47) dX2_keep_42 (by decide) ?_
    refine j_put C dX2_keep_47 fl_RX2_21 fs_2_2 h0 (by decide) rfl rfl rfl (fun s_47 => ?_)
    exact j_vret C dX2_keep_50
set_option maxRecDepth 20000 in
set_option maxHeartbeats 4000000 in
theorem CX0_forget (l : Launch) (M : Mc) (hD : Dj M) (v0 : Nat) (h0 : isK v0 0) (σ : Sg) : Ct l M yX0_forget cX0_forget 1 none { frames := 0, cells := 0, slots := 0, locals := 0 } vV [.ref (adr M v0)] σ (fX0_forget v0 σ) := by
  refine ct_of (l := l) hD (by decide) (Nat.le_of_ble_eq_true rfl) ?_
  intro p e s m args below meth c C
  unfold fX0_forget
  refine j_aload_n C dX0_forget_0 rfl ?_
  refine j_iconst C (v := (0 : Int32)) dX0_forget_1 (by decide) ?_
  refine j_put C dX0_forget_2 fl_RX0_25 fs_0_2 h0 (by decide) rfl rfl rfl (fun s_2 => ?_)
  exact j_vret C dX0_forget_5
set_option maxRecDepth 20000 in
set_option maxHeartbeats 4000000 in
theorem CX4_forget (l : Launch) (M : Mc) (hD : Dj M) (v0 : Nat) (h0 : isK v0 4) (σ : Sg) : Ct l M yX4_forget cX4_forget 1 none { frames := 0, cells := 0, slots := 0, locals := 0 } vV [.ref (adr M v0)] σ (fX4_forget v0 σ) := by
  refine ct_of (l := l) hD (by decide) (Nat.le_of_ble_eq_true rfl) ?_
  intro p e s m args below meth c C
  unfold fX4_forget
  refine j_aload_n C dX4_forget_0 rfl ?_
  refine j_iconst C (v := (0 : Int32)) dX4_forget_1 (by decide) ?_
  refine j_put C dX4_forget_2 fl_RX4_27 fs_4_3 h0 (by decide) rfl rfl rfl (fun s_2 => ?_)
  exact j_vret C dX4_forget_5
set_option maxRecDepth 20000 in
set_option maxHeartbeats 4000000 in
theorem CX10_forgetTheDay (l : Launch) (M : Mc) (hD : Dj M) (v0 : Nat) (h0 : isK v0 10) (σ : Sg) : Ct l M yX10_forgetTheDay cX10_forgetTheDay 1 none { frames := 1, cells := 0, slots := 0, locals := 20 } vV [.ref (adr M v0)] σ (fX10_forgetTheDay v0 σ) := by
  refine ct_of (l := l) hD (by decide) (Nat.le_of_ble_eq_true rfl) ?_
  intro p e s m args below meth c C
  unfold fX10_forgetTheDay
  refine j_aload_n C dX10_forgetTheDay_0 rfl ?_
  refine j_getR C dX10_forgetTheDay_1 fl_RX10_20 h0 (by decide) rfl rfl (by decide) (fun h_1 => ?_)
  refine j_callVv C (As := []) dX10_forgetTheDay_4 (CX0_forget l M hD (rf v0 1) h_1 σ) vv_RX10_281 h_1 (by decide) rfl rfl ⟨rfl, rfl⟩ (by decide) (Nat.le_of_ble_eq_true rfl) ⟨Nat.zero_le _, Nat.zero_le _⟩ (fun r_4 s_4 => ?_)
  refine j_aload_n C dX10_forgetTheDay_7 rfl ?_
  refine j_getR C dX10_forgetTheDay_8 fl_RX10_12 h0 (by decide) rfl rfl (by decide) (fun h_8 => ?_)
  refine j_callVv C (As := []) dX10_forgetTheDay_11 (CX4_forget l M hD (rf v0 0) h_8 s_4) vv_RX10_284 h_8 (by decide) rfl rfl ⟨rfl, rfl⟩ (by decide) (Nat.le_of_ble_eq_true rfl) ⟨Nat.zero_le _, Nat.zero_le _⟩ (fun r_11 s_11 => ?_)
  exact j_vret C dX10_forgetTheDay_14
set_option maxRecDepth 20000 in
set_option maxHeartbeats 4000000 in
theorem CX10_keepForUndo (l : Launch) (M : Mc) (hD : Dj M) (v0 : Nat) (h0 : isK v0 10) (σ : Sg) : Ct l M yX10_keepForUndo cX10_keepForUndo 1 none { frames := 4, cells := 0, slots := 0, locals := 111 } vV [.ref (adr M v0)] σ (fX10_keepForUndo v0 σ) := by
  refine ct_of (l := l) hD (by decide) (Nat.le_of_ble_eq_true rfl) ?_
  intro p e s m args below meth c C
  unfold fX10_keepForUndo
  refine j_aload_n C dX10_keepForUndo_0 rfl ?_
  refine j_getR C dX10_keepForUndo_1 fl_RX10_31 h0 (by decide) rfl rfl (by decide) (fun h_1 => ?_)
  refine j_aload_n C dX10_keepForUndo_4 rfl ?_
  refine j_getR C dX10_keepForUndo_5 fl_RX10_27 h0 (by decide) rfl rfl (by decide) (fun h_5 => ?_)
  refine j_callVv C (As := [.ref (adr M (rf v0 2))]) dX10_keepForUndo_8 (CX2_keep l M hD (rf v0 3) h_1 (rf v0 2) h_5 σ) vv_RX10_278 h_1 (by decide) rfl rfl ⟨rfl, rfl⟩ (by decide) (Nat.le_of_ble_eq_true rfl) ⟨Nat.zero_le _, Nat.zero_le _⟩ (fun r_8 s_8 => ?_)
  refine j_aload_n C dX10_keepForUndo_11 rfl ?_
  refine j_callVv C (As := []) dX10_keepForUndo_12 (CX10_forgetTheDay l M hD v0 h0 s_8) vv_RX10_273 h0 (by decide) rfl rfl ⟨rfl, rfl⟩ (by decide) (Nat.le_of_ble_eq_true rfl) ⟨Nat.zero_le _, Nat.zero_le _⟩ (fun r_12 s_12 => ?_)
  exact j_vret C dX10_keepForUndo_15
set_option maxRecDepth 20000 in
set_option maxHeartbeats 4000000 in
theorem CX10_stations (l : Launch) (M : Mc) (hD : Dj M) (v0 : Nat) (h0 : isK v0 10) (v1 : Int32) (σ : Sg) : Ct l M yX10_stations cX10_stations 3 (some .int) { frames := 5, cells := 0, slots := 0, locals := 131 } vI [.ref (adr M v0), .int v1] σ (fX10_stations v0 v1 σ) := by
  refine ct_of (l := l) hD (by decide) (Nat.le_of_ble_eq_true rfl) ?_
  intro p e s m args below meth c C
  unfold fX10_stations
  refine j_iload_n C dX10_stations_0 rfl ?_
  refine j_iconst C (v := (2 : Int32)) dX10_stations_1 (by decide) ?_
  refine j_bipush C (v := (7 : Int32)) dX10_stations_2 (by decide) ?_
  refine j_callSI C (As := [.int v1, .int ((2 : Int32)), .int ((7 : Int32))]) dX10_stations_4 (CX10_isWithin l M hD v1 (2 : Int32) (7 : Int32) σ) vs_RX10_46 rfl rfl ⟨rfl, rfl⟩ (by decide) (Nat.le_of_ble_eq_true rfl) ⟨Nat.zero_le _, Nat.zero_le _⟩ (fun r_4 s_4 => ?_)
  refine j_if_ne C (tgt := 17) dX10_stations_7 (by decide) ?_ ?_
  · refine j_aload_n C dX10_stations_17 rfl ?_
    refine j_getR C dX10_stations_18 fl_RX10_27 h0 (by decide) rfl rfl (by decide) (fun h_18 => ?_)
    refine j_iload_n C dX10_stations_21 rfl ?_
    refine j_callVI C (As := [.int v1]) dX10_stations_22 (CX3_needsMoreThan l M hD (rf v0 2) h_18 v1 s_4) vv_RX10_55 h_18 (by decide) rfl rfl ⟨rfl, rfl⟩ (by decide) (Nat.le_of_ble_eq_true rfl) ⟨Nat.zero_le _, Nat.zero_le _⟩ (fun r_22 s_22 => ?_)
    refine j_if_eq C (tgt := 35) dX10_stations_25 (by decide) ?_ ?_
    · refine j_aload_n C dX10_stations_35 rfl ?_
      refine j_callVv C (As := []) dX10_stations_36 (CX10_keepForUndo l M hD v0 h0 s_22) vv_RX10_62 h0 (by decide) rfl rfl ⟨rfl, rfl⟩ (by decide) (Nat.le_of_ble_eq_true rfl) ⟨Nat.zero_le _, Nat.zero_le _⟩ (fun r_36 s_36 => ?_)
      refine j_aload_n C dX10_stations_39 rfl ?_
      refine j_getR C dX10_stations_40 fl_RX10_27 h0 (by decide) rfl rfl (by decide) (fun h_40 => ?_)
      refine j_getR C dX10_stations_43 fl_RX10_65 h_40 (by decide) rfl rfl (by decide) (fun h_43 => ?_)
      refine j_getI C dX10_stations_46 fl_RX10_69 h_43 (by decide) rfl ?_
      refine j_istore_n C (Ls' := fun v2_49 => [(2, .int v2_49), (0, .ref (adr M v0)), (1, .int v1)]) dX10_stations_49 (by decide) (fun _ => rfl) (fun v2_49 => ?_)
      refine j_aload_n C dX10_stations_50 rfl ?_
      refine j_getR C dX10_stations_51 fl_RX10_27 h0 (by decide) rfl rfl (by decide) (fun h_51 => ?_)
      refine j_getR C dX10_stations_54 fl_RX10_65 h_51 (by decide) rfl rfl (by decide) (fun h_54 => ?_)
      refine j_iload_n C dX10_stations_57 rfl ?_
      refine j_put C dX10_stations_58 fl_RX10_69 fs_8_0 h_54 (by decide) rfl rfl rfl (fun s_58 => ?_)
      refine j_iload_n C dX10_stations_61 rfl ?_
      exact j_iret C dX10_stations_62
    · refine j_aload_n C dX10_stations_28 rfl ?_
      refine j_ldc C dX10_stations_29 lc_RX10_61 ?_
      refine j_callVI C (As := [.int ((-100007 : Int32))]) dX10_stations_31 (CX10_finding l M hD v0 h0 (-100007 : Int32) s_22) vv_RX10_51 h0 (by decide) rfl rfl ⟨rfl, rfl⟩ (by decide) (Nat.le_of_ble_eq_true rfl) ⟨Nat.zero_le _, Nat.zero_le _⟩ (fun r_31 s_31 => ?_)
      exact j_iret C dX10_stations_34
  · refine j_aload_n C dX10_stations_10 rfl ?_
    refine j_ldc C dX10_stations_11 lc_RX10_50 ?_
    refine j_callVI C (As := [.int ((-100001 : Int32))]) dX10_stations_13 (CX10_finding l M hD v0 h0 (-100001 : Int32) s_4) vv_RX10_51 h0 (by decide) rfl rfl ⟨rfl, rfl⟩ (by decide) (Nat.le_of_ble_eq_true rfl) ⟨Nat.zero_le _, Nat.zero_le _⟩ (fun r_13 s_13 => ?_)
    exact j_iret C dX10_stations_16
set_option maxRecDepth 20000 in
set_option maxHeartbeats 4000000 in
theorem CX8_hasStation (l : Launch) (M : Mc) (hD : Dj M) (v0 : Nat) (h0 : isK v0 8) (v1 : Int32) (σ : Sg) : Ct l M yX8_hasStation cX8_hasStation 2 (some .boolean) { frames := 0, cells := 0, slots := 0, locals := 0 } vI [.ref (adr M v0), .int v1] σ (fX8_hasStation v0 v1 σ) := by
  refine ct_of (l := l) hD (by decide) (Nat.le_of_ble_eq_true rfl) ?_
  intro p e s m args below meth c C
  unfold fX8_hasStation
  refine j_iload_n C dX8_hasStation_0 rfl ?_
  refine j_if_lt C (tgt := 16) dX8_hasStation_1 (by decide) ?_ ?_
  · refine j_iconst C (v := (0 : Int32)) dX8_hasStation_16 (by decide) ?_
    exact j_zret C dX8_hasStation_17
  · refine j_iload_n C dX8_hasStation_4 rfl ?_
    refine j_aload_n C dX8_hasStation_5 rfl ?_
    refine j_getI C dX8_hasStation_6 fl_RX8_9 h0 (by decide) rfl ?_
    refine j_icmp_ge C (tgt := 16) dX8_hasStation_9 (by decide) ?_ ?_
    · refine j_iconst C (v := (0 : Int32)) dX8_hasStation_16 (by decide) ?_
      exact j_zret C dX8_hasStation_17
    · refine j_iconst C (v := (1 : Int32)) dX8_hasStation_12 (by decide) ?_
      refine j_goto C (tgt := 17) dX8_hasStation_13 (by decide) ?_
      exact j_zret C dX8_hasStation_17
set_option maxRecDepth 20000 in
set_option maxHeartbeats 4000000 in
theorem CX10_siding (l : Launch) (M : Mc) (hD : Dj M) (v0 : Nat) (h0 : isK v0 10) (v1 : Int32) (v2 : Int32) (σ : Sg) : Ct l M yX10_siding cX10_siding 4 (some .int) { frames := 5, cells := 0, slots := 0, locals := 131 } vI [.ref (adr M v0), .int v1, .int v2] σ (fX10_siding v0 v1 v2 σ) := by
  refine ct_of (l := l) hD (by decide) (Nat.le_of_ble_eq_true rfl) ?_
  intro p e s m args below meth c C
  unfold fX10_siding
  refine j_aload_n C dX10_siding_0 rfl ?_
  refine j_getR C dX10_siding_1 fl_RX10_27 h0 (by decide) rfl rfl (by decide) (fun h_1 => ?_)
  refine j_getR C dX10_siding_4 fl_RX10_65 h_1 (by decide) rfl rfl (by decide) (fun h_4 => ?_)
  refine j_iload_n C dX10_siding_7 rfl ?_
  refine j_callVI C (As := [.int v1]) dX10_siding_8 (CX8_hasStation l M hD (rf (rf v0 2) 0) h_4 v1 σ) vv_RX10_74 h_4 (by decide) rfl rfl ⟨rfl, rfl⟩ (by decide) (Nat.le_of_ble_eq_true rfl) ⟨Nat.zero_le _, Nat.zero_le _⟩ (fun r_8 s_8 => ?_)
  refine j_if_eq C (tgt := 24) dX10_siding_11 (by decide) ?_ ?_
  · refine j_aload_n C dX10_siding_24 rfl ?_
    refine j_ldc C dX10_siding_25 lc_RX10_50 ?_
    refine j_callVI C (As := [.int ((-100001 : Int32))]) dX10_siding_27 (CX10_finding l M hD v0 h0 (-100001 : Int32) s_8) vv_RX10_51 h0 (by decide) rfl rfl ⟨rfl, rfl⟩ (by decide) (Nat.le_of_ble_eq_true rfl) ⟨Nat.zero_le _, Nat.zero_le _⟩ (fun r_27 s_27 => ?_)
    exact j_iret C dX10_siding_30
  · refine j_iload_n C dX10_siding_14 rfl ?_
    refine j_iconst C (v := (0 : Int32)) dX10_siding_15 (by decide) ?_
    refine j_bipush C (v := (30 : Int32)) dX10_siding_16 (by decide) ?_
    refine j_callSI C (As := [.int v2, .int ((0 : Int32)), .int ((30 : Int32))]) dX10_siding_18 (CX10_isWithin l M hD v2 (0 : Int32) (30 : Int32) s_8) vs_RX10_46 rfl rfl ⟨rfl, rfl⟩ (by decide) (Nat.le_of_ble_eq_true rfl) ⟨Nat.zero_le _, Nat.zero_le _⟩ (fun r_18 s_18 => ?_)
    refine j_if_ne C (tgt := 31) dX10_siding_21 (by decide) ?_ ?_
    · refine j_aload_n C dX10_siding_31 rfl ?_
      refine j_callVv C (As := []) dX10_siding_32 (CX10_keepForUndo l M hD v0 h0 s_18) vv_RX10_62 h0 (by decide) rfl rfl ⟨rfl, rfl⟩ (by decide) (Nat.le_of_ble_eq_true rfl) ⟨Nat.zero_le _, Nat.zero_le _⟩ (fun r_32 s_32 => ?_)
      refine j_aload_n C dX10_siding_35 rfl ?_
      refine j_getR C dX10_siding_36 fl_RX10_27 h0 (by decide) rfl rfl (by decide) (fun h_36 => ?_)
      refine j_getR C dX10_siding_39 fl_RX10_65 h_36 (by decide) rfl rfl (by decide) (fun h_39 => ?_)
      refine j_getR C dX10_siding_42 fl_RX10_77 h_39 (by decide) rfl rfl (by decide) (fun h_42 => ?_)
      refine j_iload_n C dX10_siding_45 rfl ?_
      refine j_iald C dX10_siding_46 h_42 ?_
      refine j_istore_n C (Ls' := fun v3_47 => [(3, .int v3_47), (0, .ref (adr M v0)), (1, .int v1), (2, .int v2)]) dX10_siding_47 (by decide) (fun _ => rfl) (fun v3_47 => ?_)
      refine j_aload_n C dX10_siding_48 rfl ?_
      refine j_getR C dX10_siding_49 fl_RX10_27 h0 (by decide) rfl rfl (by decide) (fun h_49 => ?_)
      refine j_getR C dX10_siding_52 fl_RX10_65 h_49 (by decide) rfl rfl (by decide) (fun h_52 => ?_)
      refine j_getR C dX10_siding_55 fl_RX10_77 h_52 (by decide) rfl rfl (by decide) (fun h_55 => ?_)
      refine j_iload_n C dX10_siding_58 rfl ?_
      refine j_iload_n C dX10_siding_59 rfl ?_
      refine j_iast C dX10_siding_60 h_55 (fun s_60 => ?_)
      refine j_iload_n C dX10_siding_61 rfl ?_
      exact j_iret C dX10_siding_62
    · refine j_aload_n C dX10_siding_24 rfl ?_
      refine j_ldc C dX10_siding_25 lc_RX10_50 ?_
      refine j_callVI C (As := [.int ((-100001 : Int32))]) dX10_siding_27 (CX10_finding l M hD v0 h0 (-100001 : Int32) s_18) vv_RX10_51 h0 (by decide) rfl rfl ⟨rfl, rfl⟩ (by decide) (Nat.le_of_ble_eq_true rfl) ⟨Nat.zero_le _, Nat.zero_le _⟩ (fun r_27 s_27 => ?_)
      exact j_iret C dX10_siding_30
set_option maxRecDepth 20000 in
set_option maxHeartbeats 4000000 in
theorem CX8_hasSection (l : Launch) (M : Mc) (hD : Dj M) (v0 : Nat) (h0 : isK v0 8) (v1 : Int32) (σ : Sg) : Ct l M yX8_hasSection cX8_hasSection 2 (some .boolean) { frames := 0, cells := 0, slots := 0, locals := 0 } vI [.ref (adr M v0), .int v1] σ (fX8_hasSection v0 v1 σ) := by
  refine ct_of (l := l) hD (by decide) (Nat.le_of_ble_eq_true rfl) ?_
  intro p e s m args below meth c C
  unfold fX8_hasSection
  refine j_iload_n C dX8_hasSection_0 rfl ?_
  refine j_if_lt C (tgt := 18) dX8_hasSection_1 (by decide) ?_ ?_
  · refine j_iconst C (v := (0 : Int32)) dX8_hasSection_18 (by decide) ?_
    exact j_zret C dX8_hasSection_19
  · refine j_iload_n C dX8_hasSection_4 rfl ?_
    refine j_aload_n C dX8_hasSection_5 rfl ?_
    refine j_getI C dX8_hasSection_6 fl_RX8_9 h0 (by decide) rfl ?_
    refine j_iconst C (v := (1 : Int32)) dX8_hasSection_9 (by decide) ?_
    refine j_isub C dX8_hasSection_10 ?_
    refine j_icmp_ge C (tgt := 18) dX8_hasSection_11 (by decide) ?_ ?_
    · refine j_iconst C (v := (0 : Int32)) dX8_hasSection_18 (by decide) ?_
      exact j_zret C dX8_hasSection_19
    · refine j_iconst C (v := (1 : Int32)) dX8_hasSection_14 (by decide) ?_
      refine j_goto C (tgt := 19) dX8_hasSection_15 (by decide) ?_
      exact j_zret C dX8_hasSection_19
set_option maxRecDepth 20000 in
set_option maxHeartbeats 4000000 in
theorem CX8_areMinutes (l : Launch) (M : Mc) (hD : Dj M) (v0 : Int32) (σ : Sg) : Ct l M yX8_areMinutes cX8_areMinutes 1 (some .boolean) { frames := 0, cells := 0, slots := 0, locals := 0 } vI [.int v0] σ (fX8_areMinutes v0 σ) := by
  refine ct_of (l := l) hD (by decide) (Nat.le_of_ble_eq_true rfl) ?_
  intro p e s m args below meth c C
  unfold fX8_areMinutes
  refine j_iload_n C dX8_areMinutes_0 rfl ?_
  refine j_iconst C (v := (1 : Int32)) dX8_areMinutes_1 (by decide) ?_
  refine j_icmp_lt C (tgt := 15) dX8_areMinutes_2 (by decide) ?_ ?_
  · refine j_iconst C (v := (0 : Int32)) dX8_areMinutes_15 (by decide) ?_
    exact j_zret C dX8_areMinutes_16
  · refine j_iload_n C dX8_areMinutes_5 rfl ?_
    refine j_bipush C (v := (30 : Int32)) dX8_areMinutes_6 (by decide) ?_
    refine j_icmp_gt C (tgt := 15) dX8_areMinutes_8 (by decide) ?_ ?_
    · refine j_iconst C (v := (0 : Int32)) dX8_areMinutes_15 (by decide) ?_
      exact j_zret C dX8_areMinutes_16
    · refine j_iconst C (v := (1 : Int32)) dX8_areMinutes_11 (by decide) ?_
      refine j_goto C (tgt := 16) dX8_areMinutes_12 (by decide) ?_
      exact j_zret C dX8_areMinutes_16
set_option maxRecDepth 20000 in
set_option maxHeartbeats 4000000 in
theorem CX10_section (l : Launch) (M : Mc) (hD : Dj M) (v0 : Nat) (h0 : isK v0 10) (v1 : Int32) (v2 : Int32) (σ : Sg) : Ct l M yX10_section cX10_section 4 (some .int) { frames := 5, cells := 0, slots := 0, locals := 131 } vI [.ref (adr M v0), .int v1, .int v2] σ (fX10_section v0 v1 v2 σ) := by
  refine ct_of (l := l) hD (by decide) (Nat.le_of_ble_eq_true rfl) ?_
  intro p e s m args below meth c C
  unfold fX10_section
  refine j_aload_n C dX10_section_0 rfl ?_
  refine j_getR C dX10_section_1 fl_RX10_27 h0 (by decide) rfl rfl (by decide) (fun h_1 => ?_)
  refine j_getR C dX10_section_4 fl_RX10_65 h_1 (by decide) rfl rfl (by decide) (fun h_4 => ?_)
  refine j_iload_n C dX10_section_7 rfl ?_
  refine j_callVI C (As := [.int v1]) dX10_section_8 (CX8_hasSection l M hD (rf (rf v0 2) 0) h_4 v1 σ) vv_RX10_81 h_4 (by decide) rfl rfl ⟨rfl, rfl⟩ (by decide) (Nat.le_of_ble_eq_true rfl) ⟨Nat.zero_le _, Nat.zero_le _⟩ (fun r_8 s_8 => ?_)
  refine j_if_eq C (tgt := 21) dX10_section_11 (by decide) ?_ ?_
  · refine j_aload_n C dX10_section_21 rfl ?_
    refine j_ldc C dX10_section_22 lc_RX10_50 ?_
    refine j_callVI C (As := [.int ((-100001 : Int32))]) dX10_section_24 (CX10_finding l M hD v0 h0 (-100001 : Int32) s_8) vv_RX10_51 h0 (by decide) rfl rfl ⟨rfl, rfl⟩ (by decide) (Nat.le_of_ble_eq_true rfl) ⟨Nat.zero_le _, Nat.zero_le _⟩ (fun r_24 s_24 => ?_)
    exact j_iret C dX10_section_27
  · refine j_iload_n C dX10_section_14 rfl ?_
    refine j_callSI C (As := [.int v2]) dX10_section_15 (CX8_areMinutes l M hD v2 s_8) vs_RX10_84 rfl rfl ⟨rfl, rfl⟩ (by decide) (Nat.le_of_ble_eq_true rfl) ⟨Nat.zero_le _, Nat.zero_le _⟩ (fun r_15 s_15 => ?_)
    refine j_if_ne C (tgt := 28) dX10_section_18 (by decide) ?_ ?_
    · refine j_aload_n C dX10_section_28 rfl ?_
      refine j_callVv C (As := []) dX10_section_29 (CX10_keepForUndo l M hD v0 h0 s_15) vv_RX10_62 h0 (by decide) rfl rfl ⟨rfl, rfl⟩ (by decide) (Nat.le_of_ble_eq_true rfl) ⟨Nat.zero_le _, Nat.zero_le _⟩ (fun r_29 s_29 => ?_)
      refine j_aload_n C dX10_section_32 rfl ?_
      refine j_getR C dX10_section_33 fl_RX10_27 h0 (by decide) rfl rfl (by decide) (fun h_33 => ?_)
      refine j_getR C dX10_section_36 fl_RX10_65 h_33 (by decide) rfl rfl (by decide) (fun h_36 => ?_)
      refine j_getR C dX10_section_39 fl_RX10_87 h_36 (by decide) rfl rfl (by decide) (fun h_39 => ?_)
      refine j_iload_n C dX10_section_42 rfl ?_
      refine j_iald C dX10_section_43 h_39 ?_
      refine j_istore_n C (Ls' := fun v3_44 => [(3, .int v3_44), (0, .ref (adr M v0)), (1, .int v1), (2, .int v2)]) dX10_section_44 (by decide) (fun _ => rfl) (fun v3_44 => ?_)
      refine j_aload_n C dX10_section_45 rfl ?_
      refine j_getR C dX10_section_46 fl_RX10_27 h0 (by decide) rfl rfl (by decide) (fun h_46 => ?_)
      refine j_getR C dX10_section_49 fl_RX10_65 h_46 (by decide) rfl rfl (by decide) (fun h_49 => ?_)
      refine j_getR C dX10_section_52 fl_RX10_87 h_49 (by decide) rfl rfl (by decide) (fun h_52 => ?_)
      refine j_iload_n C dX10_section_55 rfl ?_
      refine j_iload_n C dX10_section_56 rfl ?_
      refine j_iast C dX10_section_57 h_52 (fun s_57 => ?_)
      refine j_iload_n C dX10_section_58 rfl ?_
      exact j_iret C dX10_section_59
    · refine j_aload_n C dX10_section_21 rfl ?_
      refine j_ldc C dX10_section_22 lc_RX10_50 ?_
      refine j_callVI C (As := [.int ((-100001 : Int32))]) dX10_section_24 (CX10_finding l M hD v0 h0 (-100001 : Int32) s_15) vv_RX10_51 h0 (by decide) rfl rfl ⟨rfl, rfl⟩ (by decide) (Nat.le_of_ble_eq_true rfl) ⟨Nat.zero_le _, Nat.zero_le _⟩ (fun r_24 s_24 => ?_)
      exact j_iret C dX10_section_27
set_option maxRecDepth 20000 in
set_option maxHeartbeats 4000000 in
theorem CX9_add (l : Launch) (M : Mc) (hD : Dj M) (v0 : Nat) (h0 : isK v0 9) (v1 : Int32) (v2 : Int32) (v3 : Int32) (v4 : Int32) (v5 : Int32) (σ : Sg) : Ct l M yX9_add cX9_add 7 (some .int) { frames := 0, cells := 0, slots := 0, locals := 0 } vI [.ref (adr M v0), .int v1, .int v2, .int v3, .int v4, .int v5] σ (fX9_add v0 v1 v2 v3 v4 v5 σ) := by
  refine ct_of (l := l) hD (by decide) (Nat.le_of_ble_eq_true rfl) ?_
  intro p e s m args below meth c C
  unfold fX9_add
  refine j_aload_n C dX9_add_0 rfl ?_
  refine j_getI C dX9_add_1 fl_RX9_9 h0 (by decide) rfl ?_
  refine j_istore C (Ls' := fun v6_4 => [(6, .int v6_4), (0, .ref (adr M v0)), (1, .int v1), (2, .int v2), (3, .int v3), (4, .int v4), (5, .int v5)]) dX9_add_4 (by decide) (fun _ => rfl) (fun v6_4 => ?_)
  refine j_aload_n C dX9_add_6 rfl ?_
  refine j_getR C dX9_add_7 fl_RX9_15 h0 (by decide) rfl rfl (by decide) (fun h_7 => ?_)
  refine j_iload C dX9_add_10 rfl ?_
  refine j_iload_n C dX9_add_12 rfl ?_
  refine j_iast C dX9_add_13 h_7 (fun s_13 => ?_)
  refine j_aload_n C dX9_add_14 rfl ?_
  refine j_getR C dX9_add_15 fl_RX9_19 h0 (by decide) rfl rfl (by decide) (fun h_15 => ?_)
  refine j_iload C dX9_add_18 rfl ?_
  refine j_iload_n C dX9_add_20 rfl ?_
  refine j_iast C dX9_add_21 h_15 (fun s_21 => ?_)
  refine j_aload_n C dX9_add_22 rfl ?_
  refine j_getR C dX9_add_23 fl_RX9_22 h0 (by decide) rfl rfl (by decide) (fun h_23 => ?_)
  refine j_iload C dX9_add_26 rfl ?_
  refine j_iload_n C dX9_add_28 rfl ?_
  refine j_iast C dX9_add_29 h_23 (fun s_29 => ?_)
  refine j_aload_n C dX9_add_30 rfl ?_
  refine j_getR C dX9_add_31 fl_RX9_25 h0 (by decide) rfl rfl (by decide) (fun h_31 => ?_)
  refine j_iload C dX9_add_34 rfl ?_
  refine j_iload C dX9_add_36 rfl ?_
  refine j_iast C dX9_add_38 h_31 (fun s_38 => ?_)
  refine j_aload_n C dX9_add_39 rfl ?_
  refine j_getR C dX9_add_40 fl_RX9_28 h0 (by decide) rfl rfl (by decide) (fun h_40 => ?_)
  refine j_iload C dX9_add_43 rfl ?_
  refine j_iload C dX9_add_45 rfl ?_
  refine j_iast C dX9_add_47 h_40 (fun s_47 => ?_)
  refine j_aload_n C dX9_add_48 rfl ?_
  refine j_dup C dX9_add_49 rfl ?_
  refine j_getI C dX9_add_50 fl_RX9_9 h0 (by decide) rfl ?_
  refine j_iconst C (v := (1 : Int32)) dX9_add_53 (by decide) ?_
  refine j_iadd C dX9_add_54 ?_
  refine j_put C dX9_add_55 fl_RX9_9 fs_9_0 h0 (by decide) rfl rfl rfl (fun s_55 => ?_)
  refine j_iload C dX9_add_58 rfl ?_
  exact j_iret C dX9_add_60
set_option maxRecDepth 20000 in
set_option maxHeartbeats 4000000 in
theorem CX10_train (l : Launch) (M : Mc) (hD : Dj M) (v0 : Nat) (h0 : isK v0 10) (v1 : Int32) (v2 : Int32) (v3 : Int32) (v4 : Int32) (v5 : Int32) (σ : Sg) : Ct l M yX10_train cX10_train 6 (some .int) { frames := 5, cells := 0, slots := 0, locals := 131 } vI [.ref (adr M v0), .int v1, .int v2, .int v3, .int v4, .int v5] σ (fX10_train v0 v1 v2 v3 v4 v5 σ) := by
  refine ct_of (l := l) hD (by decide) (Nat.le_of_ble_eq_true rfl) ?_
  intro p e s m args below meth c C
  unfold fX10_train
  refine j_iload_n C dX10_train_0 rfl ?_
  refine j_iconst C (v := (0 : Int32)) dX10_train_1 (by decide) ?_
  refine j_iconst C (v := (3 : Int32)) dX10_train_2 (by decide) ?_
  refine j_callSI C (As := [.int v1, .int ((0 : Int32)), .int ((3 : Int32))]) dX10_train_3 (CX10_isWithin l M hD v1 (0 : Int32) (3 : Int32) σ) vs_RX10_46 rfl rfl ⟨rfl, rfl⟩ (by decide) (Nat.le_of_ble_eq_true rfl) ⟨Nat.zero_le _, Nat.zero_le _⟩ (fun r_3 s_3 => ?_)
  refine j_if_eq C (tgt := 60) dX10_train_6 (by decide) ?_ ?_
  · refine j_aload_n C dX10_train_60 rfl ?_
    refine j_ldc C dX10_train_61 lc_RX10_50 ?_
    refine j_callVI C (As := [.int ((-100001 : Int32))]) dX10_train_63 (CX10_finding l M hD v0 h0 (-100001 : Int32) s_3) vv_RX10_51 h0 (by decide) rfl rfl ⟨rfl, rfl⟩ (by decide) (Nat.le_of_ble_eq_true rfl) ⟨Nat.zero_le _, Nat.zero_le _⟩ (fun r_63 s_63 => ?_)
    exact j_iret C dX10_train_66
  · refine j_aload_n C dX10_train_9 rfl ?_
    refine j_getR C dX10_train_10 fl_RX10_27 h0 (by decide) rfl rfl (by decide) (fun h_10 => ?_)
    refine j_getR C dX10_train_13 fl_RX10_65 h_10 (by decide) rfl rfl (by decide) (fun h_13 => ?_)
    refine j_iload_n C dX10_train_16 rfl ?_
    refine j_callVI C (As := [.int v2]) dX10_train_17 (CX8_hasStation l M hD (rf (rf v0 2) 0) h_13 v2 s_3) vv_RX10_74 h_13 (by decide) rfl rfl ⟨rfl, rfl⟩ (by decide) (Nat.le_of_ble_eq_true rfl) ⟨Nat.zero_le _, Nat.zero_le _⟩ (fun r_17 s_17 => ?_)
    refine j_if_eq C (tgt := 60) dX10_train_20 (by decide) ?_ ?_
    · refine j_aload_n C dX10_train_60 rfl ?_
      refine j_ldc C dX10_train_61 lc_RX10_50 ?_
      refine j_callVI C (As := [.int ((-100001 : Int32))]) dX10_train_63 (CX10_finding l M hD v0 h0 (-100001 : Int32) s_17) vv_RX10_51 h0 (by decide) rfl rfl ⟨rfl, rfl⟩ (by decide) (Nat.le_of_ble_eq_true rfl) ⟨Nat.zero_le _, Nat.zero_le _⟩ (fun r_63 s_63 => ?_)
      exact j_iret C dX10_train_66
    · refine j_aload_n C dX10_train_23 rfl ?_
      refine j_getR C dX10_train_24 fl_RX10_27 h0 (by decide) rfl rfl (by decide) (fun h_24 => ?_)
      refine j_getR C dX10_train_27 fl_RX10_65 h_24 (by decide) rfl rfl (by decide) (fun h_27 => ?_)
      refine j_iload_n C dX10_train_30 rfl ?_
      refine j_callVI C (As := [.int v3]) dX10_train_31 (CX8_hasStation l M hD (rf (rf v0 2) 0) h_27 v3 s_17) vv_RX10_74 h_27 (by decide) rfl rfl ⟨rfl, rfl⟩ (by decide) (Nat.le_of_ble_eq_true rfl) ⟨Nat.zero_le _, Nat.zero_le _⟩ (fun r_31 s_31 => ?_)
      refine j_if_eq C (tgt := 60) dX10_train_34 (by decide) ?_ ?_
      · refine j_aload_n C dX10_train_60 rfl ?_
        refine j_ldc C dX10_train_61 lc_RX10_50 ?_
        refine j_callVI C (As := [.int ((-100001 : Int32))]) dX10_train_63 (CX10_finding l M hD v0 h0 (-100001 : Int32) s_31) vv_RX10_51 h0 (by decide) rfl rfl ⟨rfl, rfl⟩ (by decide) (Nat.le_of_ble_eq_true rfl) ⟨Nat.zero_le _, Nat.zero_le _⟩ (fun r_63 s_63 => ?_)
        exact j_iret C dX10_train_66
      · refine j_iload C dX10_train_37 rfl ?_
        refine j_iconst C (v := (1 : Int32)) dX10_train_39 (by decide) ?_
        refine j_bipush C (v := (30 : Int32)) dX10_train_40 (by decide) ?_
        refine j_callSI C (As := [.int v4, .int ((1 : Int32)), .int ((30 : Int32))]) dX10_train_42 (CX10_isWithin l M hD v4 (1 : Int32) (30 : Int32) s_31) vs_RX10_46 rfl rfl ⟨rfl, rfl⟩ (by decide) (Nat.le_of_ble_eq_true rfl) ⟨Nat.zero_le _, Nat.zero_le _⟩ (fun r_42 s_42 => ?_)
        refine j_if_eq C (tgt := 60) dX10_train_45 (by decide) ?_ ?_
        · refine j_aload_n C dX10_train_60 rfl ?_
          refine j_ldc C dX10_train_61 lc_RX10_50 ?_
          refine j_callVI C (As := [.int ((-100001 : Int32))]) dX10_train_63 (CX10_finding l M hD v0 h0 (-100001 : Int32) s_42) vv_RX10_51 h0 (by decide) rfl rfl ⟨rfl, rfl⟩ (by decide) (Nat.le_of_ble_eq_true rfl) ⟨Nat.zero_le _, Nat.zero_le _⟩ (fun r_63 s_63 => ?_)
          exact j_iret C dX10_train_66
        · refine j_iload C dX10_train_48 rfl ?_
          refine j_iconst C (v := (0 : Int32)) dX10_train_50 (by decide) ?_
          refine j_sipush C (v := (300 : Int32)) dX10_train_51 (by decide) ?_
          refine j_callSI C (As := [.int v5, .int ((0 : Int32)), .int ((300 : Int32))]) dX10_train_54 (CX10_isWithin l M hD v5 (0 : Int32) (300 : Int32) s_42) vs_RX10_46 rfl rfl ⟨rfl, rfl⟩ (by decide) (Nat.le_of_ble_eq_true rfl) ⟨Nat.zero_le _, Nat.zero_le _⟩ (fun r_54 s_54 => ?_)
          refine j_if_ne C (tgt := 67) dX10_train_57 (by decide) ?_ ?_
          · refine j_iload_n C dX10_train_67 rfl ?_
            refine j_iload_n C dX10_train_68 rfl ?_
            refine j_icmp_ne C (tgt := 79) dX10_train_69 (by decide) ?_ ?_
            · refine j_aload_n C dX10_train_79 rfl ?_
              refine j_getR C dX10_train_80 fl_RX10_27 h0 (by decide) rfl rfl (by decide) (fun h_80 => ?_)
              refine j_getR C dX10_train_83 fl_RX10_91 h_80 (by decide) rfl rfl (by decide) (fun h_83 => ?_)
              refine j_getI C dX10_train_86 fl_RX10_95 h_83 (by decide) rfl ?_
              refine j_iconst C (v := (5 : Int32)) dX10_train_89 (by decide) ?_
              refine j_icmp_lt C (tgt := 100) dX10_train_90 (by decide) ?_ ?_
              · refine j_aload_n C dX10_train_100 rfl ?_
                refine j_callVv C (As := []) dX10_train_101 (CX10_keepForUndo l M hD v0 h0 s_54) vv_RX10_62 h0 (by decide) rfl rfl ⟨rfl, rfl⟩ (by decide) (Nat.le_of_ble_eq_true rfl) ⟨Nat.zero_le _, Nat.zero_le _⟩ (fun r_101 s_101 => ?_)
                refine j_aload_n C dX10_train_104 rfl ?_
                refine j_getR C dX10_train_105 fl_RX10_27 h0 (by decide) rfl rfl (by decide) (fun h_105 => ?_)
                refine j_getR C dX10_train_108 fl_RX10_91 h_105 (by decide) rfl rfl (by decide) (fun h_108 => ?_)
                refine j_iload_n C dX10_train_111 rfl ?_
                refine j_iload_n C dX10_train_112 rfl ?_
                refine j_iload_n C dX10_train_113 rfl ?_
                refine j_iload C dX10_train_114 rfl ?_
                refine j_iload C dX10_train_116 rfl ?_
                refine j_callVI C (As := [.int v1, .int v2, .int v3, .int v4, .int v5]) dX10_train_118 (CX9_add l M hD (rf (rf v0 2) 1) h_108 v1 v2 v3 v4 v5 s_101) vv_RX10_99 h_108 (by decide) rfl rfl ⟨rfl, rfl⟩ (by decide) (Nat.le_of_ble_eq_true rfl) ⟨Nat.zero_le _, Nat.zero_le _⟩ (fun r_118 s_118 => ?_)
                exact j_iret C dX10_train_121
              · refine j_aload_n C dX10_train_93 rfl ?_
                refine j_ldc C dX10_train_94 lc_RX10_98 ?_
                refine j_callVI C (As := [.int ((-100005 : Int32))]) dX10_train_96 (CX10_finding l M hD v0 h0 (-100005 : Int32) s_54) vv_RX10_51 h0 (by decide) rfl rfl ⟨rfl, rfl⟩ (by decide) (Nat.le_of_ble_eq_true rfl) ⟨Nat.zero_le _, Nat.zero_le _⟩ (fun r_96 s_96 => ?_)
                exact j_iret C dX10_train_99
            · refine j_aload_n C dX10_train_72 rfl ?_
              refine j_ldc C dX10_train_73 lc_RX10_90 ?_
              refine j_callVI C (As := [.int ((-100003 : Int32))]) dX10_train_75 (CX10_finding l M hD v0 h0 (-100003 : Int32) s_54) vv_RX10_51 h0 (by decide) rfl rfl ⟨rfl, rfl⟩ (by decide) (Nat.le_of_ble_eq_true rfl) ⟨Nat.zero_le _, Nat.zero_le _⟩ (fun r_75 s_75 => ?_)
              exact j_iret C dX10_train_78
          · refine j_aload_n C dX10_train_60 rfl ?_
            refine j_ldc C dX10_train_61 lc_RX10_50 ?_
            refine j_callVI C (As := [.int ((-100001 : Int32))]) dX10_train_63 (CX10_finding l M hD v0 h0 (-100001 : Int32) s_54) vv_RX10_51 h0 (by decide) rfl rfl ⟨rfl, rfl⟩ (by decide) (Nat.le_of_ble_eq_true rfl) ⟨Nat.zero_le _, Nat.zero_le _⟩ (fun r_63 s_63 => ?_)
            exact j_iret C dX10_train_66
