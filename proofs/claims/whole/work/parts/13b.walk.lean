set_option maxRecDepth 20000 in
set_option maxHeartbeats 4000000 in
theorem CX11_time (l : Launch) (M : Mc) (hD : Dj M) (v0 : Nat) (h0 : isK v0 11) (v1 : Int32) (v2 : Int32) (σ : Sg) : Ct l M yX11_time cX11_time 3 (some .int) { frames := 2, cells := 0, slots := 0, locals := 44 } vI [.ref (adr M v0), .int v1, .int v2] σ (fX11_time v0 v1 v2 σ) := by
  refine ct_of (l := l) hD (by decide) (Nat.le_of_ble_eq_true rfl) ?_
  intro p e s m args below meth c C
  unfold fX11_time
  refine j_aload_n C dX11_time_0 rfl ?_
  refine j_iload_n C dX11_time_1 rfl ?_
  refine j_callVI C (As := [.int v1]) dX11_time_2 (CX11_isTrain l M hD v0 h0 v1 σ) vv_RX11_133 h0 (by decide) rfl rfl ⟨rfl, rfl⟩ (by decide) (Nat.le_of_ble_eq_true rfl) ⟨Nat.zero_le _, Nat.zero_le _⟩ (fun r_2 s_2 => ?_)
  refine j_if_eq C (tgt := 35) dX11_time_5 (by decide) ?_ ?_
  · refine j_aload_n C dX11_time_35 rfl ?_
    refine j_ldc C dX11_time_36 lc_RX11_118 ?_
    refine j_callVI C (As := [.int ((-100001 : Int32))]) dX11_time_38 (CX11_finds l M hD v0 h0 (-100001 : Int32) s_2) vv_RX11_101 h0 (by decide) rfl rfl ⟨rfl, rfl⟩ (by decide) (Nat.le_of_ble_eq_true rfl) ⟨Nat.zero_le _, Nat.zero_le _⟩ (fun r_38 s_38 => ?_)
    exact j_iret C dX11_time_41
  · refine j_iload_n C dX11_time_8 rfl ?_
    refine j_iconst C (v := (0 : Int32)) dX11_time_9 (by decide) ?_
    refine j_sipush C (v := (300 : Int32)) dX11_time_10 (by decide) ?_
    refine j_callSI C (As := [.int v2, .int ((0 : Int32)), .int ((300 : Int32))]) dX11_time_13 (CX11_in l M hD v2 (0 : Int32) (300 : Int32) s_2) vs_RX11_108 rfl rfl ⟨rfl, rfl⟩ (by decide) (Nat.le_of_ble_eq_true rfl) ⟨Nat.zero_le _, Nat.zero_le _⟩ (fun r_13 s_13 => ?_)
    refine j_if_eq C (tgt := 35) dX11_time_16 (by decide) ?_ ?_
    · refine j_aload_n C dX11_time_35 rfl ?_
      refine j_ldc C dX11_time_36 lc_RX11_118 ?_
      refine j_callVI C (As := [.int ((-100001 : Int32))]) dX11_time_38 (CX11_finds l M hD v0 h0 (-100001 : Int32) s_13) vv_RX11_101 h0 (by decide) rfl rfl ⟨rfl, rfl⟩ (by decide) (Nat.le_of_ble_eq_true rfl) ⟨Nat.zero_le _, Nat.zero_le _⟩ (fun r_38 s_38 => ?_)
      exact j_iret C dX11_time_41
    · refine j_aload_n C dX11_time_19 rfl ?_
      refine j_bipush C (v := (15 : Int32)) dX11_time_20 (by decide) ?_
      refine j_iconst C (v := (5 : Int32)) dX11_time_22 (by decide) ?_
      refine j_iload_n C dX11_time_23 rfl ?_
      refine j_imul C dX11_time_24 ?_
      refine j_iadd C dX11_time_25 ?_
      refine j_iconst C (v := (4 : Int32)) dX11_time_26 (by decide) ?_
      refine j_iadd C dX11_time_27 ?_
      refine j_iload_n C dX11_time_28 rfl ?_
      refine j_callVI C (As := [.int ((((15 : Int32) + ((5 : Int32) * v1)) + (4 : Int32))), .int v2]) dX11_time_29 (CX11_becomes l M hD v0 h0 (((15 : Int32) + ((5 : Int32) * v1)) + (4 : Int32)) v2 s_13) vv_RX11_123 h0 (by decide) rfl rfl ⟨rfl, rfl⟩ (by decide) (Nat.le_of_ble_eq_true rfl) ⟨Nat.zero_le _, Nat.zero_le _⟩ (fun r_29 s_29 => ?_)
      refine j_goto C (tgt := 41) dX11_time_32 (by decide) ?_
      exact j_iret C dX11_time_41
set_option maxRecDepth 20000 in
set_option maxHeartbeats 4000000 in
theorem CX11_between (l : Launch) (M : Mc) (hD : Dj M) (v0 : Nat) (h0 : isK v0 11) (v1 : Int32) (v2 : Int32) (σ : Sg) : Ct l M yX11_between cX11_between 5 (some .int) { frames := 0, cells := 0, slots := 0, locals := 0 } vI [.ref (adr M v0), .int v1, .int v2] σ (fX11_between v0 v1 v2 σ) := by
  refine ct_of (l := l) hD (by decide) (Nat.le_of_ble_eq_true rfl) ?_
  intro p e s m args below meth c C
  have H14 : ∀  (n : Nat) (v3 : Int32) (v4 : Int32) (τ : Sg), J p l e { frames := 0, cells := 0, slots := 0, locals := 0 } s m args below meth c M 5 vI τ 14 [(0, .ref (adr M v0)), (1, .int v1), (2, .int v2), (3, .int v3), (4, .int v4)] [] (lq2 (fX11_between_14 v0 v1 v2) n v3 v4 τ) := by
    refine j_lq2 (Ls := fun v3 v4 => [(0, .ref (adr M v0)), (1, .int v1), (2, .int v2), (3, .int v3), (4, .int v4)]) (st := fun _ _ => []) ?_
    intro k14 hk14 v3 v4 σ
    have H26 : ∀ (v3 : Int32) (v4 : Int32) (w0 : Int32) (w1 : Int32) (τ : Sg), J p l e { frames := 0, cells := 0, slots := 0, locals := 0 } s m args below meth c M 5 vI τ 26 [(0, .ref (adr M v0)), (1, .int v1), (2, .int v2), (3, .int v3), (4, .int v4)] [.int w0, .int w1] (fX11_between_26 v0 v1 v2 v3 v4 w0 w1 k14 τ) := by
      intro v3 v4 w0 w1 σ
      unfold fX11_between_26
      refine j_icmp_ge C (tgt := 48) dX11_between_26 (by decide) ?_ ?_
      · refine j_iload_n C dX11_between_48 rfl ?_
        exact j_iret C dX11_between_49
      · refine j_iload_n C dX11_between_29 rfl ?_
        refine j_aload_n C dX11_between_30 rfl ?_
        refine j_getR C dX11_between_31 fl_RX11_7 h0 (by decide) rfl rfl (by decide) (fun h_31 => ?_)
        refine j_bipush C (v := (8 : Int32)) dX11_between_34 (by decide) ?_
        refine j_iload C dX11_between_36 rfl ?_
        refine j_iadd C dX11_between_38 ?_
        refine j_iald C dX11_between_39 h_31 ?_
        refine j_iadd C dX11_between_40 ?_
        refine j_istore_n C (Ls' := fun v3_41 => [(3, .int v3_41), (0, .ref (adr M v0)), (1, .int v1), (2, .int v2), (4, .int v4)]) dX11_between_41 (by decide) (fun _ => rfl) (fun v3_41 => ?_)
        refine j_iinc C (v := (1 : Int32)) (Ls' := fun v4_42 => [(4, .int v4_42), (3, .int v3_41), (0, .ref (adr M v0)), (1, .int v1), (2, .int v2)]) dX11_between_42 4 rfl (by decide) (by decide) (fun _ => rfl) (fun v4_42 => ?_)
        refine j_goto C (tgt := 14) dX11_between_45 (by decide) ?_
        refine j_sub (Ls' := [(0, .ref (adr M v0)), (1, .int v1), (2, .int v2), (3, .int v3_41), (4, .int v4_42)]) [2, 3, 4, 1, 0] rfl ?_
        exact hk14 v3_41 v4_42 σ
    unfold fX11_between_14
    refine j_iload C dX11_between_14 rfl ?_
    refine j_iload_n C dX11_between_16 rfl ?_
    refine j_iload_n C dX11_between_17 rfl ?_
    refine j_icmp_ge C (tgt := 25) dX11_between_18 (by decide) ?_ ?_
    · refine j_iload_n C dX11_between_25 rfl ?_
      exact H26 v3 v4 v1 v4 σ
    · refine j_iload_n C dX11_between_21 rfl ?_
      refine j_goto C (tgt := 26) dX11_between_22 (by decide) ?_
      exact H26 v3 v4 v2 v4 σ
  have H12 : ∀ (v3 : Int32) (w0 : Int32) (τ : Sg), J p l e { frames := 0, cells := 0, slots := 0, locals := 0 } s m args below meth c M 5 vI τ 12 [(0, .ref (adr M v0)), (1, .int v1), (2, .int v2), (3, .int v3)] [.int w0] (fX11_between_12 v0 v1 v2 v3 w0 τ) := by
    intro v3 w0 σ
    unfold fX11_between_12
    refine j_istore C (Ls' := fun v4_12 => [(4, .int v4_12), (0, .ref (adr M v0)), (1, .int v1), (2, .int v2), (3, .int v3)]) dX11_between_12 (by decide) (fun _ => rfl) (fun v4_12 => ?_)
    refine j_sub (Ls' := [(0, .ref (adr M v0)), (1, .int v1), (2, .int v2), (3, .int v3), (4, .int v4_12)]) [1, 2, 3, 4, 0] rfl ?_
    exact H14 FU v3 v4_12 σ
  unfold fX11_between
  refine j_iconst C (v := (0 : Int32)) dX11_between_0 (by decide) ?_
  refine j_istore_n C (Ls' := fun v3_1 => [(3, .int v3_1), (0, .ref (adr M v0)), (1, .int v1), (2, .int v2)]) dX11_between_1 (by decide) (fun _ => rfl) (fun v3_1 => ?_)
  refine j_iload_n C dX11_between_2 rfl ?_
  refine j_iload_n C dX11_between_3 rfl ?_
  refine j_icmp_ge C (tgt := 11) dX11_between_4 (by decide) ?_ ?_
  · refine j_iload_n C dX11_between_11 rfl ?_
    refine j_sub (Ls' := [(0, .ref (adr M v0)), (1, .int v1), (2, .int v2), (3, .int v3_1)]) [1, 2, 3, 0] rfl ?_
    exact H12 v3_1 v2 σ
  · refine j_iload_n C dX11_between_7 rfl ?_
    refine j_goto C (tgt := 12) dX11_between_8 (by decide) ?_
    refine j_sub (Ls' := [(0, .ref (adr M v0)), (1, .int v1), (2, .int v2), (3, .int v3_1)]) [1, 2, 3, 0] rfl ?_
    exact H12 v3_1 v1 σ
set_option maxRecDepth 20000 in
set_option maxHeartbeats 4000000 in
theorem CX11_isOnWay (l : Launch) (M : Mc) (hD : Dj M) (v0 : Nat) (h0 : isK v0 11) (v1 : Int32) (v2 : Int32) (σ : Sg) : Ct l M yX11_isOnWay cX11_isOnWay 3 (some .boolean) { frames := 2, cells := 0, slots := 0, locals := 42 } vI [.ref (adr M v0), .int v1, .int v2] σ (fX11_isOnWay v0 v1 v2 σ) := by
  refine ct_of (l := l) hD (by decide) (Nat.le_of_ble_eq_true rfl) ?_
  intro p e s m args below meth c C
  unfold fX11_isOnWay
  refine j_aload_n C dX11_isOnWay_0 rfl ?_
  refine j_iload_n C dX11_isOnWay_1 rfl ?_
  refine j_callVI C (As := [.int v1]) dX11_isOnWay_2 (CX11_wayOf l M hD v0 h0 v1 σ) vv_RX11_140 h0 (by decide) rfl rfl ⟨rfl, rfl⟩ (by decide) (Nat.le_of_ble_eq_true rfl) ⟨Nat.zero_le _, Nat.zero_le _⟩ (fun r_2 s_2 => ?_)
  refine j_if_ne C (tgt := 25) dX11_isOnWay_5 (by decide) ?_ ?_
  · refine j_iload_n C dX11_isOnWay_25 rfl ?_
    refine j_aload_n C dX11_isOnWay_26 rfl ?_
    refine j_iload_n C dX11_isOnWay_27 rfl ?_
    refine j_callVI C (As := [.int v1]) dX11_isOnWay_28 (CX11_toOf l M hD v0 h0 v1 s_2) vv_RX11_112 h0 (by decide) rfl rfl ⟨rfl, rfl⟩ (by decide) (Nat.le_of_ble_eq_true rfl) ⟨Nat.zero_le _, Nat.zero_le _⟩ (fun r_28 s_28 => ?_)
    refine j_aload_n C dX11_isOnWay_31 rfl ?_
    refine j_iload_n C dX11_isOnWay_32 rfl ?_
    refine j_callVI C (As := [.int v1]) dX11_isOnWay_33 (CX11_fromOf l M hD v0 h0 v1 s_28) vv_RX11_115 h0 (by decide) rfl rfl ⟨rfl, rfl⟩ (by decide) (Nat.le_of_ble_eq_true rfl) ⟨Nat.zero_le _, Nat.zero_le _⟩ (fun r_33 s_33 => ?_)
    refine j_callSI C (As := [.int v2, .int r_28, .int r_33]) dX11_isOnWay_36 (CX11_in l M hD v2 r_28 r_33 s_33) vs_RX11_108 rfl rfl ⟨rfl, rfl⟩ (by decide) (Nat.le_of_ble_eq_true rfl) ⟨Nat.zero_le _, Nat.zero_le _⟩ (fun r_36 s_36 => ?_)
    exact j_zret C dX11_isOnWay_39
  · refine j_iload_n C dX11_isOnWay_8 rfl ?_
    refine j_aload_n C dX11_isOnWay_9 rfl ?_
    refine j_iload_n C dX11_isOnWay_10 rfl ?_
    refine j_callVI C (As := [.int v1]) dX11_isOnWay_11 (CX11_fromOf l M hD v0 h0 v1 s_2) vv_RX11_115 h0 (by decide) rfl rfl ⟨rfl, rfl⟩ (by decide) (Nat.le_of_ble_eq_true rfl) ⟨Nat.zero_le _, Nat.zero_le _⟩ (fun r_11 s_11 => ?_)
    refine j_aload_n C dX11_isOnWay_14 rfl ?_
    refine j_iload_n C dX11_isOnWay_15 rfl ?_
    refine j_callVI C (As := [.int v1]) dX11_isOnWay_16 (CX11_toOf l M hD v0 h0 v1 s_11) vv_RX11_112 h0 (by decide) rfl rfl ⟨rfl, rfl⟩ (by decide) (Nat.le_of_ble_eq_true rfl) ⟨Nat.zero_le _, Nat.zero_le _⟩ (fun r_16 s_16 => ?_)
    refine j_callSI C (As := [.int v2, .int r_11, .int r_16]) dX11_isOnWay_19 (CX11_in l M hD v2 r_11 r_16 s_16) vs_RX11_108 rfl rfl ⟨rfl, rfl⟩ (by decide) (Nat.le_of_ble_eq_true rfl) ⟨Nat.zero_le _, Nat.zero_le _⟩ (fun r_19 s_19 => ?_)
    refine j_goto C (tgt := 39) dX11_isOnWay_22 (by decide) ?_
    exact j_zret C dX11_isOnWay_39
set_option maxRecDepth 20000 in
set_option maxHeartbeats 4000000 in
theorem CX11_dueAt (l : Launch) (M : Mc) (hD : Dj M) (v0 : Nat) (h0 : isK v0 11) (v1 : Int32) (v2 : Int32) (σ : Sg) : Ct l M yX11_dueAt cX11_dueAt 3 (some .int) { frames := 1, cells := 0, slots := 0, locals := 24 } vI [.ref (adr M v0), .int v1, .int v2] σ (fX11_dueAt v0 v1 v2 σ) := by
  refine ct_of (l := l) hD (by decide) (Nat.le_of_ble_eq_true rfl) ?_
  intro p e s m args below meth c C
  unfold fX11_dueAt
  refine j_aload_n C dX11_dueAt_0 rfl ?_
  refine j_iload_n C dX11_dueAt_1 rfl ?_
  refine j_callVI C (As := [.int v1]) dX11_dueAt_2 (CX11_timeOf l M hD v0 h0 v1 σ) vv_RX11_143 h0 (by decide) rfl rfl ⟨rfl, rfl⟩ (by decide) (Nat.le_of_ble_eq_true rfl) ⟨Nat.zero_le _, Nat.zero_le _⟩ (fun r_2 s_2 => ?_)
  refine j_aload_n C dX11_dueAt_5 rfl ?_
  refine j_aload_n C dX11_dueAt_6 rfl ?_
  refine j_iload_n C dX11_dueAt_7 rfl ?_
  refine j_callVI C (As := [.int v1]) dX11_dueAt_8 (CX11_fromOf l M hD v0 h0 v1 s_2) vv_RX11_115 h0 (by decide) rfl rfl ⟨rfl, rfl⟩ (by decide) (Nat.le_of_ble_eq_true rfl) ⟨Nat.zero_le _, Nat.zero_le _⟩ (fun r_8 s_8 => ?_)
  refine j_iload_n C dX11_dueAt_11 rfl ?_
  refine j_callVI C (As := [.int r_8, .int v2]) dX11_dueAt_12 (CX11_between l M hD v0 h0 r_8 v2 s_8) vv_RX11_146 h0 (by decide) rfl rfl ⟨rfl, rfl⟩ (by decide) (Nat.le_of_ble_eq_true rfl) ⟨Nat.zero_le _, Nat.zero_le _⟩ (fun r_12 s_12 => ?_)
  refine j_iadd C dX11_dueAt_15 ?_
  exact j_iret C dX11_dueAt_16
set_option maxRecDepth 20000 in
set_option maxHeartbeats 4000000 in
theorem CX11_due (l : Launch) (M : Mc) (hD : Dj M) (v0 : Nat) (h0 : isK v0 11) (v1 : Int32) (v2 : Int32) (σ : Sg) : Ct l M yX11_due cX11_due 3 (some .int) { frames := 3, cells := 0, slots := 0, locals := 64 } vI [.ref (adr M v0), .int v1, .int v2] σ (fX11_due v0 v1 v2 σ) := by
  refine ct_of (l := l) hD (by decide) (Nat.le_of_ble_eq_true rfl) ?_
  intro p e s m args below meth c C
  unfold fX11_due
  refine j_aload_n C dX11_due_0 rfl ?_
  refine j_iload_n C dX11_due_1 rfl ?_
  refine j_callVI C (As := [.int v1]) dX11_due_2 (CX11_isTrain l M hD v0 h0 v1 σ) vv_RX11_133 h0 (by decide) rfl rfl ⟨rfl, rfl⟩ (by decide) (Nat.le_of_ble_eq_true rfl) ⟨Nat.zero_le _, Nat.zero_le _⟩ (fun r_2 s_2 => ?_)
  refine j_if_eq C (tgt := 16) dX11_due_5 (by decide) ?_ ?_
  · refine j_aload_n C dX11_due_16 rfl ?_
    refine j_ldc C dX11_due_17 lc_RX11_118 ?_
    refine j_callVI C (As := [.int ((-100001 : Int32))]) dX11_due_19 (CX11_finds l M hD v0 h0 (-100001 : Int32) s_2) vv_RX11_101 h0 (by decide) rfl rfl ⟨rfl, rfl⟩ (by decide) (Nat.le_of_ble_eq_true rfl) ⟨Nat.zero_le _, Nat.zero_le _⟩ (fun r_19 s_19 => ?_)
    exact j_iret C dX11_due_22
  · refine j_aload_n C dX11_due_8 rfl ?_
    refine j_iload_n C dX11_due_9 rfl ?_
    refine j_callVI C (As := [.int v2]) dX11_due_10 (CX11_isStation l M hD v0 h0 v2 s_2) vv_RX11_127 h0 (by decide) rfl rfl ⟨rfl, rfl⟩ (by decide) (Nat.le_of_ble_eq_true rfl) ⟨Nat.zero_le _, Nat.zero_le _⟩ (fun r_10 s_10 => ?_)
    refine j_if_ne C (tgt := 23) dX11_due_13 (by decide) ?_ ?_
    · refine j_aload_n C dX11_due_23 rfl ?_
      refine j_iload_n C dX11_due_24 rfl ?_
      refine j_iload_n C dX11_due_25 rfl ?_
      refine j_callVI C (As := [.int v1, .int v2]) dX11_due_26 (CX11_isOnWay l M hD v0 h0 v1 v2 s_10) vv_RX11_149 h0 (by decide) rfl rfl ⟨rfl, rfl⟩ (by decide) (Nat.le_of_ble_eq_true rfl) ⟨Nat.zero_le _, Nat.zero_le _⟩ (fun r_26 s_26 => ?_)
      refine j_if_eq C (tgt := 41) dX11_due_29 (by decide) ?_ ?_
      · refine j_aload_n C dX11_due_41 rfl ?_
        refine j_ldc C dX11_due_42 lc_RX11_100 ?_
        refine j_callVI C (As := [.int ((-100006 : Int32))]) dX11_due_44 (CX11_finds l M hD v0 h0 (-100006 : Int32) s_26) vv_RX11_101 h0 (by decide) rfl rfl ⟨rfl, rfl⟩ (by decide) (Nat.le_of_ble_eq_true rfl) ⟨Nat.zero_le _, Nat.zero_le _⟩ (fun r_44 s_44 => ?_)
        exact j_iret C dX11_due_47
      · refine j_aload_n C dX11_due_32 rfl ?_
        refine j_iload_n C dX11_due_33 rfl ?_
        refine j_iload_n C dX11_due_34 rfl ?_
        refine j_callVI C (As := [.int v1, .int v2]) dX11_due_35 (CX11_dueAt l M hD v0 h0 v1 v2 s_26) vv_RX11_153 h0 (by decide) rfl rfl ⟨rfl, rfl⟩ (by decide) (Nat.le_of_ble_eq_true rfl) ⟨Nat.zero_le _, Nat.zero_le _⟩ (fun r_35 s_35 => ?_)
        refine j_goto C (tgt := 47) dX11_due_38 (by decide) ?_
        exact j_iret C dX11_due_47
    · refine j_aload_n C dX11_due_16 rfl ?_
      refine j_ldc C dX11_due_17 lc_RX11_118 ?_
      refine j_callVI C (As := [.int ((-100001 : Int32))]) dX11_due_19 (CX11_finds l M hD v0 h0 (-100001 : Int32) s_10) vv_RX11_101 h0 (by decide) rfl rfl ⟨rfl, rfl⟩ (by decide) (Nat.le_of_ble_eq_true rfl) ⟨Nat.zero_le _, Nat.zero_le _⟩ (fun r_19 s_19 => ?_)
      exact j_iret C dX11_due_22
set_option maxRecDepth 20000 in
set_option maxHeartbeats 4000000 in
theorem CX11_rankOf (l : Launch) (M : Mc) (hD : Dj M) (v0 : Nat) (h0 : isK v0 11) (v1 : Int32) (σ : Sg) : Ct l M yX11_rankOf cX11_rankOf 2 (some .int) { frames := 1, cells := 0, slots := 0, locals := 21 } vI [.ref (adr M v0), .int v1] σ (fX11_rankOf v0 v1 σ) := by
  refine ct_of (l := l) hD (by decide) (Nat.le_of_ble_eq_true rfl) ?_
  intro p e s m args below meth c C
  unfold fX11_rankOf
  refine j_aload_n C dX11_rankOf_0 rfl ?_
  refine j_iload_n C dX11_rankOf_1 rfl ?_
  refine j_callVI C (As := [.int v1]) dX11_rankOf_2 (CX11_kindOf l M hD v0 h0 v1 σ) vv_RX11_136 h0 (by decide) rfl rfl ⟨rfl, rfl⟩ (by decide) (Nat.le_of_ble_eq_true rfl) ⟨Nat.zero_le _, Nat.zero_le _⟩ (fun r_2 s_2 => ?_)
  refine j_iconst C (v := (3 : Int32)) dX11_rankOf_5 (by decide) ?_
  refine j_icmp_ne C (tgt := 13) dX11_rankOf_6 (by decide) ?_ ?_
  · refine j_aload_n C dX11_rankOf_13 rfl ?_
    refine j_iload_n C dX11_rankOf_14 rfl ?_
    refine j_callVI C (As := [.int v1]) dX11_rankOf_15 (CX11_kindOf l M hD v0 h0 v1 s_2) vv_RX11_136 h0 (by decide) rfl rfl ⟨rfl, rfl⟩ (by decide) (Nat.le_of_ble_eq_true rfl) ⟨Nat.zero_le _, Nat.zero_le _⟩ (fun r_15 s_15 => ?_)
    exact j_iret C dX11_rankOf_18
  · refine j_iconst C (v := (0 : Int32)) dX11_rankOf_9 (by decide) ?_
    refine j_goto C (tgt := 18) dX11_rankOf_10 (by decide) ?_
    exact j_iret C dX11_rankOf_18
set_option maxRecDepth 20000 in
set_option maxHeartbeats 4000000 in
theorem CX11_isOver (l : Launch) (M : Mc) (hD : Dj M) (v0 : Nat) (h0 : isK v0 11) (v1 : Int32) (v2 : Int32) (v3 : Int32) (σ : Sg) : Ct l M yX11_isOver cX11_isOver 4 (some .boolean) { frames := 2, cells := 0, slots := 0, locals := 42 } vI [.ref (adr M v0), .int v1, .int v2, .int v3] σ (fX11_isOver v0 v1 v2 v3 σ) := by
  refine ct_of (l := l) hD (by decide) (Nat.le_of_ble_eq_true rfl) ?_
  intro p e s m args below meth c C
  unfold fX11_isOver
  refine j_aload_n C dX11_isOver_0 rfl ?_
  refine j_iload_n C dX11_isOver_1 rfl ?_
  refine j_callVI C (As := [.int v1]) dX11_isOver_2 (CX11_rankOf l M hD v0 h0 v1 σ) vv_RX11_156 h0 (by decide) rfl rfl ⟨rfl, rfl⟩ (by decide) (Nat.le_of_ble_eq_true rfl) ⟨Nat.zero_le _, Nat.zero_le _⟩ (fun r_2 s_2 => ?_)
  refine j_aload_n C dX11_isOver_5 rfl ?_
  refine j_iload_n C dX11_isOver_6 rfl ?_
  refine j_callVI C (As := [.int v3]) dX11_isOver_7 (CX11_rankOf l M hD v0 h0 v3 s_2) vv_RX11_156 h0 (by decide) rfl rfl ⟨rfl, rfl⟩ (by decide) (Nat.le_of_ble_eq_true rfl) ⟨Nat.zero_le _, Nat.zero_le _⟩ (fun r_7 s_7 => ?_)
  refine j_icmp_gt C (tgt := 30) dX11_isOver_10 (by decide) ?_ ?_
  · refine j_iconst C (v := (1 : Int32)) dX11_isOver_30 (by decide) ?_
    refine j_goto C (tgt := 35) dX11_isOver_31 (by decide) ?_
    exact j_zret C dX11_isOver_35
  · refine j_aload_n C dX11_isOver_13 rfl ?_
    refine j_iload_n C dX11_isOver_14 rfl ?_
    refine j_callVI C (As := [.int v1]) dX11_isOver_15 (CX11_rankOf l M hD v0 h0 v1 s_7) vv_RX11_156 h0 (by decide) rfl rfl ⟨rfl, rfl⟩ (by decide) (Nat.le_of_ble_eq_true rfl) ⟨Nat.zero_le _, Nat.zero_le _⟩ (fun r_15 s_15 => ?_)
    refine j_aload_n C dX11_isOver_18 rfl ?_
    refine j_iload_n C dX11_isOver_19 rfl ?_
    refine j_callVI C (As := [.int v3]) dX11_isOver_20 (CX11_rankOf l M hD v0 h0 v3 s_15) vv_RX11_156 h0 (by decide) rfl rfl ⟨rfl, rfl⟩ (by decide) (Nat.le_of_ble_eq_true rfl) ⟨Nat.zero_le _, Nat.zero_le _⟩ (fun r_20 s_20 => ?_)
    refine j_icmp_ne C (tgt := 34) dX11_isOver_23 (by decide) ?_ ?_
    · refine j_iconst C (v := (0 : Int32)) dX11_isOver_34 (by decide) ?_
      exact j_zret C dX11_isOver_35
    · refine j_iload_n C dX11_isOver_26 rfl ?_
      refine j_if_ne C (tgt := 34) dX11_isOver_27 (by decide) ?_ ?_
      · refine j_iconst C (v := (0 : Int32)) dX11_isOver_34 (by decide) ?_
        exact j_zret C dX11_isOver_35
      · refine j_iconst C (v := (1 : Int32)) dX11_isOver_30 (by decide) ?_
        refine j_goto C (tgt := 35) dX11_isOver_31 (by decide) ?_
        exact j_zret C dX11_isOver_35
set_option maxRecDepth 20000 in
set_option maxHeartbeats 4000000 in
theorem CX11_over (l : Launch) (M : Mc) (hD : Dj M) (v0 : Nat) (h0 : isK v0 11) (v1 : Int32) (v2 : Int32) (σ : Sg) : Ct l M yX11_over cX11_over 3 (some .int) { frames := 3, cells := 0, slots := 0, locals := 65 } vI [.ref (adr M v0), .int v1, .int v2] σ (fX11_over v0 v1 v2 σ) := by
  refine ct_of (l := l) hD (by decide) (Nat.le_of_ble_eq_true rfl) ?_
  intro p e s m args below meth c C
  unfold fX11_over
  refine j_aload_n C dX11_over_0 rfl ?_
  refine j_iload_n C dX11_over_1 rfl ?_
  refine j_callVI C (As := [.int v1]) dX11_over_2 (CX11_isTrain l M hD v0 h0 v1 σ) vv_RX11_133 h0 (by decide) rfl rfl ⟨rfl, rfl⟩ (by decide) (Nat.le_of_ble_eq_true rfl) ⟨Nat.zero_le _, Nat.zero_le _⟩ (fun r_2 s_2 => ?_)
  refine j_if_eq C (tgt := 16) dX11_over_5 (by decide) ?_ ?_
  · refine j_aload_n C dX11_over_16 rfl ?_
    refine j_ldc C dX11_over_17 lc_RX11_118 ?_
    refine j_callVI C (As := [.int ((-100001 : Int32))]) dX11_over_19 (CX11_finds l M hD v0 h0 (-100001 : Int32) s_2) vv_RX11_101 h0 (by decide) rfl rfl ⟨rfl, rfl⟩ (by decide) (Nat.le_of_ble_eq_true rfl) ⟨Nat.zero_le _, Nat.zero_le _⟩ (fun r_19 s_19 => ?_)
    exact j_iret C dX11_over_22
  · refine j_aload_n C dX11_over_8 rfl ?_
    refine j_iload_n C dX11_over_9 rfl ?_
    refine j_callVI C (As := [.int v2]) dX11_over_10 (CX11_isTrain l M hD v0 h0 v2 s_2) vv_RX11_133 h0 (by decide) rfl rfl ⟨rfl, rfl⟩ (by decide) (Nat.le_of_ble_eq_true rfl) ⟨Nat.zero_le _, Nat.zero_le _⟩ (fun r_10 s_10 => ?_)
    refine j_if_ne C (tgt := 23) dX11_over_13 (by decide) ?_ ?_
    · refine j_aload_n C dX11_over_23 rfl ?_
      refine j_iload_n C dX11_over_24 rfl ?_
      refine j_callVI C (As := [.int v1]) dX11_over_25 (CX11_wayOf l M hD v0 h0 v1 s_10) vv_RX11_140 h0 (by decide) rfl rfl ⟨rfl, rfl⟩ (by decide) (Nat.le_of_ble_eq_true rfl) ⟨Nat.zero_le _, Nat.zero_le _⟩ (fun r_25 s_25 => ?_)
      refine j_aload_n C dX11_over_28 rfl ?_
      refine j_iload_n C dX11_over_29 rfl ?_
      refine j_callVI C (As := [.int v2]) dX11_over_30 (CX11_wayOf l M hD v0 h0 v2 s_25) vv_RX11_140 h0 (by decide) rfl rfl ⟨rfl, rfl⟩ (by decide) (Nat.le_of_ble_eq_true rfl) ⟨Nat.zero_le _, Nat.zero_le _⟩ (fun r_30 s_30 => ?_)
      refine j_icmp_ne C (tgt := 43) dX11_over_33 (by decide) ?_ ?_
      · refine j_aload_n C dX11_over_43 rfl ?_
        refine j_iload_n C dX11_over_44 rfl ?_
        refine j_aload_n C dX11_over_45 rfl ?_
        refine j_iload_n C dX11_over_46 rfl ?_
        refine j_callVI C (As := [.int v1]) dX11_over_47 (CX11_wayOf l M hD v0 h0 v1 s_30) vv_RX11_140 h0 (by decide) rfl rfl ⟨rfl, rfl⟩ (by decide) (Nat.le_of_ble_eq_true rfl) ⟨Nat.zero_le _, Nat.zero_le _⟩ (fun r_47 s_47 => ?_)
        refine j_iload_n C dX11_over_50 rfl ?_
        refine j_callVI C (As := [.int v1, .int r_47, .int v2]) dX11_over_51 (CX11_isOver l M hD v0 h0 v1 r_47 v2 s_47) vv_RX11_159 h0 (by decide) rfl rfl ⟨rfl, rfl⟩ (by decide) (Nat.le_of_ble_eq_true rfl) ⟨Nat.zero_le _, Nat.zero_le _⟩ (fun r_51 s_51 => ?_)
        refine j_if_eq C (tgt := 61) dX11_over_54 (by decide) ?_ ?_
        · refine j_iconst C (v := (0 : Int32)) dX11_over_61 (by decide) ?_
          exact j_iret C dX11_over_62
        · refine j_iconst C (v := (1 : Int32)) dX11_over_57 (by decide) ?_
          refine j_goto C (tgt := 62) dX11_over_58 (by decide) ?_
          exact j_iret C dX11_over_62
      · refine j_aload_n C dX11_over_36 rfl ?_
        refine j_ldc C dX11_over_37 lc_RX11_131 ?_
        refine j_callVI C (As := [.int ((-100003 : Int32))]) dX11_over_39 (CX11_finds l M hD v0 h0 (-100003 : Int32) s_30) vv_RX11_101 h0 (by decide) rfl rfl ⟨rfl, rfl⟩ (by decide) (Nat.le_of_ble_eq_true rfl) ⟨Nat.zero_le _, Nat.zero_le _⟩ (fun r_39 s_39 => ?_)
        exact j_iret C dX11_over_42
    · refine j_aload_n C dX11_over_16 rfl ?_
      refine j_ldc C dX11_over_17 lc_RX11_118 ?_
      refine j_callVI C (As := [.int ((-100001 : Int32))]) dX11_over_19 (CX11_finds l M hD v0 h0 (-100001 : Int32) s_10) vv_RX11_101 h0 (by decide) rfl rfl ⟨rfl, rfl⟩ (by decide) (Nat.le_of_ble_eq_true rfl) ⟨Nat.zero_le _, Nat.zero_le _⟩ (fun r_19 s_19 => ?_)
      exact j_iret C dX11_over_22
set_option maxRecDepth 20000 in
set_option maxHeartbeats 4000000 in
theorem CX11_formOf (l : Launch) (M : Mc) (hD : Dj M) (v0 : Nat) (h0 : isK v0 11) (v1 : Int32) (σ : Sg) : Ct l M yX11_formOf cX11_formOf 2 (some .int) { frames := 0, cells := 0, slots := 0, locals := 0 } vI [.ref (adr M v0), .int v1] σ (fX11_formOf v0 v1 σ) := by
  refine ct_of (l := l) hD (by decide) (Nat.le_of_ble_eq_true rfl) ?_
  intro p e s m args below meth c C
  unfold fX11_formOf
  refine j_aload_n C dX11_formOf_0 rfl ?_
  refine j_getR C dX11_formOf_1 fl_RX11_7 h0 (by decide) rfl rfl (by decide) (fun h_1 => ?_)
  refine j_bipush C (v := (41 : Int32)) dX11_formOf_4 (by decide) ?_
  refine j_iconst C (v := (5 : Int32)) dX11_formOf_6 (by decide) ?_
  refine j_iload_n C dX11_formOf_7 rfl ?_
  refine j_imul C dX11_formOf_8 ?_
  refine j_iadd C dX11_formOf_9 ?_
  refine j_iald C dX11_formOf_10 h_1 ?_
  exact j_iret C dX11_formOf_11
set_option maxRecDepth 20000 in
set_option maxHeartbeats 4000000 in
theorem CX11_trainOf (l : Launch) (M : Mc) (hD : Dj M) (v0 : Nat) (h0 : isK v0 11) (v1 : Int32) (σ : Sg) : Ct l M yX11_trainOf cX11_trainOf 2 (some .int) { frames := 0, cells := 0, slots := 0, locals := 0 } vI [.ref (adr M v0), .int v1] σ (fX11_trainOf v0 v1 σ) := by
  refine ct_of (l := l) hD (by decide) (Nat.le_of_ble_eq_true rfl) ?_
  intro p e s m args below meth c C
  unfold fX11_trainOf
  refine j_aload_n C dX11_trainOf_0 rfl ?_
  refine j_getR C dX11_trainOf_1 fl_RX11_7 h0 (by decide) rfl rfl (by decide) (fun h_1 => ?_)
  refine j_bipush C (v := (41 : Int32)) dX11_trainOf_4 (by decide) ?_
  refine j_iconst C (v := (5 : Int32)) dX11_trainOf_6 (by decide) ?_
  refine j_iload_n C dX11_trainOf_7 rfl ?_
  refine j_imul C dX11_trainOf_8 ?_
  refine j_iadd C dX11_trainOf_9 ?_
  refine j_iconst C (v := (1 : Int32)) dX11_trainOf_10 (by decide) ?_
  refine j_iadd C dX11_trainOf_11 ?_
  refine j_iald C dX11_trainOf_12 h_1 ?_
  exact j_iret C dX11_trainOf_13
set_option maxRecDepth 20000 in
set_option maxHeartbeats 4000000 in
theorem CX11_otherOf (l : Launch) (M : Mc) (hD : Dj M) (v0 : Nat) (h0 : isK v0 11) (v1 : Int32) (σ : Sg) : Ct l M yX11_otherOf cX11_otherOf 2 (some .int) { frames := 0, cells := 0, slots := 0, locals := 0 } vI [.ref (adr M v0), .int v1] σ (fX11_otherOf v0 v1 σ) := by
  refine ct_of (l := l) hD (by decide) (Nat.le_of_ble_eq_true rfl) ?_
  intro p e s m args below meth c C
  unfold fX11_otherOf
  refine j_aload_n C dX11_otherOf_0 rfl ?_
  refine j_getR C dX11_otherOf_1 fl_RX11_7 h0 (by decide) rfl rfl (by decide) (fun h_1 => ?_)
  refine j_bipush C (v := (41 : Int32)) dX11_otherOf_4 (by decide) ?_
  refine j_iconst C (v := (5 : Int32)) dX11_otherOf_6 (by decide) ?_
  refine j_iload_n C dX11_otherOf_7 rfl ?_
  refine j_imul C dX11_otherOf_8 ?_
  refine j_iadd C dX11_otherOf_9 ?_
  refine j_iconst C (v := (2 : Int32)) dX11_otherOf_10 (by decide) ?_
  refine j_iadd C dX11_otherOf_11 ?_
  refine j_iald C dX11_otherOf_12 h_1 ?_
  exact j_iret C dX11_otherOf_13
set_option maxRecDepth 20000 in
set_option maxHeartbeats 4000000 in
theorem CX11_numberOf (l : Launch) (M : Mc) (hD : Dj M) (v0 : Nat) (h0 : isK v0 11) (v1 : Int32) (σ : Sg) : Ct l M yX11_numberOf cX11_numberOf 2 (some .int) { frames := 0, cells := 0, slots := 0, locals := 0 } vI [.ref (adr M v0), .int v1] σ (fX11_numberOf v0 v1 σ) := by
  refine ct_of (l := l) hD (by decide) (Nat.le_of_ble_eq_true rfl) ?_
  intro p e s m args below meth c C
  unfold fX11_numberOf
  refine j_aload_n C dX11_numberOf_0 rfl ?_
  refine j_getR C dX11_numberOf_1 fl_RX11_7 h0 (by decide) rfl rfl (by decide) (fun h_1 => ?_)
  refine j_bipush C (v := (41 : Int32)) dX11_numberOf_4 (by decide) ?_
  refine j_iconst C (v := (5 : Int32)) dX11_numberOf_6 (by decide) ?_
  refine j_iload_n C dX11_numberOf_7 rfl ?_
  refine j_imul C dX11_numberOf_8 ?_
  refine j_iadd C dX11_numberOf_9 ?_
  refine j_iconst C (v := (4 : Int32)) dX11_numberOf_10 (by decide) ?_
  refine j_iadd C dX11_numberOf_11 ?_
  refine j_iald C dX11_numberOf_12 h_1 ?_
  exact j_iret C dX11_numberOf_13
set_option maxRecDepth 20000 in
set_option maxHeartbeats 4000000 in
theorem CX11_ordered (l : Launch) (M : Mc) (hD : Dj M) (v0 : Nat) (h0 : isK v0 11) (v1 : Int32) (v2 : Int32) (v3 : Int32) (v4 : Int32) (v5 : Int32) (σ : Sg) : Ct l M yX11_ordered cX11_ordered 8 (some .int) { frames := 1, cells := 0, slots := 0, locals := 21 } vI [.ref (adr M v0), .int v1, .int v2, .int v3, .int v4, .int v5] σ (fX11_ordered v0 v1 v2 v3 v4 v5 σ) := by
  refine ct_of (l := l) hD (by decide) (Nat.le_of_ble_eq_true rfl) ?_
  intro p e s m args below meth c C
  have H105 : ∀ (v6 : Int32) (n : Nat) (v7 : Int32) (τ : Sg), J p l e { frames := 1, cells := 0, slots := 0, locals := 21 } s m args below meth c M 8 vI τ 105 [(0, .ref (adr M v0)), (6, .int v6), (7, .int v7)] [] (lq1 (fX11_ordered_105 v0 v6) n v7 τ) := by
    intro v6
    refine j_lq1 (Ls := fun v7 => [(0, .ref (adr M v0)), (6, .int v6), (7, .int v7)]) (st := fun _ => []) ?_
    intro k105 hk105 v7 σ
    unfold fX11_ordered_105
    refine j_iload C dX11_ordered_105 rfl ?_
    refine j_iconst C (v := (5 : Int32)) dX11_ordered_107 (by decide) ?_
    refine j_icmp_ge C (tgt := 133) dX11_ordered_108 (by decide) ?_ ?_
    · refine j_aload_n C dX11_ordered_133 rfl ?_
      refine j_getR C dX11_ordered_134 fl_RX11_7 h0 (by decide) rfl rfl (by decide) (fun h_134 => ?_)
      refine j_bipush C (v := (40 : Int32)) dX11_ordered_137 (by decide) ?_
      refine j_dup2 C dX11_ordered_139 rfl rfl ?_
      refine j_iald C dX11_ordered_140 h_134 ?_
      refine j_iconst C (v := (1 : Int32)) dX11_ordered_141 (by decide) ?_
      refine j_iadd C dX11_ordered_142 ?_
      refine j_iast C dX11_ordered_143 h_134 (fun s_143 => ?_)
      refine j_iload C dX11_ordered_144 rfl ?_
      exact j_iret C dX11_ordered_146
    · refine j_aload_n C dX11_ordered_111 rfl ?_
      refine j_getR C dX11_ordered_112 fl_RX11_7 h0 (by decide) rfl rfl (by decide) (fun h_112 => ?_)
      refine j_bipush C (v := (101 : Int32)) dX11_ordered_115 (by decide) ?_
      refine j_iconst C (v := (5 : Int32)) dX11_ordered_117 (by decide) ?_
      refine j_iload C dX11_ordered_118 rfl ?_
      refine j_imul C dX11_ordered_120 ?_
      refine j_iadd C dX11_ordered_121 ?_
      refine j_iload C dX11_ordered_122 rfl ?_
      refine j_iadd C dX11_ordered_124 ?_
      refine j_iconst C (v := (-1 : Int32)) dX11_ordered_125 (by decide) ?_
      refine j_iast C dX11_ordered_126 h_112 (fun s_126 => ?_)
      refine j_iinc C (v := (1 : Int32)) (Ls' := fun v7_127 => [(7, .int v7_127), (0, .ref (adr M v0)), (6, .int v6)]) dX11_ordered_127 2 rfl (by decide) (by decide) (fun _ => rfl) (fun v7_127 => ?_)
      refine j_goto C (tgt := 105) dX11_ordered_130 (by decide) ?_
      refine j_sub (Ls' := [(0, .ref (adr M v0)), (6, .int v6), (7, .int v7_127)]) [1, 2, 0] rfl ?_
      exact hk105 v7_127 s_126
  unfold fX11_ordered
  refine j_aload_n C dX11_ordered_0 rfl ?_
  refine j_getR C dX11_ordered_1 fl_RX11_7 h0 (by decide) rfl rfl (by decide) (fun h_1 => ?_)
  refine j_bipush C (v := (40 : Int32)) dX11_ordered_4 (by decide) ?_
  refine j_iald C dX11_ordered_6 h_1 ?_
  refine j_istore C (Ls' := fun v6_7 => [(6, .int v6_7), (0, .ref (adr M v0)), (1, .int v1), (2, .int v2), (3, .int v3), (4, .int v4), (5, .int v5)]) dX11_ordered_7 (by decide) (fun _ => rfl) (fun v6_7 => ?_)
  refine j_iload C dX11_ordered_9 rfl ?_
  refine j_bipush C (v := (12 : Int32)) dX11_ordered_11 (by decide) ?_
  refine j_icmp_ne C (tgt := 23) dX11_ordered_13 (by decide) ?_ ?_
  · refine j_aload_n C dX11_ordered_23 rfl ?_
    refine j_callVv C (As := []) dX11_ordered_24 (CX11_keep l M hD v0 h0 σ) vv_RX11_105 h0 (by decide) rfl rfl ⟨rfl, rfl⟩ (by decide) (Nat.le_of_ble_eq_true rfl) ⟨Nat.zero_le _, Nat.zero_le _⟩ (fun r_24 s_24 => ?_)
    refine j_aload_n C dX11_ordered_27 rfl ?_
    refine j_getR C dX11_ordered_28 fl_RX11_7 h0 (by decide) rfl rfl (by decide) (fun h_28 => ?_)
    refine j_bipush C (v := (41 : Int32)) dX11_ordered_31 (by decide) ?_
    refine j_iconst C (v := (5 : Int32)) dX11_ordered_33 (by decide) ?_
    refine j_iload C dX11_ordered_34 rfl ?_
    refine j_imul C dX11_ordered_36 ?_
    refine j_iadd C dX11_ordered_37 ?_
    refine j_iload_n C dX11_ordered_38 rfl ?_
    refine j_iast C dX11_ordered_39 h_28 (fun s_39 => ?_)
    refine j_aload_n C dX11_ordered_40 rfl ?_
    refine j_getR C dX11_ordered_41 fl_RX11_7 h0 (by decide) rfl rfl (by decide) (fun h_41 => ?_)
    refine j_bipush C (v := (41 : Int32)) dX11_ordered_44 (by decide) ?_
    refine j_iconst C (v := (5 : Int32)) dX11_ordered_46 (by decide) ?_
    refine j_iload C dX11_ordered_47 rfl ?_
    refine j_imul C dX11_ordered_49 ?_
    refine j_iadd C dX11_ordered_50 ?_
    refine j_iconst C (v := (1 : Int32)) dX11_ordered_51 (by decide) ?_
    refine j_iadd C dX11_ordered_52 ?_
    refine j_iload_n C dX11_ordered_53 rfl ?_
    refine j_iast C dX11_ordered_54 h_41 (fun s_54 => ?_)
    refine j_aload_n C dX11_ordered_55 rfl ?_
    refine j_getR C dX11_ordered_56 fl_RX11_7 h0 (by decide) rfl rfl (by decide) (fun h_56 => ?_)
    refine j_bipush C (v := (41 : Int32)) dX11_ordered_59 (by decide) ?_
    refine j_iconst C (v := (5 : Int32)) dX11_ordered_61 (by decide) ?_
    refine j_iload C dX11_ordered_62 rfl ?_
    refine j_imul C dX11_ordered_64 ?_
    refine j_iadd C dX11_ordered_65 ?_
    refine j_iconst C (v := (2 : Int32)) dX11_ordered_66 (by decide) ?_
    refine j_iadd C dX11_ordered_67 ?_
    refine j_iload_n C dX11_ordered_68 rfl ?_
    refine j_iast C dX11_ordered_69 h_56 (fun s_69 => ?_)
    refine j_aload_n C dX11_ordered_70 rfl ?_
    refine j_getR C dX11_ordered_71 fl_RX11_7 h0 (by decide) rfl rfl (by decide) (fun h_71 => ?_)
    refine j_bipush C (v := (41 : Int32)) dX11_ordered_74 (by decide) ?_
    refine j_iconst C (v := (5 : Int32)) dX11_ordered_76 (by decide) ?_
    refine j_iload C dX11_ordered_77 rfl ?_
    refine j_imul C dX11_ordered_79 ?_
    refine j_iadd C dX11_ordered_80 ?_
    refine j_iconst C (v := (3 : Int32)) dX11_ordered_81 (by decide) ?_
    refine j_iadd C dX11_ordered_82 ?_
    refine j_iload C dX11_ordered_83 rfl ?_
    refine j_iast C dX11_ordered_85 h_71 (fun s_85 => ?_)
    refine j_aload_n C dX11_ordered_86 rfl ?_
    refine j_getR C dX11_ordered_87 fl_RX11_7 h0 (by decide) rfl rfl (by decide) (fun h_87 => ?_)
    refine j_bipush C (v := (41 : Int32)) dX11_ordered_90 (by decide) ?_
    refine j_iconst C (v := (5 : Int32)) dX11_ordered_92 (by decide) ?_
    refine j_iload C dX11_ordered_93 rfl ?_
    refine j_imul C dX11_ordered_95 ?_
    refine j_iadd C dX11_ordered_96 ?_
    refine j_iconst C (v := (4 : Int32)) dX11_ordered_97 (by decide) ?_
    refine j_iadd C dX11_ordered_98 ?_
    refine j_iload C dX11_ordered_99 rfl ?_
    refine j_iast C dX11_ordered_101 h_87 (fun s_101 => ?_)
    refine j_iconst C (v := (0 : Int32)) dX11_ordered_102 (by decide) ?_
    refine j_istore C (Ls' := fun v7_103 => [(7, .int v7_103), (6, .int v6_7), (0, .ref (adr M v0)), (1, .int v1), (2, .int v2), (3, .int v3), (4, .int v4), (5, .int v5)]) dX11_ordered_103 (by decide) (fun _ => rfl) (fun v7_103 => ?_)
    refine j_sub (Ls' := [(0, .ref (adr M v0)), (6, .int v6_7), (7, .int v7_103)]) [2, 1, 0] rfl ?_
    exact H105 v6_7 FU v7_103 s_101
  · refine j_aload_n C dX11_ordered_16 rfl ?_
    refine j_ldc C dX11_ordered_17 lc_RX11_132 ?_
    refine j_callVI C (As := [.int ((-100005 : Int32))]) dX11_ordered_19 (CX11_finds l M hD v0 h0 (-100005 : Int32) σ) vv_RX11_101 h0 (by decide) rfl rfl ⟨rfl, rfl⟩ (by decide) (Nat.le_of_ble_eq_true rfl) ⟨Nat.zero_le _, Nat.zero_le _⟩ (fun r_19 s_19 => ?_)
    exact j_iret C dX11_ordered_22
set_option maxRecDepth 20000 in
set_option maxHeartbeats 4000000 in
theorem CX11_meet (l : Launch) (M : Mc) (hD : Dj M) (v0 : Nat) (h0 : isK v0 11) (v1 : Int32) (v2 : Int32) (v3 : Int32) (σ : Sg) : Ct l M yX11_meet cX11_meet 4 (some .int) { frames := 2, cells := 0, slots := 0, locals := 48 } vI [.ref (adr M v0), .int v1, .int v2, .int v3] σ (fX11_meet v0 v1 v2 v3 σ) := by
  refine ct_of (l := l) hD (by decide) (Nat.le_of_ble_eq_true rfl) ?_
  intro p e s m args below meth c C
  unfold fX11_meet
  refine j_aload_n C dX11_meet_0 rfl ?_
  refine j_iload_n C dX11_meet_1 rfl ?_
  refine j_callVI C (As := [.int v1]) dX11_meet_2 (CX11_isTrain l M hD v0 h0 v1 σ) vv_RX11_133 h0 (by decide) rfl rfl ⟨rfl, rfl⟩ (by decide) (Nat.le_of_ble_eq_true rfl) ⟨Nat.zero_le _, Nat.zero_le _⟩ (fun r_2 s_2 => ?_)
  refine j_if_eq C (tgt := 24) dX11_meet_5 (by decide) ?_ ?_
  · refine j_aload_n C dX11_meet_24 rfl ?_
    refine j_ldc C dX11_meet_25 lc_RX11_118 ?_
    refine j_callVI C (As := [.int ((-100001 : Int32))]) dX11_meet_27 (CX11_finds l M hD v0 h0 (-100001 : Int32) s_2) vv_RX11_101 h0 (by decide) rfl rfl ⟨rfl, rfl⟩ (by decide) (Nat.le_of_ble_eq_true rfl) ⟨Nat.zero_le _, Nat.zero_le _⟩ (fun r_27 s_27 => ?_)
    exact j_iret C dX11_meet_30
  · refine j_aload_n C dX11_meet_8 rfl ?_
    refine j_iload_n C dX11_meet_9 rfl ?_
    refine j_callVI C (As := [.int v2]) dX11_meet_10 (CX11_isTrain l M hD v0 h0 v2 s_2) vv_RX11_133 h0 (by decide) rfl rfl ⟨rfl, rfl⟩ (by decide) (Nat.le_of_ble_eq_true rfl) ⟨Nat.zero_le _, Nat.zero_le _⟩ (fun r_10 s_10 => ?_)
    refine j_if_eq C (tgt := 24) dX11_meet_13 (by decide) ?_ ?_
    · refine j_aload_n C dX11_meet_24 rfl ?_
      refine j_ldc C dX11_meet_25 lc_RX11_118 ?_
      refine j_callVI C (As := [.int ((-100001 : Int32))]) dX11_meet_27 (CX11_finds l M hD v0 h0 (-100001 : Int32) s_10) vv_RX11_101 h0 (by decide) rfl rfl ⟨rfl, rfl⟩ (by decide) (Nat.le_of_ble_eq_true rfl) ⟨Nat.zero_le _, Nat.zero_le _⟩ (fun r_27 s_27 => ?_)
      exact j_iret C dX11_meet_30
    · refine j_aload_n C dX11_meet_16 rfl ?_
      refine j_iload_n C dX11_meet_17 rfl ?_
      refine j_callVI C (As := [.int v3]) dX11_meet_18 (CX11_isStation l M hD v0 h0 v3 s_10) vv_RX11_127 h0 (by decide) rfl rfl ⟨rfl, rfl⟩ (by decide) (Nat.le_of_ble_eq_true rfl) ⟨Nat.zero_le _, Nat.zero_le _⟩ (fun r_18 s_18 => ?_)
      refine j_if_ne C (tgt := 31) dX11_meet_21 (by decide) ?_ ?_
      · refine j_aload_n C dX11_meet_31 rfl ?_
        refine j_iload_n C dX11_meet_32 rfl ?_
        refine j_callVI C (As := [.int v1]) dX11_meet_33 (CX11_wayOf l M hD v0 h0 v1 s_18) vv_RX11_140 h0 (by decide) rfl rfl ⟨rfl, rfl⟩ (by decide) (Nat.le_of_ble_eq_true rfl) ⟨Nat.zero_le _, Nat.zero_le _⟩ (fun r_33 s_33 => ?_)
        refine j_aload_n C dX11_meet_36 rfl ?_
        refine j_iload_n C dX11_meet_37 rfl ?_
        refine j_callVI C (As := [.int v2]) dX11_meet_38 (CX11_wayOf l M hD v0 h0 v2 s_33) vv_RX11_140 h0 (by decide) rfl rfl ⟨rfl, rfl⟩ (by decide) (Nat.le_of_ble_eq_true rfl) ⟨Nat.zero_le _, Nat.zero_le _⟩ (fun r_38 s_38 => ?_)
        refine j_icmp_ne C (tgt := 53) dX11_meet_41 (by decide) ?_ ?_
        · refine j_aload_n C dX11_meet_53 rfl ?_
          refine j_iconst C (v := (0 : Int32)) dX11_meet_54 (by decide) ?_
          refine j_iload_n C dX11_meet_55 rfl ?_
          refine j_iload_n C dX11_meet_56 rfl ?_
          refine j_iload_n C dX11_meet_57 rfl ?_
          refine j_iconst C (v := (0 : Int32)) dX11_meet_58 (by decide) ?_
          refine j_callVI C (As := [.int ((0 : Int32)), .int v1, .int v2, .int v3, .int ((0 : Int32))]) dX11_meet_59 (CX11_ordered l M hD v0 h0 (0 : Int32) v1 v2 v3 (0 : Int32) s_38) vv_RX11_162 h0 (by decide) rfl rfl ⟨rfl, rfl⟩ (by decide) (Nat.le_of_ble_eq_true rfl) ⟨Nat.zero_le _, Nat.zero_le _⟩ (fun r_59 s_59 => ?_)
          exact j_iret C dX11_meet_62
        · refine j_aload_n C dX11_meet_44 rfl ?_
          refine j_ldc C dX11_meet_45 lc_RX11_131 ?_
          refine j_callVI C (As := [.int ((-100003 : Int32))]) dX11_meet_47 (CX11_finds l M hD v0 h0 (-100003 : Int32) s_38) vv_RX11_101 h0 (by decide) rfl rfl ⟨rfl, rfl⟩ (by decide) (Nat.le_of_ble_eq_true rfl) ⟨Nat.zero_le _, Nat.zero_le _⟩ (fun r_47 s_47 => ?_)
          refine j_goto C (tgt := 62) dX11_meet_50 (by decide) ?_
          exact j_iret C dX11_meet_62
      · refine j_aload_n C dX11_meet_24 rfl ?_
        refine j_ldc C dX11_meet_25 lc_RX11_118 ?_
        refine j_callVI C (As := [.int ((-100001 : Int32))]) dX11_meet_27 (CX11_finds l M hD v0 h0 (-100001 : Int32) s_18) vv_RX11_101 h0 (by decide) rfl rfl ⟨rfl, rfl⟩ (by decide) (Nat.le_of_ble_eq_true rfl) ⟨Nat.zero_le _, Nat.zero_le _⟩ (fun r_27 s_27 => ?_)
        exact j_iret C dX11_meet_30
set_option maxRecDepth 20000 in
set_option maxHeartbeats 4000000 in
theorem CX11_late (l : Launch) (M : Mc) (hD : Dj M) (v0 : Nat) (h0 : isK v0 11) (v1 : Int32) (v2 : Int32) (σ : Sg) : Ct l M yX11_late cX11_late 3 (some .int) { frames := 2, cells := 0, slots := 0, locals := 48 } vI [.ref (adr M v0), .int v1, .int v2] σ (fX11_late v0 v1 v2 σ) := by
  refine ct_of (l := l) hD (by decide) (Nat.le_of_ble_eq_true rfl) ?_
  intro p e s m args below meth c C
  unfold fX11_late
  refine j_aload_n C dX11_late_0 rfl ?_
  refine j_iload_n C dX11_late_1 rfl ?_
  refine j_callVI C (As := [.int v1]) dX11_late_2 (CX11_isTrain l M hD v0 h0 v1 σ) vv_RX11_133 h0 (by decide) rfl rfl ⟨rfl, rfl⟩ (by decide) (Nat.le_of_ble_eq_true rfl) ⟨Nat.zero_le _, Nat.zero_le _⟩ (fun r_2 s_2 => ?_)
  refine j_if_eq C (tgt := 30) dX11_late_5 (by decide) ?_ ?_
  · refine j_aload_n C dX11_late_30 rfl ?_
    refine j_ldc C dX11_late_31 lc_RX11_118 ?_
    refine j_callVI C (As := [.int ((-100001 : Int32))]) dX11_late_33 (CX11_finds l M hD v0 h0 (-100001 : Int32) s_2) vv_RX11_101 h0 (by decide) rfl rfl ⟨rfl, rfl⟩ (by decide) (Nat.le_of_ble_eq_true rfl) ⟨Nat.zero_le _, Nat.zero_le _⟩ (fun r_33 s_33 => ?_)
    exact j_iret C dX11_late_36
  · refine j_iload_n C dX11_late_8 rfl ?_
    refine j_iconst C (v := (1 : Int32)) dX11_late_9 (by decide) ?_
    refine j_bipush C (v := (120 : Int32)) dX11_late_10 (by decide) ?_
    refine j_callSI C (As := [.int v2, .int ((1 : Int32)), .int ((120 : Int32))]) dX11_late_12 (CX11_in l M hD v2 (1 : Int32) (120 : Int32) s_2) vs_RX11_108 rfl rfl ⟨rfl, rfl⟩ (by decide) (Nat.le_of_ble_eq_true rfl) ⟨Nat.zero_le _, Nat.zero_le _⟩ (fun r_12 s_12 => ?_)
    refine j_if_eq C (tgt := 30) dX11_late_15 (by decide) ?_ ?_
    · refine j_aload_n C dX11_late_30 rfl ?_
      refine j_ldc C dX11_late_31 lc_RX11_118 ?_
      refine j_callVI C (As := [.int ((-100001 : Int32))]) dX11_late_33 (CX11_finds l M hD v0 h0 (-100001 : Int32) s_12) vv_RX11_101 h0 (by decide) rfl rfl ⟨rfl, rfl⟩ (by decide) (Nat.le_of_ble_eq_true rfl) ⟨Nat.zero_le _, Nat.zero_le _⟩ (fun r_33 s_33 => ?_)
      exact j_iret C dX11_late_36
    · refine j_aload_n C dX11_late_18 rfl ?_
      refine j_iconst C (v := (1 : Int32)) dX11_late_19 (by decide) ?_
      refine j_iload_n C dX11_late_20 rfl ?_
      refine j_iconst C (v := (-1 : Int32)) dX11_late_21 (by decide) ?_
      refine j_iconst C (v := (-1 : Int32)) dX11_late_22 (by decide) ?_
      refine j_iload_n C dX11_late_23 rfl ?_
      refine j_callVI C (As := [.int ((1 : Int32)), .int v1, .int ((-1 : Int32)), .int ((-1 : Int32)), .int v2]) dX11_late_24 (CX11_ordered l M hD v0 h0 (1 : Int32) v1 (-1 : Int32) (-1 : Int32) v2 s_12) vv_RX11_162 h0 (by decide) rfl rfl ⟨rfl, rfl⟩ (by decide) (Nat.le_of_ble_eq_true rfl) ⟨Nat.zero_le _, Nat.zero_le _⟩ (fun r_24 s_24 => ?_)
      refine j_goto C (tgt := 36) dX11_late_27 (by decide) ?_
      exact j_iret C dX11_late_36
set_option maxRecDepth 20000 in
set_option maxHeartbeats 4000000 in
theorem CX11_wait (l : Launch) (M : Mc) (hD : Dj M) (v0 : Nat) (h0 : isK v0 11) (v1 : Int32) (v2 : Int32) (v3 : Int32) (σ : Sg) : Ct l M yX11_wait cX11_wait 4 (some .int) { frames := 2, cells := 0, slots := 0, locals := 48 } vI [.ref (adr M v0), .int v1, .int v2, .int v3] σ (fX11_wait v0 v1 v2 v3 σ) := by
  refine ct_of (l := l) hD (by decide) (Nat.le_of_ble_eq_true rfl) ?_
  intro p e s m args below meth c C
  unfold fX11_wait
  refine j_aload_n C dX11_wait_0 rfl ?_
  refine j_iload_n C dX11_wait_1 rfl ?_
  refine j_callVI C (As := [.int v1]) dX11_wait_2 (CX11_isTrain l M hD v0 h0 v1 σ) vv_RX11_133 h0 (by decide) rfl rfl ⟨rfl, rfl⟩ (by decide) (Nat.le_of_ble_eq_true rfl) ⟨Nat.zero_le _, Nat.zero_le _⟩ (fun r_2 s_2 => ?_)
  refine j_if_eq C (tgt := 39) dX11_wait_5 (by decide) ?_ ?_
  · refine j_aload_n C dX11_wait_39 rfl ?_
    refine j_ldc C dX11_wait_40 lc_RX11_118 ?_
    refine j_callVI C (As := [.int ((-100001 : Int32))]) dX11_wait_42 (CX11_finds l M hD v0 h0 (-100001 : Int32) s_2) vv_RX11_101 h0 (by decide) rfl rfl ⟨rfl, rfl⟩ (by decide) (Nat.le_of_ble_eq_true rfl) ⟨Nat.zero_le _, Nat.zero_le _⟩ (fun r_42 s_42 => ?_)
    exact j_iret C dX11_wait_45
  · refine j_aload_n C dX11_wait_8 rfl ?_
    refine j_iload_n C dX11_wait_9 rfl ?_
    refine j_callVI C (As := [.int v2]) dX11_wait_10 (CX11_isStation l M hD v0 h0 v2 s_2) vv_RX11_127 h0 (by decide) rfl rfl ⟨rfl, rfl⟩ (by decide) (Nat.le_of_ble_eq_true rfl) ⟨Nat.zero_le _, Nat.zero_le _⟩ (fun r_10 s_10 => ?_)
    refine j_if_eq C (tgt := 39) dX11_wait_13 (by decide) ?_ ?_
    · refine j_aload_n C dX11_wait_39 rfl ?_
      refine j_ldc C dX11_wait_40 lc_RX11_118 ?_
      refine j_callVI C (As := [.int ((-100001 : Int32))]) dX11_wait_42 (CX11_finds l M hD v0 h0 (-100001 : Int32) s_10) vv_RX11_101 h0 (by decide) rfl rfl ⟨rfl, rfl⟩ (by decide) (Nat.le_of_ble_eq_true rfl) ⟨Nat.zero_le _, Nat.zero_le _⟩ (fun r_42 s_42 => ?_)
      exact j_iret C dX11_wait_45
    · refine j_iload_n C dX11_wait_16 rfl ?_
      refine j_iconst C (v := (0 : Int32)) dX11_wait_17 (by decide) ?_
      refine j_sipush C (v := (400 : Int32)) dX11_wait_18 (by decide) ?_
      refine j_callSI C (As := [.int v3, .int ((0 : Int32)), .int ((400 : Int32))]) dX11_wait_21 (CX11_in l M hD v3 (0 : Int32) (400 : Int32) s_10) vs_RX11_108 rfl rfl ⟨rfl, rfl⟩ (by decide) (Nat.le_of_ble_eq_true rfl) ⟨Nat.zero_le _, Nat.zero_le _⟩ (fun r_21 s_21 => ?_)
      refine j_if_eq C (tgt := 39) dX11_wait_24 (by decide) ?_ ?_
      · refine j_aload_n C dX11_wait_39 rfl ?_
        refine j_ldc C dX11_wait_40 lc_RX11_118 ?_
        refine j_callVI C (As := [.int ((-100001 : Int32))]) dX11_wait_42 (CX11_finds l M hD v0 h0 (-100001 : Int32) s_21) vv_RX11_101 h0 (by decide) rfl rfl ⟨rfl, rfl⟩ (by decide) (Nat.le_of_ble_eq_true rfl) ⟨Nat.zero_le _, Nat.zero_le _⟩ (fun r_42 s_42 => ?_)
        exact j_iret C dX11_wait_45
      · refine j_aload_n C dX11_wait_27 rfl ?_
        refine j_iconst C (v := (2 : Int32)) dX11_wait_28 (by decide) ?_
        refine j_iload_n C dX11_wait_29 rfl ?_
        refine j_iconst C (v := (-1 : Int32)) dX11_wait_30 (by decide) ?_
        refine j_iload_n C dX11_wait_31 rfl ?_
        refine j_iload_n C dX11_wait_32 rfl ?_
        refine j_callVI C (As := [.int ((2 : Int32)), .int v1, .int ((-1 : Int32)), .int v2, .int v3]) dX11_wait_33 (CX11_ordered l M hD v0 h0 (2 : Int32) v1 (-1 : Int32) v2 v3 s_21) vv_RX11_162 h0 (by decide) rfl rfl ⟨rfl, rfl⟩ (by decide) (Nat.le_of_ble_eq_true rfl) ⟨Nat.zero_le _, Nat.zero_le _⟩ (fun r_33 s_33 => ?_)
        refine j_goto C (tgt := 45) dX11_wait_36 (by decide) ?_
        exact j_iret C dX11_wait_45
set_option maxRecDepth 20000 in
set_option maxHeartbeats 4000000 in
theorem CX11_run (l : Launch) (M : Mc) (hD : Dj M) (v0 : Nat) (h0 : isK v0 11) (v1 : Int32) (v2 : Int32) (σ : Sg) : Ct l M yX11_run cX11_run 3 (some .int) { frames := 2, cells := 0, slots := 0, locals := 48 } vI [.ref (adr M v0), .int v1, .int v2] σ (fX11_run v0 v1 v2 σ) := by
  refine ct_of (l := l) hD (by decide) (Nat.le_of_ble_eq_true rfl) ?_
  intro p e s m args below meth c C
  unfold fX11_run
  refine j_aload_n C dX11_run_0 rfl ?_
  refine j_iload_n C dX11_run_1 rfl ?_
  refine j_callVI C (As := [.int v1]) dX11_run_2 (CX11_isTrain l M hD v0 h0 v1 σ) vv_RX11_133 h0 (by decide) rfl rfl ⟨rfl, rfl⟩ (by decide) (Nat.le_of_ble_eq_true rfl) ⟨Nat.zero_le _, Nat.zero_le _⟩ (fun r_2 s_2 => ?_)
  refine j_if_eq C (tgt := 31) dX11_run_5 (by decide) ?_ ?_
  · refine j_aload_n C dX11_run_31 rfl ?_
    refine j_ldc C dX11_run_32 lc_RX11_118 ?_
    refine j_callVI C (As := [.int ((-100001 : Int32))]) dX11_run_34 (CX11_finds l M hD v0 h0 (-100001 : Int32) s_2) vv_RX11_101 h0 (by decide) rfl rfl ⟨rfl, rfl⟩ (by decide) (Nat.le_of_ble_eq_true rfl) ⟨Nat.zero_le _, Nat.zero_le _⟩ (fun r_34 s_34 => ?_)
    exact j_iret C dX11_run_37
  · refine j_iload_n C dX11_run_8 rfl ?_
    refine j_iconst C (v := (0 : Int32)) dX11_run_9 (by decide) ?_
    refine j_sipush C (v := (400 : Int32)) dX11_run_10 (by decide) ?_
    refine j_callSI C (As := [.int v2, .int ((0 : Int32)), .int ((400 : Int32))]) dX11_run_13 (CX11_in l M hD v2 (0 : Int32) (400 : Int32) s_2) vs_RX11_108 rfl rfl ⟨rfl, rfl⟩ (by decide) (Nat.le_of_ble_eq_true rfl) ⟨Nat.zero_le _, Nat.zero_le _⟩ (fun r_13 s_13 => ?_)
    refine j_if_eq C (tgt := 31) dX11_run_16 (by decide) ?_ ?_
    · refine j_aload_n C dX11_run_31 rfl ?_
      refine j_ldc C dX11_run_32 lc_RX11_118 ?_
      refine j_callVI C (As := [.int ((-100001 : Int32))]) dX11_run_34 (CX11_finds l M hD v0 h0 (-100001 : Int32) s_13) vv_RX11_101 h0 (by decide) rfl rfl ⟨rfl, rfl⟩ (by decide) (Nat.le_of_ble_eq_true rfl) ⟨Nat.zero_le _, Nat.zero_le _⟩ (fun r_34 s_34 => ?_)
      exact j_iret C dX11_run_37
    · refine j_aload_n C dX11_run_19 rfl ?_
      refine j_iconst C (v := (3 : Int32)) dX11_run_20 (by decide) ?_
      refine j_iload_n C dX11_run_21 rfl ?_
      refine j_iconst C (v := (-1 : Int32)) dX11_run_22 (by decide) ?_
      refine j_iconst C (v := (-1 : Int32)) dX11_run_23 (by decide) ?_
      refine j_iload_n C dX11_run_24 rfl ?_
      refine j_callVI C (As := [.int ((3 : Int32)), .int v1, .int ((-1 : Int32)), .int ((-1 : Int32)), .int v2]) dX11_run_25 (CX11_ordered l M hD v0 h0 (3 : Int32) v1 (-1 : Int32) (-1 : Int32) v2 s_13) vv_RX11_162 h0 (by decide) rfl rfl ⟨rfl, rfl⟩ (by decide) (Nat.le_of_ble_eq_true rfl) ⟨Nat.zero_le _, Nat.zero_le _⟩ (fun r_25 s_25 => ?_)
      refine j_goto C (tgt := 37) dX11_run_28 (by decide) ?_
      exact j_iret C dX11_run_37
set_option maxRecDepth 20000 in
set_option maxHeartbeats 4000000 in
theorem CX11_annul (l : Launch) (M : Mc) (hD : Dj M) (v0 : Nat) (h0 : isK v0 11) (v1 : Int32) (σ : Sg) : Ct l M yX11_annul cX11_annul 2 (some .int) { frames := 2, cells := 0, slots := 0, locals := 48 } vI [.ref (adr M v0), .int v1] σ (fX11_annul v0 v1 σ) := by
  refine ct_of (l := l) hD (by decide) (Nat.le_of_ble_eq_true rfl) ?_
  intro p e s m args below meth c C
  unfold fX11_annul
  refine j_aload_n C dX11_annul_0 rfl ?_
  refine j_iload_n C dX11_annul_1 rfl ?_
  refine j_callVI C (As := [.int v1]) dX11_annul_2 (CX11_isOrder l M hD v0 h0 v1 σ) vv_RX11_166 h0 (by decide) rfl rfl ⟨rfl, rfl⟩ (by decide) (Nat.le_of_ble_eq_true rfl) ⟨Nat.zero_le _, Nat.zero_le _⟩ (fun r_2 s_2 => ?_)
  refine j_if_eq C (tgt := 20) dX11_annul_5 (by decide) ?_ ?_
  · refine j_aload_n C dX11_annul_20 rfl ?_
    refine j_ldc C dX11_annul_21 lc_RX11_118 ?_
    refine j_callVI C (As := [.int ((-100001 : Int32))]) dX11_annul_23 (CX11_finds l M hD v0 h0 (-100001 : Int32) s_2) vv_RX11_101 h0 (by decide) rfl rfl ⟨rfl, rfl⟩ (by decide) (Nat.le_of_ble_eq_true rfl) ⟨Nat.zero_le _, Nat.zero_le _⟩ (fun r_23 s_23 => ?_)
    exact j_iret C dX11_annul_26
  · refine j_aload_n C dX11_annul_8 rfl ?_
    refine j_iconst C (v := (4 : Int32)) dX11_annul_9 (by decide) ?_
    refine j_iload_n C dX11_annul_10 rfl ?_
    refine j_iconst C (v := (-1 : Int32)) dX11_annul_11 (by decide) ?_
    refine j_iconst C (v := (-1 : Int32)) dX11_annul_12 (by decide) ?_
    refine j_iconst C (v := (0 : Int32)) dX11_annul_13 (by decide) ?_
    refine j_callVI C (As := [.int ((4 : Int32)), .int v1, .int ((-1 : Int32)), .int ((-1 : Int32)), .int ((0 : Int32))]) dX11_annul_14 (CX11_ordered l M hD v0 h0 (4 : Int32) v1 (-1 : Int32) (-1 : Int32) (0 : Int32) s_2) vv_RX11_162 h0 (by decide) rfl rfl ⟨rfl, rfl⟩ (by decide) (Nat.le_of_ble_eq_true rfl) ⟨Nat.zero_le _, Nat.zero_le _⟩ (fun r_14 s_14 => ?_)
    refine j_goto C (tgt := 26) dX11_annul_17 (by decide) ?_
    exact j_iret C dX11_annul_26
set_option maxRecDepth 20000 in
set_option maxHeartbeats 4000000 in
theorem CX11_hand (l : Launch) (M : Mc) (hD : Dj M) (v0 : Nat) (h0 : isK v0 11) (v1 : Int32) (v2 : Int32) (v3 : Int32) (σ : Sg) : Ct l M yX11_hand cX11_hand 5 (some .int) { frames := 2, cells := 0, slots := 0, locals := 44 } vI [.ref (adr M v0), .int v1, .int v2, .int v3] σ (fX11_hand v0 v1 v2 v3 σ) := by
  refine ct_of (l := l) hD (by decide) (Nat.le_of_ble_eq_true rfl) ?_
  intro p e s m args below meth c C
  unfold fX11_hand
  refine j_aload_n C dX11_hand_0 rfl ?_
  refine j_iload_n C dX11_hand_1 rfl ?_
  refine j_callVI C (As := [.int v1]) dX11_hand_2 (CX11_isOrder l M hD v0 h0 v1 σ) vv_RX11_166 h0 (by decide) rfl rfl ⟨rfl, rfl⟩ (by decide) (Nat.le_of_ble_eq_true rfl) ⟨Nat.zero_le _, Nat.zero_le _⟩ (fun r_2 s_2 => ?_)
  refine j_if_eq C (tgt := 27) dX11_hand_5 (by decide) ?_ ?_
  · refine j_aload_n C dX11_hand_27 rfl ?_
    refine j_ldc C dX11_hand_28 lc_RX11_118 ?_
    refine j_callVI C (As := [.int ((-100001 : Int32))]) dX11_hand_30 (CX11_finds l M hD v0 h0 (-100001 : Int32) s_2) vv_RX11_101 h0 (by decide) rfl rfl ⟨rfl, rfl⟩ (by decide) (Nat.le_of_ble_eq_true rfl) ⟨Nat.zero_le _, Nat.zero_le _⟩ (fun r_30 s_30 => ?_)
    exact j_iret C dX11_hand_33
  · refine j_aload_n C dX11_hand_8 rfl ?_
    refine j_iload_n C dX11_hand_9 rfl ?_
    refine j_callVI C (As := [.int v2]) dX11_hand_10 (CX11_isTrain l M hD v0 h0 v2 s_2) vv_RX11_133 h0 (by decide) rfl rfl ⟨rfl, rfl⟩ (by decide) (Nat.le_of_ble_eq_true rfl) ⟨Nat.zero_le _, Nat.zero_le _⟩ (fun r_10 s_10 => ?_)
    refine j_if_eq C (tgt := 27) dX11_hand_13 (by decide) ?_ ?_
    · refine j_aload_n C dX11_hand_27 rfl ?_
      refine j_ldc C dX11_hand_28 lc_RX11_118 ?_
      refine j_callVI C (As := [.int ((-100001 : Int32))]) dX11_hand_30 (CX11_finds l M hD v0 h0 (-100001 : Int32) s_10) vv_RX11_101 h0 (by decide) rfl rfl ⟨rfl, rfl⟩ (by decide) (Nat.le_of_ble_eq_true rfl) ⟨Nat.zero_le _, Nat.zero_le _⟩ (fun r_30 s_30 => ?_)
      exact j_iret C dX11_hand_33
    · refine j_iload_n C dX11_hand_16 rfl ?_
      refine j_iconst C (v := (0 : Int32)) dX11_hand_17 (by decide) ?_
      refine j_sipush C (v := (400 : Int32)) dX11_hand_18 (by decide) ?_
      refine j_callSI C (As := [.int v3, .int ((0 : Int32)), .int ((400 : Int32))]) dX11_hand_21 (CX11_in l M hD v3 (0 : Int32) (400 : Int32) s_10) vs_RX11_108 rfl rfl ⟨rfl, rfl⟩ (by decide) (Nat.le_of_ble_eq_true rfl) ⟨Nat.zero_le _, Nat.zero_le _⟩ (fun r_21 s_21 => ?_)
      refine j_if_ne C (tgt := 34) dX11_hand_24 (by decide) ?_ ?_
      · refine j_aload_n C dX11_hand_34 rfl ?_
        refine j_getR C dX11_hand_35 fl_RX11_7 h0 (by decide) rfl rfl (by decide) (fun h_35 => ?_)
        refine j_bipush C (v := (101 : Int32)) dX11_hand_38 (by decide) ?_
        refine j_iconst C (v := (5 : Int32)) dX11_hand_40 (by decide) ?_
        refine j_iload_n C dX11_hand_41 rfl ?_
        refine j_imul C dX11_hand_42 ?_
        refine j_iadd C dX11_hand_43 ?_
        refine j_iload_n C dX11_hand_44 rfl ?_
        refine j_iadd C dX11_hand_45 ?_
        refine j_iald C dX11_hand_46 h_35 ?_
        refine j_istore C (Ls' := fun v4_47 => [(4, .int v4_47), (0, .ref (adr M v0)), (1, .int v1), (2, .int v2), (3, .int v3)]) dX11_hand_47 (by decide) (fun _ => rfl) (fun v4_47 => ?_)
        refine j_aload_n C dX11_hand_49 rfl ?_
        refine j_bipush C (v := (101 : Int32)) dX11_hand_50 (by decide) ?_
        refine j_iconst C (v := (5 : Int32)) dX11_hand_52 (by decide) ?_
        refine j_iload_n C dX11_hand_53 rfl ?_
        refine j_imul C dX11_hand_54 ?_
        refine j_iadd C dX11_hand_55 ?_
        refine j_iload_n C dX11_hand_56 rfl ?_
        refine j_iadd C dX11_hand_57 ?_
        refine j_iload C dX11_hand_58 rfl ?_
        refine j_if_lt C (tgt := 74) dX11_hand_60 (by decide) ?_ ?_
        · refine j_iload_n C dX11_hand_74 rfl ?_
          refine j_callVI C (As := [.int ((((101 : Int32) + ((5 : Int32) * v1)) + v2)), .int v3]) dX11_hand_75 (CX11_becomes l M hD v0 h0 (((101 : Int32) + ((5 : Int32) * v1)) + v2) v3 s_21) vv_RX11_123 h0 (by decide) rfl rfl ⟨rfl, rfl⟩ (by decide) (Nat.le_of_ble_eq_true rfl) ⟨Nat.zero_le _, Nat.zero_le _⟩ (fun r_75 s_75 => ?_)
          exact j_iret C dX11_hand_78
        · refine j_iload C dX11_hand_63 rfl ?_
          refine j_iload_n C dX11_hand_65 rfl ?_
          refine j_icmp_ge C (tgt := 74) dX11_hand_66 (by decide) ?_ ?_
          · refine j_iload_n C dX11_hand_74 rfl ?_
            refine j_callVI C (As := [.int ((((101 : Int32) + ((5 : Int32) * v1)) + v2)), .int v3]) dX11_hand_75 (CX11_becomes l M hD v0 h0 (((101 : Int32) + ((5 : Int32) * v1)) + v2) v3 s_21) vv_RX11_123 h0 (by decide) rfl rfl ⟨rfl, rfl⟩ (by decide) (Nat.le_of_ble_eq_true rfl) ⟨Nat.zero_le _, Nat.zero_le _⟩ (fun r_75 s_75 => ?_)
            exact j_iret C dX11_hand_78
          · refine j_iload C dX11_hand_69 rfl ?_
            refine j_goto C (tgt := 75) dX11_hand_71 (by decide) ?_
            refine j_callVI C (As := [.int ((((101 : Int32) + ((5 : Int32) * v1)) + v2)), .int v4_47]) dX11_hand_75 (CX11_becomes l M hD v0 h0 (((101 : Int32) + ((5 : Int32) * v1)) + v2) v4_47 s_21) vv_RX11_123 h0 (by decide) rfl rfl ⟨rfl, rfl⟩ (by decide) (Nat.le_of_ble_eq_true rfl) ⟨Nat.zero_le _, Nat.zero_le _⟩ (fun r_75 s_75 => ?_)
            exact j_iret C dX11_hand_78
      · refine j_aload_n C dX11_hand_27 rfl ?_
        refine j_ldc C dX11_hand_28 lc_RX11_118 ?_
        refine j_callVI C (As := [.int ((-100001 : Int32))]) dX11_hand_30 (CX11_finds l M hD v0 h0 (-100001 : Int32) s_21) vv_RX11_101 h0 (by decide) rfl rfl ⟨rfl, rfl⟩ (by decide) (Nat.le_of_ble_eq_true rfl) ⟨Nat.zero_le _, Nat.zero_le _⟩ (fun r_30 s_30 => ?_)
        exact j_iret C dX11_hand_33
set_option maxRecDepth 20000 in
set_option maxHeartbeats 4000000 in
theorem CX11_findHeld (l : Launch) (M : Mc) (hD : Dj M) (v0 : Nat) (h0 : isK v0 11) (v1 : Int32) (v2 : Int32) (σ : Sg) : Ct l M yX11_findHeld cX11_findHeld 7 none { frames := 1, cells := 0, slots := 0, locals := 21 } vV [.ref (adr M v0), .int v1, .int v2] σ (fX11_findHeld v0 v1 v2 σ) := by
  refine ct_of (l := l) hD (by decide) (Nat.le_of_ble_eq_true rfl) ?_
  intro p e s m args below meth c C
  have H10 : ∀  (n : Nat) (v3 : Int32) (τ : Sg), J p l e { frames := 1, cells := 0, slots := 0, locals := 21 } s m args below meth c M 7 vV τ 10 [(0, .ref (adr M v0)), (1, .int v1), (2, .int v2), (3, .int v3)] [] (lq1 (fX11_findHeld_10 v0 v1 v2) n v3 τ) := by
    refine j_lq1 (Ls := fun v3 => [(0, .ref (adr M v0)), (1, .int v1), (2, .int v2), (3, .int v3)]) (st := fun _ => []) ?_
    intro k10 hk10 v3 σ
    have H52 : ∀ (v3 : Int32) (n : Nat) (v5 : Int32) (v6 : Int32) (τ : Sg), J p l e { frames := 1, cells := 0, slots := 0, locals := 21 } s m args below meth c M 7 vV τ 52 [(0, .ref (adr M v0)), (1, .int v1), (2, .int v2), (3, .int v3), (5, .int v5), (6, .int v6)] [] (lq2 (fX11_findHeld_52 v0 v1 v2 v3 k10) n v5 v6 τ) := by
      intro v3
      refine j_lq2 (Ls := fun v5 v6 => [(0, .ref (adr M v0)), (1, .int v1), (2, .int v2), (3, .int v3), (5, .int v5), (6, .int v6)]) (st := fun _ _ => []) ?_
      intro k52 hk52 v5 v6 σ
      have H104 : ∀ (v6 : Int32) (w0 : Int32) (τ : Sg), J p l e { frames := 1, cells := 0, slots := 0, locals := 21 } s m args below meth c M 7 vV τ 104 [(0, .ref (adr M v0)), (1, .int v1), (2, .int v2), (3, .int v3), (6, .int v6)] [.int w0] (fX11_findHeld_104 v0 v1 v2 v3 v6 w0 k10 k52 τ) := by
        intro v6 w0 σ
        unfold fX11_findHeld_104
        refine j_istore C (Ls' := fun v5_104 => [(5, .int v5_104), (0, .ref (adr M v0)), (1, .int v1), (2, .int v2), (3, .int v3), (6, .int v6)]) dX11_findHeld_104 (by decide) (fun _ => rfl) (fun v5_104 => ?_)
        refine j_iinc C (v := (1 : Int32)) (Ls' := fun v6_106 => [(6, .int v6_106), (5, .int v5_104), (0, .ref (adr M v0)), (1, .int v1), (2, .int v2), (3, .int v3)]) dX11_findHeld_106 5 rfl (by decide) (by decide) (fun _ => rfl) (fun v6_106 => ?_)
        refine j_goto C (tgt := 52) dX11_findHeld_109 (by decide) ?_
        refine j_sub (Ls' := [(0, .ref (adr M v0)), (1, .int v1), (2, .int v2), (3, .int v3), (5, .int v5_104), (6, .int v6_106)]) [2, 3, 4, 5, 1, 0] rfl ?_
        exact hk52 v5_104 v6_106 σ
      have H99 : ∀ (v6 : Int32) (τ : Sg), J p l e { frames := 1, cells := 0, slots := 0, locals := 21 } s m args below meth c M 7 vV τ 99 [(0, .ref (adr M v0)), (1, .int v1), (2, .int v2), (3, .int v3), (6, .int v6)] [] (fX11_findHeld_99 v0 v1 v2 v3 v6 k10 k52 τ) := by
        intro v6 σ
        unfold fX11_findHeld_99
        refine j_iconst C (v := (1 : Int32)) dX11_findHeld_99 (by decide) ?_
        refine j_goto C (tgt := 104) dX11_findHeld_100 (by decide) ?_
        exact H104 v6 (1 : Int32) σ
      have H103 : ∀ (v6 : Int32) (τ : Sg), J p l e { frames := 1, cells := 0, slots := 0, locals := 21 } s m args below meth c M 7 vV τ 103 [(0, .ref (adr M v0)), (1, .int v1), (2, .int v2), (3, .int v3), (6, .int v6)] [] (fX11_findHeld_103 v0 v1 v2 v3 v6 k10 k52 τ) := by
        intro v6 σ
        unfold fX11_findHeld_103
        refine j_iconst C (v := (0 : Int32)) dX11_findHeld_103 (by decide) ?_
        exact H104 v6 (0 : Int32) σ
      unfold fX11_findHeld_52
      refine j_iload C dX11_findHeld_52 rfl ?_
      refine j_aload_n C dX11_findHeld_54 rfl ?_
      refine j_getR C dX11_findHeld_55 fl_RX11_7 h0 (by decide) rfl rfl (by decide) (fun h_55 => ?_)
      refine j_bipush C (v := (40 : Int32)) dX11_findHeld_58 (by decide) ?_
      refine j_iald C dX11_findHeld_60 h_55 ?_
      refine j_icmp_ge C (tgt := 112) dX11_findHeld_61 (by decide) ?_ ?_
      · refine j_aload_n C dX11_findHeld_112 rfl ?_
        refine j_getR C dX11_findHeld_113 fl_RX11_28 h0 (by decide) rfl rfl (by decide) (fun h_113 => ?_)
        refine j_iload_n C dX11_findHeld_116 rfl ?_
        refine j_iload C dX11_findHeld_117 rfl ?_
        refine j_zast C dX11_findHeld_119 h_113 (fun s_119 => ?_)
        refine j_iinc C (v := (-1 : Int32)) (Ls' := fun v3_120 => [(3, .int v3_120), (0, .ref (adr M v0)), (1, .int v1), (2, .int v2), (5, .int v5), (6, .int v6)]) dX11_findHeld_120 3 rfl (by decide) (by decide) (fun _ => rfl) (fun v3_120 => ?_)
        refine j_goto C (tgt := 10) dX11_findHeld_123 (by decide) ?_
        refine j_sub (Ls' := [(0, .ref (adr M v0)), (1, .int v1), (2, .int v2), (3, .int v3_120)]) [1, 2, 3, 0] rfl ?_
        exact hk10 v3_120 s_119
      · refine j_iload C dX11_findHeld_64 rfl ?_
        refine j_if_eq C (tgt := 103) dX11_findHeld_66 (by decide) ?_ ?_
        · refine j_sub (Ls' := [(0, .ref (adr M v0)), (1, .int v1), (2, .int v2), (3, .int v3), (6, .int v6)]) [0, 1, 2, 3, 5] rfl ?_
          exact H103 v6 σ
        · refine j_aload_n C dX11_findHeld_69 rfl ?_
          refine j_getR C dX11_findHeld_70 fl_RX11_28 h0 (by decide) rfl rfl (by decide) (fun h_70 => ?_)
          refine j_iload C dX11_findHeld_73 rfl ?_
          refine j_zald C dX11_findHeld_75 h_70 ?_
          refine j_if_eq C (tgt := 99) dX11_findHeld_76 (by decide) ?_ ?_
          · refine j_sub (Ls' := [(0, .ref (adr M v0)), (1, .int v1), (2, .int v2), (3, .int v3), (6, .int v6)]) [0, 1, 2, 3, 5] rfl ?_
            exact H99 v6 σ
          · refine j_aload_n C dX11_findHeld_79 rfl ?_
            refine j_iload C dX11_findHeld_80 rfl ?_
            refine j_callVI C (As := [.int v6]) dX11_findHeld_82 (CX11_formOf l M hD v0 h0 v6 σ) vv_RX11_169 h0 (by decide) rfl rfl ⟨rfl, rfl⟩ (by decide) (Nat.le_of_ble_eq_true rfl) ⟨Nat.zero_le _, Nat.zero_le _⟩ (fun r_82 s_82 => ?_)
            refine j_iconst C (v := (4 : Int32)) dX11_findHeld_85 (by decide) ?_
            refine j_icmp_ne C (tgt := 99) dX11_findHeld_86 (by decide) ?_ ?_
            · refine j_sub (Ls' := [(0, .ref (adr M v0)), (1, .int v1), (2, .int v2), (3, .int v3), (6, .int v6)]) [0, 1, 2, 3, 5] rfl ?_
              exact H99 v6 s_82
            · refine j_aload_n C dX11_findHeld_89 rfl ?_
              refine j_iload C dX11_findHeld_90 rfl ?_
              refine j_callVI C (As := [.int v6]) dX11_findHeld_92 (CX11_trainOf l M hD v0 h0 v6 s_82) vv_RX11_172 h0 (by decide) rfl rfl ⟨rfl, rfl⟩ (by decide) (Nat.le_of_ble_eq_true rfl) ⟨Nat.zero_le _, Nat.zero_le _⟩ (fun r_92 s_92 => ?_)
              refine j_iload_n C dX11_findHeld_95 rfl ?_
              refine j_icmp_eq C (tgt := 103) dX11_findHeld_96 (by decide) ?_ ?_
              · refine j_sub (Ls' := [(0, .ref (adr M v0)), (1, .int v1), (2, .int v2), (3, .int v3), (6, .int v6)]) [0, 1, 2, 3, 5] rfl ?_
                exact H103 v6 s_92
              · refine j_sub (Ls' := [(0, .ref (adr M v0)), (1, .int v1), (2, .int v2), (3, .int v3), (6, .int v6)]) [0, 1, 2, 3, 5] rfl ?_
                exact H99 v6 s_92
    have H45 : ∀ (v3 : Int32) (w0 : Int32) (τ : Sg), J p l e { frames := 1, cells := 0, slots := 0, locals := 21 } s m args below meth c M 7 vV τ 45 [(0, .ref (adr M v0)), (1, .int v1), (2, .int v2), (3, .int v3)] [.int w0] (fX11_findHeld_45 v0 v1 v2 v3 w0 k10 τ) := by
      intro v3 w0 σ
      unfold fX11_findHeld_45
      refine j_istore C (Ls' := fun v5_45 => [(5, .int v5_45), (0, .ref (adr M v0)), (1, .int v1), (2, .int v2), (3, .int v3)]) dX11_findHeld_45 (by decide) (fun _ => rfl) (fun v5_45 => ?_)
      refine j_iload_n C dX11_findHeld_47 rfl ?_
      refine j_iconst C (v := (1 : Int32)) dX11_findHeld_48 (by decide) ?_
      refine j_iadd C dX11_findHeld_49 ?_
      refine j_istore C (Ls' := fun v6_50 => [(6, .int v6_50), (5, .int v5_45), (0, .ref (adr M v0)), (1, .int v1), (2, .int v2), (3, .int v3)]) dX11_findHeld_50 (by decide) (fun _ => rfl) (fun v6_50 => ?_)
      refine j_sub (Ls' := [(0, .ref (adr M v0)), (1, .int v1), (2, .int v2), (3, .int v3), (5, .int v5_45), (6, .int v6_50)]) [2, 3, 4, 5, 1, 0] rfl ?_
      exact H52 v3 FU v5_45 v6_50 σ
    have H44 : ∀ (v3 : Int32) (τ : Sg), J p l e { frames := 1, cells := 0, slots := 0, locals := 21 } s m args below meth c M 7 vV τ 44 [(0, .ref (adr M v0)), (1, .int v1), (2, .int v2), (3, .int v3)] [] (fX11_findHeld_44 v0 v1 v2 v3 k10 τ) := by
      intro v3 σ
      unfold fX11_findHeld_44
      refine j_iconst C (v := (0 : Int32)) dX11_findHeld_44 (by decide) ?_
      exact H45 v3 (0 : Int32) σ
    unfold fX11_findHeld_10
    refine j_iload_n C dX11_findHeld_10 rfl ?_
    refine j_if_lt C (tgt := 126) dX11_findHeld_11 (by decide) ?_ ?_
    · exact j_vret C dX11_findHeld_126
    · refine j_aload_n C dX11_findHeld_14 rfl ?_
      refine j_getR C dX11_findHeld_15 fl_RX11_7 h0 (by decide) rfl rfl (by decide) (fun h_15 => ?_)
      refine j_bipush C (v := (101 : Int32)) dX11_findHeld_18 (by decide) ?_
      refine j_iconst C (v := (5 : Int32)) dX11_findHeld_20 (by decide) ?_
      refine j_iload_n C dX11_findHeld_21 rfl ?_
      refine j_imul C dX11_findHeld_22 ?_
      refine j_iadd C dX11_findHeld_23 ?_
      refine j_iload_n C dX11_findHeld_24 rfl ?_
      refine j_iadd C dX11_findHeld_25 ?_
      refine j_iald C dX11_findHeld_26 h_15 ?_
      refine j_istore C (Ls' := fun v4_27 => [(4, .int v4_27), (0, .ref (adr M v0)), (1, .int v1), (2, .int v2), (3, .int v3)]) dX11_findHeld_27 (by decide) (fun _ => rfl) (fun v4_27 => ?_)
      refine j_iload C dX11_findHeld_29 rfl ?_
      refine j_if_lt C (tgt := 44) dX11_findHeld_31 (by decide) ?_ ?_
      · refine j_sub (Ls' := [(0, .ref (adr M v0)), (1, .int v1), (2, .int v2), (3, .int v3)]) [1, 2, 3, 4] rfl ?_
        exact H44 v3 σ
      · refine j_iload C dX11_findHeld_34 rfl ?_
        refine j_iload_n C dX11_findHeld_36 rfl ?_
        refine j_icmp_gt C (tgt := 44) dX11_findHeld_37 (by decide) ?_ ?_
        · refine j_sub (Ls' := [(0, .ref (adr M v0)), (1, .int v1), (2, .int v2), (3, .int v3)]) [1, 2, 3, 4] rfl ?_
          exact H44 v3 σ
        · refine j_iconst C (v := (1 : Int32)) dX11_findHeld_40 (by decide) ?_
          refine j_goto C (tgt := 45) dX11_findHeld_41 (by decide) ?_
          refine j_sub (Ls' := [(0, .ref (adr M v0)), (1, .int v1), (2, .int v2), (3, .int v3)]) [1, 2, 3, 4] rfl ?_
          exact H45 v3 (1 : Int32) σ
  unfold fX11_findHeld
  refine j_aload_n C dX11_findHeld_0 rfl ?_
  refine j_getR C dX11_findHeld_1 fl_RX11_7 h0 (by decide) rfl rfl (by decide) (fun h_1 => ?_)
  refine j_bipush C (v := (40 : Int32)) dX11_findHeld_4 (by decide) ?_
  refine j_iald C dX11_findHeld_6 h_1 ?_
  refine j_iconst C (v := (1 : Int32)) dX11_findHeld_7 (by decide) ?_
  refine j_isub C dX11_findHeld_8 ?_
  refine j_istore_n C (Ls' := fun v3_9 => [(3, .int v3_9), (0, .ref (adr M v0)), (1, .int v1), (2, .int v2)]) dX11_findHeld_9 (by decide) (fun _ => rfl) (fun v3_9 => ?_)
  refine j_sub (Ls' := [(0, .ref (adr M v0)), (1, .int v1), (2, .int v2), (3, .int v3_9)]) [1, 2, 3, 0] rfl ?_
  exact H10 FU v3_9 σ
