set_option maxRecDepth 20000 in
set_option maxHeartbeats 4000000 in
theorem CX10_run (l : Launch) (M : Mc) (hD : Dj M) (v0 : Nat) (h0 : isK v0 10) (v1 : Int32) (v2 : Int32) (σ : Sg) : Ct l M yX10_run cX10_run 3 (some .int) { frames := 6, cells := 0, slots := 0, locals := 156 } vI [.ref (adr M v0), .int v1, .int v2] σ (fX10_run v0 v1 v2 σ) := by
  refine ct_of (l := l) hD (by decide) (Nat.le_of_ble_eq_true rfl) ?_
  intro p e s m args below meth c C
  unfold fX10_run
  refine j_aload_n C dX10_run_0 rfl ?_
  refine j_getR C dX10_run_1 fl_RX10_27 h0 (by decide) rfl rfl (by decide) (fun h_1 => ?_)
  refine j_getR C dX10_run_4 fl_RX10_91 h_1 (by decide) rfl rfl (by decide) (fun h_4 => ?_)
  refine j_iload_n C dX10_run_7 rfl ?_
  refine j_callVI C (As := [.int v1]) dX10_run_8 (CX9_has l M hD (rf (rf v0 2) 1) h_4 v1 σ) vv_RX10_103 h_4 (by decide) rfl rfl ⟨rfl, rfl⟩ (by decide) (Nat.le_of_ble_eq_true rfl) ⟨Nat.zero_le _, Nat.zero_le _⟩ (fun r_8 s_8 => ?_)
  refine j_if_eq C (tgt := 25) dX10_run_11 (by decide) ?_ ?_
  · refine j_aload_n C dX10_run_25 rfl ?_
    refine j_ldc C dX10_run_26 lc_RX10_50 ?_
    refine j_callVI C (As := [.int ((-100001 : Int32))]) dX10_run_28 (CX10_finding l M hD v0 h0 (-100001 : Int32) s_8) vv_RX10_51 h0 (by decide) rfl rfl ⟨rfl, rfl⟩ (by decide) (Nat.le_of_ble_eq_true rfl) ⟨Nat.zero_le _, Nat.zero_le _⟩ (fun r_28 s_28 => ?_)
    exact j_iret C dX10_run_31
  · refine j_iload_n C dX10_run_14 rfl ?_
    refine j_iconst C (v := (0 : Int32)) dX10_run_15 (by decide) ?_
    refine j_sipush C (v := (400 : Int32)) dX10_run_16 (by decide) ?_
    refine j_callSI C (As := [.int v2, .int ((0 : Int32)), .int ((400 : Int32))]) dX10_run_19 (CX10_isWithin l M hD v2 (0 : Int32) (400 : Int32) s_8) vs_RX10_46 rfl rfl ⟨rfl, rfl⟩ (by decide) (Nat.le_of_ble_eq_true rfl) ⟨Nat.zero_le _, Nat.zero_le _⟩ (fun r_19 s_19 => ?_)
    refine j_if_ne C (tgt := 32) dX10_run_22 (by decide) ?_ ?_
    · refine j_aload_n C dX10_run_32 rfl ?_
      refine j_iconst C (v := (3 : Int32)) dX10_run_33 (by decide) ?_
      refine j_iload_n C dX10_run_34 rfl ?_
      refine j_iconst C (v := (-1 : Int32)) dX10_run_35 (by decide) ?_
      refine j_iconst C (v := (-1 : Int32)) dX10_run_36 (by decide) ?_
      refine j_iload_n C dX10_run_37 rfl ?_
      refine j_callVI C (As := [.int ((3 : Int32)), .int v1, .int ((-1 : Int32)), .int ((-1 : Int32)), .int v2]) dX10_run_38 (CX10_write l M hD v0 h0 (3 : Int32) v1 (-1 : Int32) (-1 : Int32) v2 s_19) vv_RX10_138 h0 (by decide) rfl rfl ⟨rfl, rfl⟩ (by decide) (Nat.le_of_ble_eq_true rfl) ⟨Nat.zero_le _, Nat.zero_le _⟩ (fun r_38 s_38 => ?_)
      exact j_iret C dX10_run_41
    · refine j_aload_n C dX10_run_25 rfl ?_
      refine j_ldc C dX10_run_26 lc_RX10_50 ?_
      refine j_callVI C (As := [.int ((-100001 : Int32))]) dX10_run_28 (CX10_finding l M hD v0 h0 (-100001 : Int32) s_19) vv_RX10_51 h0 (by decide) rfl rfl ⟨rfl, rfl⟩ (by decide) (Nat.le_of_ble_eq_true rfl) ⟨Nat.zero_le _, Nat.zero_le _⟩ (fun r_28 s_28 => ?_)
      exact j_iret C dX10_run_31
set_option maxRecDepth 20000 in
set_option maxHeartbeats 4000000 in
theorem CX5_has (l : Launch) (M : Mc) (hD : Dj M) (v0 : Nat) (h0 : isK v0 5) (v1 : Int32) (σ : Sg) : Ct l M yX5_has cX5_has 2 (some .boolean) { frames := 0, cells := 0, slots := 0, locals := 0 } vI [.ref (adr M v0), .int v1] σ (fX5_has v0 v1 σ) := by
  refine ct_of (l := l) hD (by decide) (Nat.le_of_ble_eq_true rfl) ?_
  intro p e s m args below meth c C
  unfold fX5_has
  refine j_iload_n C dX5_has_0 rfl ?_
  refine j_if_lt C (tgt := 16) dX5_has_1 (by decide) ?_ ?_
  · refine j_iconst C (v := (0 : Int32)) dX5_has_16 (by decide) ?_
    exact j_zret C dX5_has_17
  · refine j_iload_n C dX5_has_4 rfl ?_
    refine j_aload_n C dX5_has_5 rfl ?_
    refine j_getI C dX5_has_6 fl_RX5_9 h0 (by decide) rfl ?_
    refine j_icmp_ge C (tgt := 16) dX5_has_9 (by decide) ?_ ?_
    · refine j_iconst C (v := (0 : Int32)) dX5_has_16 (by decide) ?_
      exact j_zret C dX5_has_17
    · refine j_iconst C (v := (1 : Int32)) dX5_has_12 (by decide) ?_
      refine j_goto C (tgt := 17) dX5_has_13 (by decide) ?_
      exact j_zret C dX5_has_17
set_option maxRecDepth 20000 in
set_option maxHeartbeats 4000000 in
theorem CX10_annul (l : Launch) (M : Mc) (hD : Dj M) (v0 : Nat) (h0 : isK v0 10) (v1 : Int32) (σ : Sg) : Ct l M yX10_annul cX10_annul 2 (some .int) { frames := 6, cells := 0, slots := 0, locals := 156 } vI [.ref (adr M v0), .int v1] σ (fX10_annul v0 v1 σ) := by
  refine ct_of (l := l) hD (by decide) (Nat.le_of_ble_eq_true rfl) ?_
  intro p e s m args below meth c C
  unfold fX10_annul
  refine j_aload_n C dX10_annul_0 rfl ?_
  refine j_getR C dX10_annul_1 fl_RX10_27 h0 (by decide) rfl rfl (by decide) (fun h_1 => ?_)
  refine j_getR C dX10_annul_4 fl_RX10_141 h_1 (by decide) rfl rfl (by decide) (fun h_4 => ?_)
  refine j_iload_n C dX10_annul_7 rfl ?_
  refine j_callVI C (As := [.int v1]) dX10_annul_8 (CX5_has l M hD (rf (rf v0 2) 2) h_4 v1 σ) vv_RX10_145 h_4 (by decide) rfl rfl ⟨rfl, rfl⟩ (by decide) (Nat.le_of_ble_eq_true rfl) ⟨Nat.zero_le _, Nat.zero_le _⟩ (fun r_8 s_8 => ?_)
  refine j_if_ne C (tgt := 21) dX10_annul_11 (by decide) ?_ ?_
  · refine j_aload_n C dX10_annul_21 rfl ?_
    refine j_iconst C (v := (4 : Int32)) dX10_annul_22 (by decide) ?_
    refine j_iload_n C dX10_annul_23 rfl ?_
    refine j_iconst C (v := (-1 : Int32)) dX10_annul_24 (by decide) ?_
    refine j_iconst C (v := (-1 : Int32)) dX10_annul_25 (by decide) ?_
    refine j_iconst C (v := (0 : Int32)) dX10_annul_26 (by decide) ?_
    refine j_callVI C (As := [.int ((4 : Int32)), .int v1, .int ((-1 : Int32)), .int ((-1 : Int32)), .int ((0 : Int32))]) dX10_annul_27 (CX10_write l M hD v0 h0 (4 : Int32) v1 (-1 : Int32) (-1 : Int32) (0 : Int32) s_8) vv_RX10_138 h0 (by decide) rfl rfl ⟨rfl, rfl⟩ (by decide) (Nat.le_of_ble_eq_true rfl) ⟨Nat.zero_le _, Nat.zero_le _⟩ (fun r_27 s_27 => ?_)
    exact j_iret C dX10_annul_30
  · refine j_aload_n C dX10_annul_14 rfl ?_
    refine j_ldc C dX10_annul_15 lc_RX10_50 ?_
    refine j_callVI C (As := [.int ((-100001 : Int32))]) dX10_annul_17 (CX10_finding l M hD v0 h0 (-100001 : Int32) s_8) vv_RX10_51 h0 (by decide) rfl rfl ⟨rfl, rfl⟩ (by decide) (Nat.le_of_ble_eq_true rfl) ⟨Nat.zero_le _, Nat.zero_le _⟩ (fun r_17 s_17 => ?_)
    exact j_iret C dX10_annul_20
set_option maxRecDepth 20000 in
set_option maxHeartbeats 4000000 in
theorem CX5_giveTo (l : Launch) (M : Mc) (hD : Dj M) (v0 : Nat) (h0 : isK v0 5) (v1 : Int32) (v2 : Int32) (v3 : Int32) (σ : Sg) : Ct l M yX5_giveTo cX5_giveTo 6 (some .int) { frames := 0, cells := 0, slots := 0, locals := 0 } vI [.ref (adr M v0), .int v1, .int v2, .int v3] σ (fX5_giveTo v0 v1 v2 v3 σ) := by
  refine ct_of (l := l) hD (by decide) (Nat.le_of_ble_eq_true rfl) ?_
  intro p e s m args below meth c C
  unfold fX5_giveTo
  refine j_iload_n C dX5_giveTo_0 rfl ?_
  refine j_iconst C (v := (5 : Int32)) dX5_giveTo_1 (by decide) ?_
  refine j_imul C dX5_giveTo_2 ?_
  refine j_iload_n C dX5_giveTo_3 rfl ?_
  refine j_iadd C dX5_giveTo_4 ?_
  refine j_istore C (Ls' := fun v4_5 => [(4, .int v4_5), (0, .ref (adr M v0)), (1, .int v1), (2, .int v2), (3, .int v3)]) dX5_giveTo_5 (by decide) (fun _ => rfl) (fun v4_5 => ?_)
  refine j_aload_n C dX5_giveTo_7 rfl ?_
  refine j_getR C dX5_giveTo_8 fl_RX5_31 h0 (by decide) rfl rfl (by decide) (fun h_8 => ?_)
  refine j_iload C dX5_giveTo_11 rfl ?_
  refine j_iald C dX5_giveTo_13 h_8 ?_
  refine j_istore C (Ls' := fun v5_14 => [(5, .int v5_14), (4, .int v4_5), (0, .ref (adr M v0)), (1, .int v1), (2, .int v2), (3, .int v3)]) dX5_giveTo_14 (by decide) (fun _ => rfl) (fun v5_14 => ?_)
  refine j_iload C dX5_giveTo_16 rfl ?_
  refine j_iconst C (v := (-1 : Int32)) dX5_giveTo_18 (by decide) ?_
  refine j_icmp_eq C (tgt := 28) dX5_giveTo_19 (by decide) ?_ ?_
  · refine j_aload_n C dX5_giveTo_28 rfl ?_
    refine j_getR C dX5_giveTo_29 fl_RX5_31 h0 (by decide) rfl rfl (by decide) (fun h_29 => ?_)
    refine j_iload C dX5_giveTo_32 rfl ?_
    refine j_iload_n C dX5_giveTo_34 rfl ?_
    refine j_iast C dX5_giveTo_35 h_29 (fun s_35 => ?_)
    refine j_iload C dX5_giveTo_36 rfl ?_
    exact j_iret C dX5_giveTo_38
  · refine j_iload_n C dX5_giveTo_22 rfl ?_
    refine j_iload C dX5_giveTo_23 rfl ?_
    refine j_icmp_ge C (tgt := 36) dX5_giveTo_25 (by decide) ?_ ?_
    · refine j_iload C dX5_giveTo_36 rfl ?_
      exact j_iret C dX5_giveTo_38
    · refine j_aload_n C dX5_giveTo_28 rfl ?_
      refine j_getR C dX5_giveTo_29 fl_RX5_31 h0 (by decide) rfl rfl (by decide) (fun h_29 => ?_)
      refine j_iload C dX5_giveTo_32 rfl ?_
      refine j_iload_n C dX5_giveTo_34 rfl ?_
      refine j_iast C dX5_giveTo_35 h_29 (fun s_35 => ?_)
      refine j_iload C dX5_giveTo_36 rfl ?_
      exact j_iret C dX5_giveTo_38
set_option maxRecDepth 20000 in
set_option maxHeartbeats 4000000 in
theorem CX10_hand (l : Launch) (M : Mc) (hD : Dj M) (v0 : Nat) (h0 : isK v0 10) (v1 : Int32) (v2 : Int32) (v3 : Int32) (σ : Sg) : Ct l M yX10_hand cX10_hand 4 (some .int) { frames := 5, cells := 0, slots := 0, locals := 131 } vI [.ref (adr M v0), .int v1, .int v2, .int v3] σ (fX10_hand v0 v1 v2 v3 σ) := by
  refine ct_of (l := l) hD (by decide) (Nat.le_of_ble_eq_true rfl) ?_
  intro p e s m args below meth c C
  unfold fX10_hand
  refine j_aload_n C dX10_hand_0 rfl ?_
  refine j_getR C dX10_hand_1 fl_RX10_27 h0 (by decide) rfl rfl (by decide) (fun h_1 => ?_)
  refine j_getR C dX10_hand_4 fl_RX10_141 h_1 (by decide) rfl rfl (by decide) (fun h_4 => ?_)
  refine j_iload_n C dX10_hand_7 rfl ?_
  refine j_callVI C (As := [.int v1]) dX10_hand_8 (CX5_has l M hD (rf (rf v0 2) 2) h_4 v1 σ) vv_RX10_145 h_4 (by decide) rfl rfl ⟨rfl, rfl⟩ (by decide) (Nat.le_of_ble_eq_true rfl) ⟨Nat.zero_le _, Nat.zero_le _⟩ (fun r_8 s_8 => ?_)
  refine j_if_eq C (tgt := 39) dX10_hand_11 (by decide) ?_ ?_
  · refine j_aload_n C dX10_hand_39 rfl ?_
    refine j_ldc C dX10_hand_40 lc_RX10_50 ?_
    refine j_callVI C (As := [.int ((-100001 : Int32))]) dX10_hand_42 (CX10_finding l M hD v0 h0 (-100001 : Int32) s_8) vv_RX10_51 h0 (by decide) rfl rfl ⟨rfl, rfl⟩ (by decide) (Nat.le_of_ble_eq_true rfl) ⟨Nat.zero_le _, Nat.zero_le _⟩ (fun r_42 s_42 => ?_)
    exact j_iret C dX10_hand_45
  · refine j_aload_n C dX10_hand_14 rfl ?_
    refine j_getR C dX10_hand_15 fl_RX10_27 h0 (by decide) rfl rfl (by decide) (fun h_15 => ?_)
    refine j_getR C dX10_hand_18 fl_RX10_91 h_15 (by decide) rfl rfl (by decide) (fun h_18 => ?_)
    refine j_iload_n C dX10_hand_21 rfl ?_
    refine j_callVI C (As := [.int v2]) dX10_hand_22 (CX9_has l M hD (rf (rf v0 2) 1) h_18 v2 s_8) vv_RX10_103 h_18 (by decide) rfl rfl ⟨rfl, rfl⟩ (by decide) (Nat.le_of_ble_eq_true rfl) ⟨Nat.zero_le _, Nat.zero_le _⟩ (fun r_22 s_22 => ?_)
    refine j_if_eq C (tgt := 39) dX10_hand_25 (by decide) ?_ ?_
    · refine j_aload_n C dX10_hand_39 rfl ?_
      refine j_ldc C dX10_hand_40 lc_RX10_50 ?_
      refine j_callVI C (As := [.int ((-100001 : Int32))]) dX10_hand_42 (CX10_finding l M hD v0 h0 (-100001 : Int32) s_22) vv_RX10_51 h0 (by decide) rfl rfl ⟨rfl, rfl⟩ (by decide) (Nat.le_of_ble_eq_true rfl) ⟨Nat.zero_le _, Nat.zero_le _⟩ (fun r_42 s_42 => ?_)
      exact j_iret C dX10_hand_45
    · refine j_iload_n C dX10_hand_28 rfl ?_
      refine j_iconst C (v := (0 : Int32)) dX10_hand_29 (by decide) ?_
      refine j_sipush C (v := (400 : Int32)) dX10_hand_30 (by decide) ?_
      refine j_callSI C (As := [.int v3, .int ((0 : Int32)), .int ((400 : Int32))]) dX10_hand_33 (CX10_isWithin l M hD v3 (0 : Int32) (400 : Int32) s_22) vs_RX10_46 rfl rfl ⟨rfl, rfl⟩ (by decide) (Nat.le_of_ble_eq_true rfl) ⟨Nat.zero_le _, Nat.zero_le _⟩ (fun r_33 s_33 => ?_)
      refine j_if_ne C (tgt := 46) dX10_hand_36 (by decide) ?_ ?_
      · refine j_aload_n C dX10_hand_46 rfl ?_
        refine j_callVv C (As := []) dX10_hand_47 (CX10_keepForUndo l M hD v0 h0 s_33) vv_RX10_62 h0 (by decide) rfl rfl ⟨rfl, rfl⟩ (by decide) (Nat.le_of_ble_eq_true rfl) ⟨Nat.zero_le _, Nat.zero_le _⟩ (fun r_47 s_47 => ?_)
        refine j_aload_n C dX10_hand_50 rfl ?_
        refine j_getR C dX10_hand_51 fl_RX10_27 h0 (by decide) rfl rfl (by decide) (fun h_51 => ?_)
        refine j_getR C dX10_hand_54 fl_RX10_141 h_51 (by decide) rfl rfl (by decide) (fun h_54 => ?_)
        refine j_iload_n C dX10_hand_57 rfl ?_
        refine j_iload_n C dX10_hand_58 rfl ?_
        refine j_iload_n C dX10_hand_59 rfl ?_
        refine j_callVI C (As := [.int v1, .int v2, .int v3]) dX10_hand_60 (CX5_giveTo l M hD (rf (rf v0 2) 2) h_54 v1 v2 v3 s_47) vv_RX10_148 h_54 (by decide) rfl rfl ⟨rfl, rfl⟩ (by decide) (Nat.le_of_ble_eq_true rfl) ⟨Nat.zero_le _, Nat.zero_le _⟩ (fun r_60 s_60 => ?_)
        exact j_iret C dX10_hand_63
      · refine j_aload_n C dX10_hand_39 rfl ?_
        refine j_ldc C dX10_hand_40 lc_RX10_50 ?_
        refine j_callVI C (As := [.int ((-100001 : Int32))]) dX10_hand_42 (CX10_finding l M hD v0 h0 (-100001 : Int32) s_33) vv_RX10_51 h0 (by decide) rfl rfl ⟨rfl, rfl⟩ (by decide) (Nat.le_of_ble_eq_true rfl) ⟨Nat.zero_le _, Nat.zero_le _⟩ (fun r_42 s_42 => ?_)
        exact j_iret C dX10_hand_45
set_option maxRecDepth 20000 in
set_option maxHeartbeats 4000000 in
theorem CX5_heldBy (l : Launch) (M : Mc) (hD : Dj M) (v0 : Nat) (h0 : isK v0 5) (v1 : Int32) (v2 : Int32) (σ : Sg) : Ct l M yX5_heldBy cX5_heldBy 7 (some .int) { frames := 0, cells := 0, slots := 0, locals := 0 } vI [.ref (adr M v0), .int v1, .int v2] σ (fX5_heldBy v0 v1 v2 σ) := by
  refine ct_of (l := l) hD (by decide) (Nat.le_of_ble_eq_true rfl) ?_
  intro p e s m args below meth c C
  have H13 : ∀  (n : Nat) (v3 : Int32) (v4 : Int32) (v5 : Int32) (τ : Sg), J p l e { frames := 0, cells := 0, slots := 0, locals := 0 } s m args below meth c M 7 vI τ 13 [(0, .ref (adr M v0)), (1, .int v1), (2, .int v2), (3, .int v3), (4, .int v4), (5, .int v5)] [] (lq3 (fX5_heldBy_13 v0 v1 v2) n v3 v4 v5 τ) := by
    refine j_lq3 (Ls := fun v3 v4 v5 => [(0, .ref (adr M v0)), (1, .int v1), (2, .int v2), (3, .int v3), (4, .int v4), (5, .int v5)]) (st := fun _ _ _ => []) ?_
    intro k13 hk13 v3 v4 v5 σ
    have H88 : ∀ (v3 : Int32) (v4 : Int32) (v5 : Int32) (τ : Sg), J p l e { frames := 0, cells := 0, slots := 0, locals := 0 } s m args below meth c M 7 vI τ 88 [(0, .ref (adr M v0)), (1, .int v1), (2, .int v2), (3, .int v3), (4, .int v4), (5, .int v5)] [] (fX5_heldBy_88 v0 v1 v2 v3 v4 v5 k13 τ) := by
      intro v3 v4 v5 σ
      unfold fX5_heldBy_88
      refine j_iinc C (v := (-1 : Int32)) (Ls' := fun v5_88 => [(5, .int v5_88), (0, .ref (adr M v0)), (1, .int v1), (2, .int v2), (3, .int v3), (4, .int v4)]) dX5_heldBy_88 5 rfl (by decide) (by decide) (fun _ => rfl) (fun v5_88 => ?_)
      refine j_goto C (tgt := 13) dX5_heldBy_91 (by decide) ?_
      refine j_sub (Ls' := [(0, .ref (adr M v0)), (1, .int v1), (2, .int v2), (3, .int v3), (4, .int v4), (5, .int v5_88)]) [1, 2, 3, 4, 5, 0] rfl ?_
      exact hk13 v3 v4 v5_88 σ
    unfold fX5_heldBy_13
    refine j_iload C dX5_heldBy_13 rfl ?_
    refine j_if_lt C (tgt := 94) dX5_heldBy_15 (by decide) ?_ ?_
    · refine j_iload_n C dX5_heldBy_94 rfl ?_
      exact j_iret C dX5_heldBy_95
    · refine j_aload_n C dX5_heldBy_18 rfl ?_
      refine j_getR C dX5_heldBy_19 fl_RX5_31 h0 (by decide) rfl rfl (by decide) (fun h_19 => ?_)
      refine j_iload C dX5_heldBy_22 rfl ?_
      refine j_iconst C (v := (5 : Int32)) dX5_heldBy_24 (by decide) ?_
      refine j_imul C dX5_heldBy_25 ?_
      refine j_iload_n C dX5_heldBy_26 rfl ?_
      refine j_iadd C dX5_heldBy_27 ?_
      refine j_iald C dX5_heldBy_28 h_19 ?_
      refine j_istore C (Ls' := fun v6_29 => [(6, .int v6_29), (0, .ref (adr M v0)), (1, .int v1), (2, .int v2), (3, .int v3), (4, .int v4), (5, .int v5)]) dX5_heldBy_29 (by decide) (fun _ => rfl) (fun v6_29 => ?_)
      refine j_iload C dX5_heldBy_31 rfl ?_
      refine j_iconst C (v := (-1 : Int32)) dX5_heldBy_33 (by decide) ?_
      refine j_icmp_eq C (tgt := 88) dX5_heldBy_34 (by decide) ?_ ?_
      · refine j_sub (Ls' := [(0, .ref (adr M v0)), (1, .int v1), (2, .int v2), (3, .int v3), (4, .int v4), (5, .int v5)]) [1, 2, 3, 4, 5, 6] rfl ?_
        exact H88 v3 v4 v5 σ
      · refine j_iload C dX5_heldBy_37 rfl ?_
        refine j_iload_n C dX5_heldBy_39 rfl ?_
        refine j_icmp_gt C (tgt := 88) dX5_heldBy_40 (by decide) ?_ ?_
        · refine j_sub (Ls' := [(0, .ref (adr M v0)), (1, .int v1), (2, .int v2), (3, .int v3), (4, .int v4), (5, .int v5)]) [1, 2, 3, 4, 5, 6] rfl ?_
          exact H88 v3 v4 v5 σ
        · refine j_iload C dX5_heldBy_43 rfl ?_
          refine j_iload C dX5_heldBy_45 rfl ?_
          refine j_ishr C dX5_heldBy_47 ?_
          refine j_iconst C (v := (1 : Int32)) dX5_heldBy_48 (by decide) ?_
          refine j_iand C dX5_heldBy_49 ?_
          refine j_if_eq C (tgt := 56) dX5_heldBy_50 (by decide) ?_ ?_
          · refine j_iload_n C dX5_heldBy_56 rfl ?_
            refine j_iconst C (v := (1 : Int32)) dX5_heldBy_57 (by decide) ?_
            refine j_iload C dX5_heldBy_58 rfl ?_
            refine j_ishl C dX5_heldBy_60 ?_
            refine j_ior C dX5_heldBy_61 ?_
            refine j_istore_n C (Ls' := fun v3_62 => [(3, .int v3_62), (6, .int v6_29), (0, .ref (adr M v0)), (1, .int v1), (2, .int v2), (4, .int v4), (5, .int v5)]) dX5_heldBy_62 (by decide) (fun _ => rfl) (fun v3_62 => ?_)
            refine j_aload_n C dX5_heldBy_63 rfl ?_
            refine j_getR C dX5_heldBy_64 fl_RX5_15 h0 (by decide) rfl rfl (by decide) (fun h_64 => ?_)
            refine j_iload C dX5_heldBy_67 rfl ?_
            refine j_iald C dX5_heldBy_69 h_64 ?_
            refine j_iconst C (v := (4 : Int32)) dX5_heldBy_70 (by decide) ?_
            refine j_icmp_ne C (tgt := 88) dX5_heldBy_71 (by decide) ?_ ?_
            · refine j_sub (Ls' := [(0, .ref (adr M v0)), (1, .int v1), (2, .int v2), (3, .int v3_62), (4, .int v4), (5, .int v5)]) [2, 3, 4, 0, 5, 6] rfl ?_
              exact H88 v3_62 v4 v5 σ
            · refine j_iload C dX5_heldBy_74 rfl ?_
              refine j_iconst C (v := (1 : Int32)) dX5_heldBy_76 (by decide) ?_
              refine j_aload_n C dX5_heldBy_77 rfl ?_
              refine j_getR C dX5_heldBy_78 fl_RX5_19 h0 (by decide) rfl rfl (by decide) (fun h_78 => ?_)
              refine j_iload C dX5_heldBy_81 rfl ?_
              refine j_iald C dX5_heldBy_83 h_78 ?_
              refine j_ishl C dX5_heldBy_84 ?_
              refine j_ior C dX5_heldBy_85 ?_
              refine j_istore C (Ls' := fun v4_86 => [(4, .int v4_86), (3, .int v3_62), (6, .int v6_29), (0, .ref (adr M v0)), (1, .int v1), (2, .int v2), (5, .int v5)]) dX5_heldBy_86 (by decide) (fun _ => rfl) (fun v4_86 => ?_)
              refine j_sub (Ls' := [(0, .ref (adr M v0)), (1, .int v1), (2, .int v2), (3, .int v3_62), (4, .int v4_86), (5, .int v5)]) [3, 4, 5, 1, 0, 6] rfl ?_
              exact H88 v3_62 v4_86 v5 σ
          · refine j_goto C (tgt := 88) dX5_heldBy_53 (by decide) ?_
            refine j_sub (Ls' := [(0, .ref (adr M v0)), (1, .int v1), (2, .int v2), (3, .int v3), (4, .int v4), (5, .int v5)]) [1, 2, 3, 4, 5, 6] rfl ?_
            exact H88 v3 v4 v5 σ
  unfold fX5_heldBy
  refine j_iconst C (v := (0 : Int32)) dX5_heldBy_0 (by decide) ?_
  refine j_istore_n C (Ls' := fun v3_1 => [(3, .int v3_1), (0, .ref (adr M v0)), (1, .int v1), (2, .int v2)]) dX5_heldBy_1 (by decide) (fun _ => rfl) (fun v3_1 => ?_)
  refine j_iconst C (v := (0 : Int32)) dX5_heldBy_2 (by decide) ?_
  refine j_istore C (Ls' := fun v4_3 => [(4, .int v4_3), (3, .int v3_1), (0, .ref (adr M v0)), (1, .int v1), (2, .int v2)]) dX5_heldBy_3 (by decide) (fun _ => rfl) (fun v4_3 => ?_)
  refine j_aload_n C dX5_heldBy_5 rfl ?_
  refine j_getI C dX5_heldBy_6 fl_RX5_9 h0 (by decide) rfl ?_
  refine j_iconst C (v := (1 : Int32)) dX5_heldBy_9 (by decide) ?_
  refine j_isub C dX5_heldBy_10 ?_
  refine j_istore C (Ls' := fun v5_11 => [(5, .int v5_11), (4, .int v4_3), (3, .int v3_1), (0, .ref (adr M v0)), (1, .int v1), (2, .int v2)]) dX5_heldBy_11 (by decide) (fun _ => rfl) (fun v5_11 => ?_)
  refine j_sub (Ls' := [(0, .ref (adr M v0)), (1, .int v1), (2, .int v2), (3, .int v3_1), (4, .int v4_3), (5, .int v5_11)]) [3, 4, 5, 2, 1, 0] rfl ?_
  exact H13 FU v3_1 v4_3 v5_11 σ
set_option maxRecDepth 20000 in
set_option maxHeartbeats 4000000 in
theorem CX10_holds (l : Launch) (M : Mc) (hD : Dj M) (v0 : Nat) (h0 : isK v0 10) (v1 : Int32) (v2 : Int32) (v3 : Int32) (σ : Sg) : Ct l M yX10_holds cX10_holds 4 (some .int) { frames := 1, cells := 0, slots := 0, locals := 26 } vI [.ref (adr M v0), .int v1, .int v2, .int v3] σ (fX10_holds v0 v1 v2 v3 σ) := by
  refine ct_of (l := l) hD (by decide) (Nat.le_of_ble_eq_true rfl) ?_
  intro p e s m args below meth c C
  unfold fX10_holds
  refine j_aload_n C dX10_holds_0 rfl ?_
  refine j_getR C dX10_holds_1 fl_RX10_27 h0 (by decide) rfl rfl (by decide) (fun h_1 => ?_)
  refine j_getR C dX10_holds_4 fl_RX10_91 h_1 (by decide) rfl rfl (by decide) (fun h_4 => ?_)
  refine j_iload_n C dX10_holds_7 rfl ?_
  refine j_callVI C (As := [.int v1]) dX10_holds_8 (CX9_has l M hD (rf (rf v0 2) 1) h_4 v1 σ) vv_RX10_103 h_4 (by decide) rfl rfl ⟨rfl, rfl⟩ (by decide) (Nat.le_of_ble_eq_true rfl) ⟨Nat.zero_le _, Nat.zero_le _⟩ (fun r_8 s_8 => ?_)
  refine j_if_eq C (tgt := 39) dX10_holds_11 (by decide) ?_ ?_
  · refine j_aload_n C dX10_holds_39 rfl ?_
    refine j_ldc C dX10_holds_40 lc_RX10_50 ?_
    refine j_callVI C (As := [.int ((-100001 : Int32))]) dX10_holds_42 (CX10_finding l M hD v0 h0 (-100001 : Int32) s_8) vv_RX10_51 h0 (by decide) rfl rfl ⟨rfl, rfl⟩ (by decide) (Nat.le_of_ble_eq_true rfl) ⟨Nat.zero_le _, Nat.zero_le _⟩ (fun r_42 s_42 => ?_)
    exact j_iret C dX10_holds_45
  · refine j_aload_n C dX10_holds_14 rfl ?_
    refine j_getR C dX10_holds_15 fl_RX10_27 h0 (by decide) rfl rfl (by decide) (fun h_15 => ?_)
    refine j_getR C dX10_holds_18 fl_RX10_141 h_15 (by decide) rfl rfl (by decide) (fun h_18 => ?_)
    refine j_iload_n C dX10_holds_21 rfl ?_
    refine j_callVI C (As := [.int v2]) dX10_holds_22 (CX5_has l M hD (rf (rf v0 2) 2) h_18 v2 s_8) vv_RX10_145 h_18 (by decide) rfl rfl ⟨rfl, rfl⟩ (by decide) (Nat.le_of_ble_eq_true rfl) ⟨Nat.zero_le _, Nat.zero_le _⟩ (fun r_22 s_22 => ?_)
    refine j_if_eq C (tgt := 39) dX10_holds_25 (by decide) ?_ ?_
    · refine j_aload_n C dX10_holds_39 rfl ?_
      refine j_ldc C dX10_holds_40 lc_RX10_50 ?_
      refine j_callVI C (As := [.int ((-100001 : Int32))]) dX10_holds_42 (CX10_finding l M hD v0 h0 (-100001 : Int32) s_22) vv_RX10_51 h0 (by decide) rfl rfl ⟨rfl, rfl⟩ (by decide) (Nat.le_of_ble_eq_true rfl) ⟨Nat.zero_le _, Nat.zero_le _⟩ (fun r_42 s_42 => ?_)
      exact j_iret C dX10_holds_45
    · refine j_iload_n C dX10_holds_28 rfl ?_
      refine j_iconst C (v := (0 : Int32)) dX10_holds_29 (by decide) ?_
      refine j_sipush C (v := (500 : Int32)) dX10_holds_30 (by decide) ?_
      refine j_callSI C (As := [.int v3, .int ((0 : Int32)), .int ((500 : Int32))]) dX10_holds_33 (CX10_isWithin l M hD v3 (0 : Int32) (500 : Int32) s_22) vs_RX10_46 rfl rfl ⟨rfl, rfl⟩ (by decide) (Nat.le_of_ble_eq_true rfl) ⟨Nat.zero_le _, Nat.zero_le _⟩ (fun r_33 s_33 => ?_)
      refine j_if_ne C (tgt := 46) dX10_holds_36 (by decide) ?_ ?_
      · refine j_aload_n C dX10_holds_46 rfl ?_
        refine j_getR C dX10_holds_47 fl_RX10_27 h0 (by decide) rfl rfl (by decide) (fun h_47 => ?_)
        refine j_getR C dX10_holds_50 fl_RX10_141 h_47 (by decide) rfl rfl (by decide) (fun h_50 => ?_)
        refine j_iload_n C dX10_holds_53 rfl ?_
        refine j_iload_n C dX10_holds_54 rfl ?_
        refine j_callVI C (As := [.int v1, .int v3]) dX10_holds_55 (CX5_heldBy l M hD (rf (rf v0 2) 2) h_50 v1 v3 s_33) vv_RX10_151 h_50 (by decide) rfl rfl ⟨rfl, rfl⟩ (by decide) (Nat.le_of_ble_eq_true rfl) ⟨Nat.zero_le _, Nat.zero_le _⟩ (fun r_55 s_55 => ?_)
        refine j_iload_n C dX10_holds_58 rfl ?_
        refine j_ishr C dX10_holds_59 ?_
        refine j_iconst C (v := (1 : Int32)) dX10_holds_60 (by decide) ?_
        refine j_iand C dX10_holds_61 ?_
        exact j_iret C dX10_holds_62
      · refine j_aload_n C dX10_holds_39 rfl ?_
        refine j_ldc C dX10_holds_40 lc_RX10_50 ?_
        refine j_callVI C (As := [.int ((-100001 : Int32))]) dX10_holds_42 (CX10_finding l M hD v0 h0 (-100001 : Int32) s_33) vv_RX10_51 h0 (by decide) rfl rfl ⟨rfl, rfl⟩ (by decide) (Nat.le_of_ble_eq_true rfl) ⟨Nat.zero_le _, Nat.zero_le _⟩ (fun r_42 s_42 => ?_)
        exact j_iret C dX10_holds_45
set_option maxRecDepth 20000 in
set_option maxHeartbeats 4000000 in
theorem CX5_handedTo (l : Launch) (M : Mc) (hD : Dj M) (v0 : Nat) (h0 : isK v0 5) (v1 : Int32) (σ : Sg) : Ct l M yX5_handedTo cX5_handedTo 4 (some .int) { frames := 0, cells := 0, slots := 0, locals := 0 } vI [.ref (adr M v0), .int v1] σ (fX5_handedTo v0 v1 σ) := by
  refine ct_of (l := l) hD (by decide) (Nat.le_of_ble_eq_true rfl) ?_
  intro p e s m args below meth c C
  have H4 : ∀  (n : Nat) (v2 : Int32) (v3 : Int32) (τ : Sg), J p l e { frames := 0, cells := 0, slots := 0, locals := 0 } s m args below meth c M 4 vI τ 4 [(0, .ref (adr M v0)), (1, .int v1), (2, .int v2), (3, .int v3)] [] (lq2 (fX5_handedTo_4 v0 v1) n v2 v3 τ) := by
    refine j_lq2 (Ls := fun v2 v3 => [(0, .ref (adr M v0)), (1, .int v1), (2, .int v2), (3, .int v3)]) (st := fun _ _ => []) ?_
    intro k4 hk4 v2 v3 σ
    have H29 : ∀ (v2 : Int32) (v3 : Int32) (τ : Sg), J p l e { frames := 0, cells := 0, slots := 0, locals := 0 } s m args below meth c M 4 vI τ 29 [(0, .ref (adr M v0)), (1, .int v1), (2, .int v2), (3, .int v3)] [] (fX5_handedTo_29 v0 v1 v2 v3 k4 τ) := by
      intro v2 v3 σ
      unfold fX5_handedTo_29
      refine j_iinc C (v := (1 : Int32)) (Ls' := fun v3_29 => [(3, .int v3_29), (0, .ref (adr M v0)), (1, .int v1), (2, .int v2)]) dX5_handedTo_29 3 rfl (by decide) (by decide) (fun _ => rfl) (fun v3_29 => ?_)
      refine j_goto C (tgt := 4) dX5_handedTo_32 (by decide) ?_
      refine j_sub (Ls' := [(0, .ref (adr M v0)), (1, .int v1), (2, .int v2), (3, .int v3_29)]) [1, 2, 3, 0] rfl ?_
      exact hk4 v2 v3_29 σ
    unfold fX5_handedTo_4
    refine j_iload_n C dX5_handedTo_4 rfl ?_
    refine j_iconst C (v := (5 : Int32)) dX5_handedTo_5 (by decide) ?_
    refine j_icmp_ge C (tgt := 35) dX5_handedTo_6 (by decide) ?_ ?_
    · refine j_iload_n C dX5_handedTo_35 rfl ?_
      exact j_iret C dX5_handedTo_36
    · refine j_aload_n C dX5_handedTo_9 rfl ?_
      refine j_getR C dX5_handedTo_10 fl_RX5_31 h0 (by decide) rfl rfl (by decide) (fun h_10 => ?_)
      refine j_iload_n C dX5_handedTo_13 rfl ?_
      refine j_iconst C (v := (5 : Int32)) dX5_handedTo_14 (by decide) ?_
      refine j_imul C dX5_handedTo_15 ?_
      refine j_iload_n C dX5_handedTo_16 rfl ?_
      refine j_iadd C dX5_handedTo_17 ?_
      refine j_iald C dX5_handedTo_18 h_10 ?_
      refine j_iconst C (v := (-1 : Int32)) dX5_handedTo_19 (by decide) ?_
      refine j_icmp_eq C (tgt := 29) dX5_handedTo_20 (by decide) ?_ ?_
      · exact H29 v2 v3 σ
      · refine j_iload_n C dX5_handedTo_23 rfl ?_
        refine j_iconst C (v := (1 : Int32)) dX5_handedTo_24 (by decide) ?_
        refine j_iload_n C dX5_handedTo_25 rfl ?_
        refine j_ishl C dX5_handedTo_26 ?_
        refine j_ior C dX5_handedTo_27 ?_
        refine j_istore_n C (Ls' := fun v2_28 => [(2, .int v2_28), (0, .ref (adr M v0)), (1, .int v1), (3, .int v3)]) dX5_handedTo_28 (by decide) (fun _ => rfl) (fun v2_28 => ?_)
        refine j_sub (Ls' := [(0, .ref (adr M v0)), (1, .int v1), (2, .int v2_28), (3, .int v3)]) [1, 2, 0, 3] rfl ?_
        exact H29 v2_28 v3 σ
  unfold fX5_handedTo
  refine j_iconst C (v := (0 : Int32)) dX5_handedTo_0 (by decide) ?_
  refine j_istore_n C (Ls' := fun v2_1 => [(2, .int v2_1), (0, .ref (adr M v0)), (1, .int v1)]) dX5_handedTo_1 (by decide) (fun _ => rfl) (fun v2_1 => ?_)
  refine j_iconst C (v := (0 : Int32)) dX5_handedTo_2 (by decide) ?_
  refine j_istore_n C (Ls' := fun v3_3 => [(3, .int v3_3), (2, .int v2_1), (0, .ref (adr M v0)), (1, .int v1)]) dX5_handedTo_3 (by decide) (fun _ => rfl) (fun v3_3 => ?_)
  refine j_sub (Ls' := [(0, .ref (adr M v0)), (1, .int v1), (2, .int v2_1), (3, .int v3_3)]) [2, 3, 1, 0] rfl ?_
  exact H4 FU v2_1 v3_3 σ
set_option maxRecDepth 20000 in
set_option maxHeartbeats 4000000 in
theorem CX5_tell (l : Launch) (M : Mc) (hD : Dj M) (v0 : Nat) (h0 : isK v0 5) (v1 : Int32) (v2 : Int32) (σ : Sg) : Ct l M yX5_tell cX5_tell 3 (some .int) { frames := 1, cells := 0, slots := 0, locals := 23 } vI [.ref (adr M v0), .int v1, .int v2] σ (fX5_tell v0 v1 v2 σ) := by
  refine ct_of (l := l) hD (by decide) (Nat.le_of_ble_eq_true rfl) ?_
  intro p e s m args below meth c C
  unfold fX5_tell
  refine j_iload_n C dX5_tell_0 rfl ?_
  refine j_cases (fun hq1_0 => ?_) (fun hq1_0 => ?_)
  · refine j_tabIn C dX5_tell_1 (tgt := 36) hq1_0 (by decide) (by decide) rfl (by decide) ?_
    refine j_aload_n C dX5_tell_36 rfl ?_
    refine j_getR C dX5_tell_37 fl_RX5_15 h0 (by decide) rfl rfl (by decide) (fun h_37 => ?_)
    refine j_iload_n C dX5_tell_40 rfl ?_
    refine j_iald C dX5_tell_41 h_37 ?_
    exact j_iret C dX5_tell_42
  · refine j_cases (fun hq1_1 => ?_) (fun hq1_1 => ?_)
    · refine j_tabIn C dX5_tell_1 (tgt := 43) hq1_1 (by decide) (by decide) rfl (by decide) ?_
      refine j_aload_n C dX5_tell_43 rfl ?_
      refine j_getR C dX5_tell_44 fl_RX5_19 h0 (by decide) rfl rfl (by decide) (fun h_44 => ?_)
      refine j_iload_n C dX5_tell_47 rfl ?_
      refine j_iald C dX5_tell_48 h_44 ?_
      exact j_iret C dX5_tell_49
    · refine j_cases (fun hq1_2 => ?_) (fun hq1_2 => ?_)
      · refine j_tabIn C dX5_tell_1 (tgt := 50) hq1_2 (by decide) (by decide) rfl (by decide) ?_
        refine j_aload_n C dX5_tell_50 rfl ?_
        refine j_getR C dX5_tell_51 fl_RX5_22 h0 (by decide) rfl rfl (by decide) (fun h_51 => ?_)
        refine j_iload_n C dX5_tell_54 rfl ?_
        refine j_iald C dX5_tell_55 h_51 ?_
        exact j_iret C dX5_tell_56
      · refine j_cases (fun hq1_3 => ?_) (fun hq1_3 => ?_)
        · refine j_tabIn C dX5_tell_1 (tgt := 57) hq1_3 (by decide) (by decide) rfl (by decide) ?_
          refine j_aload_n C dX5_tell_57 rfl ?_
          refine j_getR C dX5_tell_58 fl_RX5_25 h0 (by decide) rfl rfl (by decide) (fun h_58 => ?_)
          refine j_iload_n C dX5_tell_61 rfl ?_
          refine j_iald C dX5_tell_62 h_58 ?_
          exact j_iret C dX5_tell_63
        · refine j_cases (fun hq1_4 => ?_) (fun hq1_4 => ?_)
          · refine j_tabIn C dX5_tell_1 (tgt := 64) hq1_4 (by decide) (by decide) rfl (by decide) ?_
            refine j_aload_n C dX5_tell_64 rfl ?_
            refine j_getR C dX5_tell_65 fl_RX5_28 h0 (by decide) rfl rfl (by decide) (fun h_65 => ?_)
            refine j_iload_n C dX5_tell_68 rfl ?_
            refine j_iald C dX5_tell_69 h_65 ?_
            exact j_iret C dX5_tell_70
          · refine j_tabOut C dX5_tell_1 (tgt := 71) (by have hq1_0 := i_ne hq1_0; have hq1_1 := i_ne hq1_1; have hq1_2 := i_ne hq1_2; have hq1_3 := i_ne hq1_3; have hq1_4 := i_ne hq1_4; simp only [show ((0 : Int32)).toInt = 0 from rfl, show ((1 : Int32)).toInt = 1 from rfl, show ((2 : Int32)).toInt = 2 from rfl, show ((3 : Int32)).toInt = 3 from rfl, show ((4 : Int32)).toInt = 4 from rfl] at *; omega) (by decide) ?_
            refine j_aload_n C dX5_tell_71 rfl ?_
            refine j_iload_n C dX5_tell_72 rfl ?_
            refine j_callVI C (As := [.int v1]) dX5_tell_73 (CX5_handedTo l M hD v0 h0 v1 σ) vv_RX5_42 h0 (by decide) rfl rfl ⟨rfl, rfl⟩ (by decide) (Nat.le_of_ble_eq_true rfl) ⟨Nat.zero_le _, Nat.zero_le _⟩ (fun r_73 s_73 => ?_)
            exact j_iret C dX5_tell_76
set_option maxRecDepth 20000 in
set_option maxHeartbeats 4000000 in
theorem CX10_order (l : Launch) (M : Mc) (hD : Dj M) (v0 : Nat) (h0 : isK v0 10) (v1 : Int32) (v2 : Int32) (σ : Sg) : Ct l M yX10_order cX10_order 3 (some .int) { frames := 2, cells := 0, slots := 0, locals := 45 } vI [.ref (adr M v0), .int v1, .int v2] σ (fX10_order v0 v1 v2 σ) := by
  refine ct_of (l := l) hD (by decide) (Nat.le_of_ble_eq_true rfl) ?_
  intro p e s m args below meth c C
  unfold fX10_order
  refine j_aload_n C dX10_order_0 rfl ?_
  refine j_getR C dX10_order_1 fl_RX10_27 h0 (by decide) rfl rfl (by decide) (fun h_1 => ?_)
  refine j_getR C dX10_order_4 fl_RX10_141 h_1 (by decide) rfl rfl (by decide) (fun h_4 => ?_)
  refine j_iload_n C dX10_order_7 rfl ?_
  refine j_callVI C (As := [.int v1]) dX10_order_8 (CX5_has l M hD (rf (rf v0 2) 2) h_4 v1 σ) vv_RX10_145 h_4 (by decide) rfl rfl ⟨rfl, rfl⟩ (by decide) (Nat.le_of_ble_eq_true rfl) ⟨Nat.zero_le _, Nat.zero_le _⟩ (fun r_8 s_8 => ?_)
  refine j_if_eq C (tgt := 23) dX10_order_11 (by decide) ?_ ?_
  · refine j_aload_n C dX10_order_23 rfl ?_
    refine j_ldc C dX10_order_24 lc_RX10_50 ?_
    refine j_callVI C (As := [.int ((-100001 : Int32))]) dX10_order_26 (CX10_finding l M hD v0 h0 (-100001 : Int32) s_8) vv_RX10_51 h0 (by decide) rfl rfl ⟨rfl, rfl⟩ (by decide) (Nat.le_of_ble_eq_true rfl) ⟨Nat.zero_le _, Nat.zero_le _⟩ (fun r_26 s_26 => ?_)
    exact j_iret C dX10_order_29
  · refine j_iload_n C dX10_order_14 rfl ?_
    refine j_iconst C (v := (0 : Int32)) dX10_order_15 (by decide) ?_
    refine j_iconst C (v := (5 : Int32)) dX10_order_16 (by decide) ?_
    refine j_callSI C (As := [.int v2, .int ((0 : Int32)), .int ((5 : Int32))]) dX10_order_17 (CX10_isWithin l M hD v2 (0 : Int32) (5 : Int32) s_8) vs_RX10_46 rfl rfl ⟨rfl, rfl⟩ (by decide) (Nat.le_of_ble_eq_true rfl) ⟨Nat.zero_le _, Nat.zero_le _⟩ (fun r_17 s_17 => ?_)
    refine j_if_ne C (tgt := 30) dX10_order_20 (by decide) ?_ ?_
    · refine j_aload_n C dX10_order_30 rfl ?_
      refine j_getR C dX10_order_31 fl_RX10_27 h0 (by decide) rfl rfl (by decide) (fun h_31 => ?_)
      refine j_getR C dX10_order_34 fl_RX10_141 h_31 (by decide) rfl rfl (by decide) (fun h_34 => ?_)
      refine j_iload_n C dX10_order_37 rfl ?_
      refine j_iload_n C dX10_order_38 rfl ?_
      refine j_callVI C (As := [.int v1, .int v2]) dX10_order_39 (CX5_tell l M hD (rf (rf v0 2) 2) h_34 v1 v2 s_17) vv_RX10_154 h_34 (by decide) rfl rfl ⟨rfl, rfl⟩ (by decide) (Nat.le_of_ble_eq_true rfl) ⟨Nat.zero_le _, Nat.zero_le _⟩ (fun r_39 s_39 => ?_)
      exact j_iret C dX10_order_42
    · refine j_aload_n C dX10_order_23 rfl ?_
      refine j_ldc C dX10_order_24 lc_RX10_50 ?_
      refine j_callVI C (As := [.int ((-100001 : Int32))]) dX10_order_26 (CX10_finding l M hD v0 h0 (-100001 : Int32) s_17) vv_RX10_51 h0 (by decide) rfl rfl ⟨rfl, rfl⟩ (by decide) (Nat.le_of_ble_eq_true rfl) ⟨Nat.zero_le _, Nat.zero_le _⟩ (fun r_26 s_26 => ?_)
      exact j_iret C dX10_order_29
set_option maxRecDepth 20000 in
set_option maxHeartbeats 4000000 in
theorem CX3_addForced (l : Launch) (M : Mc) (hD : Dj M) (v0 : Nat) (h0 : isK v0 3) (v1 : Int32) (v2 : Int32) (σ : Sg) : Ct l M yX3_addForced cX3_addForced 3 (some .int) { frames := 0, cells := 0, slots := 0, locals := 0 } vI [.ref (adr M v0), .int v1, .int v2] σ (fX3_addForced v0 v1 v2 σ) := by
  refine ct_of (l := l) hD (by decide) (Nat.le_of_ble_eq_true rfl) ?_
  intro p e s m args below meth c C
  unfold fX3_addForced
  refine j_aload_n C dX3_addForced_0 rfl ?_
  refine j_getR C dX3_addForced_1 fl_RX3_36 h0 (by decide) rfl rfl (by decide) (fun h_1 => ?_)
  refine j_aload_n C dX3_addForced_4 rfl ?_
  refine j_getI C dX3_addForced_5 fl_RX3_32 h0 (by decide) rfl ?_
  refine j_iload_n C dX3_addForced_8 rfl ?_
  refine j_iast C dX3_addForced_9 h_1 (fun s_9 => ?_)
  refine j_aload_n C dX3_addForced_10 rfl ?_
  refine j_getR C dX3_addForced_11 fl_RX3_40 h0 (by decide) rfl rfl (by decide) (fun h_11 => ?_)
  refine j_aload_n C dX3_addForced_14 rfl ?_
  refine j_getI C dX3_addForced_15 fl_RX3_32 h0 (by decide) rfl ?_
  refine j_iload_n C dX3_addForced_18 rfl ?_
  refine j_iast C dX3_addForced_19 h_11 (fun s_19 => ?_)
  refine j_aload_n C dX3_addForced_20 rfl ?_
  refine j_dup C dX3_addForced_21 rfl ?_
  refine j_getI C dX3_addForced_22 fl_RX3_32 h0 (by decide) rfl ?_
  refine j_iconst C (v := (1 : Int32)) dX3_addForced_25 (by decide) ?_
  refine j_iadd C dX3_addForced_26 ?_
  refine j_put C dX3_addForced_27 fl_RX3_32 fs_3_3 h0 (by decide) rfl rfl rfl (fun s_27 => ?_)
  refine j_aload_n C dX3_addForced_30 rfl ?_
  refine j_getI C dX3_addForced_31 fl_RX3_32 h0 (by decide) rfl ?_
  exact j_iret C dX3_addForced_34
set_option maxRecDepth 20000 in
set_option maxHeartbeats 4000000 in
theorem CX10_force (l : Launch) (M : Mc) (hD : Dj M) (v0 : Nat) (h0 : isK v0 10) (v1 : Int32) (v2 : Int32) (σ : Sg) : Ct l M yX10_force cX10_force 3 (some .int) { frames := 5, cells := 0, slots := 0, locals := 131 } vI [.ref (adr M v0), .int v1, .int v2] σ (fX10_force v0 v1 v2 σ) := by
  refine ct_of (l := l) hD (by decide) (Nat.le_of_ble_eq_true rfl) ?_
  intro p e s m args below meth c C
  unfold fX10_force
  refine j_aload_n C dX10_force_0 rfl ?_
  refine j_getR C dX10_force_1 fl_RX10_27 h0 (by decide) rfl rfl (by decide) (fun h_1 => ?_)
  refine j_getR C dX10_force_4 fl_RX10_91 h_1 (by decide) rfl rfl (by decide) (fun h_4 => ?_)
  refine j_iload_n C dX10_force_7 rfl ?_
  refine j_callVI C (As := [.int v1]) dX10_force_8 (CX9_has l M hD (rf (rf v0 2) 1) h_4 v1 σ) vv_RX10_103 h_4 (by decide) rfl rfl ⟨rfl, rfl⟩ (by decide) (Nat.le_of_ble_eq_true rfl) ⟨Nat.zero_le _, Nat.zero_le _⟩ (fun r_8 s_8 => ?_)
  refine j_if_eq C (tgt := 25) dX10_force_11 (by decide) ?_ ?_
  · refine j_aload_n C dX10_force_25 rfl ?_
    refine j_ldc C dX10_force_26 lc_RX10_50 ?_
    refine j_callVI C (As := [.int ((-100001 : Int32))]) dX10_force_28 (CX10_finding l M hD v0 h0 (-100001 : Int32) s_8) vv_RX10_51 h0 (by decide) rfl rfl ⟨rfl, rfl⟩ (by decide) (Nat.le_of_ble_eq_true rfl) ⟨Nat.zero_le _, Nat.zero_le _⟩ (fun r_28 s_28 => ?_)
    exact j_iret C dX10_force_31
  · refine j_iload_n C dX10_force_14 rfl ?_
    refine j_iconst C (v := (0 : Int32)) dX10_force_15 (by decide) ?_
    refine j_sipush C (v := (500 : Int32)) dX10_force_16 (by decide) ?_
    refine j_callSI C (As := [.int v2, .int ((0 : Int32)), .int ((500 : Int32))]) dX10_force_19 (CX10_isWithin l M hD v2 (0 : Int32) (500 : Int32) s_8) vs_RX10_46 rfl rfl ⟨rfl, rfl⟩ (by decide) (Nat.le_of_ble_eq_true rfl) ⟨Nat.zero_le _, Nat.zero_le _⟩ (fun r_19 s_19 => ?_)
    refine j_if_ne C (tgt := 32) dX10_force_22 (by decide) ?_ ?_
    · refine j_aload_n C dX10_force_32 rfl ?_
      refine j_getR C dX10_force_33 fl_RX10_27 h0 (by decide) rfl rfl (by decide) (fun h_33 => ?_)
      refine j_getI C dX10_force_36 fl_RX10_155 h_33 (by decide) rfl ?_
      refine j_bipush C (v := (6 : Int32)) dX10_force_39 (by decide) ?_
      refine j_icmp_lt C (tgt := 51) dX10_force_41 (by decide) ?_ ?_
      · refine j_aload_n C dX10_force_51 rfl ?_
        refine j_callVv C (As := []) dX10_force_52 (CX10_keepForUndo l M hD v0 h0 s_19) vv_RX10_62 h0 (by decide) rfl rfl ⟨rfl, rfl⟩ (by decide) (Nat.le_of_ble_eq_true rfl) ⟨Nat.zero_le _, Nat.zero_le _⟩ (fun r_52 s_52 => ?_)
        refine j_aload_n C dX10_force_55 rfl ?_
        refine j_getR C dX10_force_56 fl_RX10_27 h0 (by decide) rfl rfl (by decide) (fun h_56 => ?_)
        refine j_iload_n C dX10_force_59 rfl ?_
        refine j_iload_n C dX10_force_60 rfl ?_
        refine j_callVI C (As := [.int v1, .int v2]) dX10_force_61 (CX3_addForced l M hD (rf v0 2) h_56 v1 v2 s_52) vv_RX10_158 h_56 (by decide) rfl rfl ⟨rfl, rfl⟩ (by decide) (Nat.le_of_ble_eq_true rfl) ⟨Nat.zero_le _, Nat.zero_le _⟩ (fun r_61 s_61 => ?_)
        exact j_iret C dX10_force_64
      · refine j_aload_n C dX10_force_44 rfl ?_
        refine j_ldc C dX10_force_45 lc_RX10_98 ?_
        refine j_callVI C (As := [.int ((-100005 : Int32))]) dX10_force_47 (CX10_finding l M hD v0 h0 (-100005 : Int32) s_19) vv_RX10_51 h0 (by decide) rfl rfl ⟨rfl, rfl⟩ (by decide) (Nat.le_of_ble_eq_true rfl) ⟨Nat.zero_le _, Nat.zero_le _⟩ (fun r_47 s_47 => ?_)
        exact j_iret C dX10_force_50
    · refine j_aload_n C dX10_force_25 rfl ?_
      refine j_ldc C dX10_force_26 lc_RX10_50 ?_
      refine j_callVI C (As := [.int ((-100001 : Int32))]) dX10_force_28 (CX10_finding l M hD v0 h0 (-100001 : Int32) s_19) vv_RX10_51 h0 (by decide) rfl rfl ⟨rfl, rfl⟩ (by decide) (Nat.le_of_ble_eq_true rfl) ⟨Nat.zero_le _, Nat.zero_le _⟩ (fun r_28 s_28 => ?_)
      exact j_iret C dX10_force_31
set_option maxRecDepth 20000 in
set_option maxHeartbeats 4000000 in
theorem CJ7_fill_53178 (l : Launch) (M : Mc) (hD : Dj M) (v0 : Nat) (h0 : isK v0 13) (v1 : Int32) (σ : Sg) : Ct l M yJ7_fill_53178 cJ7_fill_53178 4 none { frames := 0, cells := 0, slots := 0, locals := 0 } vV [.ref (adr M v0), .int v1] σ (fJ7_fill_53178 v0 v1 σ) := by
  refine ct_of (l := l) hD (by decide) (Nat.le_of_ble_eq_true rfl) ?_
  intro p e s m args below meth c C
  have H5 : ∀ (v3 : Int32) (n : Nat) (v2 : Int32) (τ : Sg), J p l e { frames := 0, cells := 0, slots := 0, locals := 0 } s m args below meth c M 4 vV τ 5 [(0, .ref (adr M v0)), (1, .int v1), (2, .int v2), (3, .int v3)] [] (lq1 (fJ7_fill_53178_5 v0 v1 v3) n v2 τ) := by
    intro v3
    refine j_lq1 (Ls := fun v2 => [(0, .ref (adr M v0)), (1, .int v1), (2, .int v2), (3, .int v3)]) (st := fun _ => []) ?_
    intro k5 hk5 v2 σ
    unfold fJ7_fill_53178_5
    refine j_iload_n C dJ7_fill_53178_5 rfl ?_
    refine j_iload_n C dJ7_fill_53178_6 rfl ?_
    refine j_icmp_ge C (tgt := 20) dJ7_fill_53178_7 (by decide) ?_ ?_
    · exact j_vret C dJ7_fill_53178_20
    · refine j_aload_n C dJ7_fill_53178_10 rfl ?_
      refine j_iload_n C dJ7_fill_53178_11 rfl ?_
      refine j_iload_n C dJ7_fill_53178_12 rfl ?_
      refine j_iast C dJ7_fill_53178_13 h0 (fun s_13 => ?_)
      refine j_iinc C (v := (1 : Int32)) (Ls' := fun v2_14 => [(2, .int v2_14), (0, .ref (adr M v0)), (1, .int v1), (3, .int v3)]) dJ7_fill_53178_14 2 rfl (by decide) (by decide) (fun _ => rfl) (fun v2_14 => ?_)
      refine j_goto C (tgt := 5) dJ7_fill_53178_17 (by decide) ?_
      refine j_sub (Ls' := [(0, .ref (adr M v0)), (1, .int v1), (2, .int v2_14), (3, .int v3)]) [1, 2, 0, 3] rfl ?_
      exact hk5 v2_14 s_13
  unfold fJ7_fill_53178
  refine j_iconst C (v := (0 : Int32)) dJ7_fill_53178_0 (by decide) ?_
  refine j_istore_n C (Ls' := fun v2_1 => [(2, .int v2_1), (0, .ref (adr M v0)), (1, .int v1)]) dJ7_fill_53178_1 (by decide) (fun _ => rfl) (fun v2_1 => ?_)
  refine j_aload_n C dJ7_fill_53178_2 rfl ?_
  refine j_alen C (t0 := 1) dJ7_fill_53178_3 h0 (by decide) (by decide) rfl ?_
  refine j_istore_n C (Ls' := fun v3_4 => [(3, .int v3_4), (2, .int v2_1), (0, .ref (adr M v0)), (1, .int v1)]) dJ7_fill_53178_4 (by decide) (fun _ => rfl) (fun v3_4 => ?_)
  refine j_sub (Ls' := [(0, .ref (adr M v0)), (1, .int v1), (2, .int v2_1), (3, .int v3_4)]) [2, 3, 1, 0] rfl ?_
  exact H5 v3_4 FU v2_1 σ
set_option maxRecDepth 20000 in
set_option maxHeartbeats 4000000 in
theorem CX1_begin (l : Launch) (M : Mc) (hD : Dj M) (v0 : Nat) (h0 : isK v0 1) (σ : Sg) : Ct l M yX1_begin cX1_begin 1 none { frames := 1, cells := 0, slots := 0, locals := 23 } vV [.ref (adr M v0)] σ (fX1_begin v0 σ) := by
  refine ct_of (l := l) hD (by decide) (Nat.le_of_ble_eq_true rfl) ?_
  intro p e s m args below meth c C
  unfold fX1_begin
  refine j_aload_n C dX1_begin_0 rfl ?_
  refine j_iconst C (v := (0 : Int32)) dX1_begin_1 (by decide) ?_
  refine j_put C dX1_begin_2 fl_RX1_9 fs_1_0 h0 (by decide) rfl rfl rfl (fun s_2 => ?_)
  refine j_aload_n C dX1_begin_5 rfl ?_
  refine j_getR C dX1_begin_6 fl_RX1_23 h0 (by decide) rfl rfl (by decide) (fun h_6 => ?_)
  refine j_iconst C (v := (-1 : Int32)) dX1_begin_9 (by decide) ?_
  refine j_callSv C (As := [.ref (adr M (rf v0 3)), .int ((-1 : Int32))]) dX1_begin_10 (CJ7_fill_53178 l M hD (rf v0 3) h_6 (-1 : Int32) s_2) vs_RX1_54 rfl rfl ⟨rfl, rfl⟩ (by decide) (Nat.le_of_ble_eq_true rfl) ⟨Nat.zero_le _, Nat.zero_le _⟩ (fun r_10 s_10 => ?_)
  refine j_aload_n C dX1_begin_13 rfl ?_
  refine j_getR C dX1_begin_14 fl_RX1_27 h0 (by decide) rfl rfl (by decide) (fun h_14 => ?_)
  refine j_iconst C (v := (-1 : Int32)) dX1_begin_17 (by decide) ?_
  refine j_callSv C (As := [.ref (adr M (rf v0 4)), .int ((-1 : Int32))]) dX1_begin_18 (CJ7_fill_53178 l M hD (rf v0 4) h_14 (-1 : Int32) s_10) vs_RX1_54 rfl rfl ⟨rfl, rfl⟩ (by decide) (Nat.le_of_ble_eq_true rfl) ⟨Nat.zero_le _, Nat.zero_le _⟩ (fun r_18 s_18 => ?_)
  refine j_aload_n C dX1_begin_21 rfl ?_
  refine j_iconst C (v := (0 : Int32)) dX1_begin_22 (by decide) ?_
  refine j_put C dX1_begin_23 fl_RX1_30 fs_1_5 h0 (by decide) rfl rfl rfl (fun s_23 => ?_)
  refine j_aload_n C dX1_begin_26 rfl ?_
  refine j_iconst C (v := (0 : Int32)) dX1_begin_27 (by decide) ?_
  refine j_put C dX1_begin_28 fl_RX1_33 fs_1_6 h0 (by decide) rfl rfl rfl (fun s_28 => ?_)
  refine j_aload_n C dX1_begin_31 rfl ?_
  refine j_iconst C (v := (0 : Int32)) dX1_begin_32 (by decide) ?_
  refine j_put C dX1_begin_33 fl_RX1_48 fs_1_11 h0 (by decide) rfl rfl rfl (fun s_33 => ?_)
  refine j_aload_n C dX1_begin_36 rfl ?_
  refine j_iconst C (v := (0 : Int32)) dX1_begin_37 (by decide) ?_
  refine j_put C dX1_begin_38 fl_RX1_51 fs_1_12 h0 (by decide) rfl rfl rfl (fun s_38 => ?_)
  exact j_vret C dX1_begin_41
set_option maxRecDepth 20000 in
set_option maxHeartbeats 4000000 in
theorem CX9_route (l : Launch) (M : Mc) (hD : Dj M) (v0 : Nat) (h0 : isK v0 9) (v1 : Int32) (σ : Sg) : Ct l M yX9_route cX9_route 4 (some .int) { frames := 1, cells := 0, slots := 0, locals := 48 } vI [.ref (adr M v0), .int v1] σ (fX9_route v0 v1 σ) := by
  refine ct_of (l := l) hD (by decide) (Nat.le_of_ble_eq_true rfl) ?_
  intro p e s m args below meth c C
  unfold fX9_route
  refine j_aload_n C dX9_route_0 rfl ?_
  refine j_getR C dX9_route_1 fl_RX9_19 h0 (by decide) rfl rfl (by decide) (fun h_1 => ?_)
  refine j_iload_n C dX9_route_4 rfl ?_
  refine j_iald C dX9_route_5 h_1 ?_
  refine j_aload_n C dX9_route_6 rfl ?_
  refine j_getR C dX9_route_7 fl_RX9_22 h0 (by decide) rfl rfl (by decide) (fun h_7 => ?_)
  refine j_iload_n C dX9_route_10 rfl ?_
  refine j_iald C dX9_route_11 h_7 ?_
  refine j_mmin C dX9_route_12 lm_RX9_35 lm_min_1 lm_2 lm_min_3 (by decide) (Nat.le_of_ble_eq_true rfl) ⟨Nat.zero_le _, Nat.zero_le _⟩ ?_
  refine j_istore_n C (Ls' := fun v2_15 => [(2, .int v2_15), (0, .ref (adr M v0)), (1, .int v1)]) dX9_route_15 (by decide) (fun _ => rfl) (fun v2_15 => ?_)
  refine j_aload_n C dX9_route_16 rfl ?_
  refine j_getR C dX9_route_17 fl_RX9_19 h0 (by decide) rfl rfl (by decide) (fun h_17 => ?_)
  refine j_iload_n C dX9_route_20 rfl ?_
  refine j_iald C dX9_route_21 h_17 ?_
  refine j_aload_n C dX9_route_22 rfl ?_
  refine j_getR C dX9_route_23 fl_RX9_22 h0 (by decide) rfl rfl (by decide) (fun h_23 => ?_)
  refine j_iload_n C dX9_route_26 rfl ?_
  refine j_iald C dX9_route_27 h_23 ?_
  refine j_mmax C dX9_route_28 lm_RX9_41 lm_max_1 lm_2 lm_max_3 (by decide) (Nat.le_of_ble_eq_true rfl) ⟨Nat.zero_le _, Nat.zero_le _⟩ ?_
  refine j_istore_n C (Ls' := fun v3_31 => [(3, .int v3_31), (2, .int v2_15), (0, .ref (adr M v0)), (1, .int v1)]) dX9_route_31 (by decide) (fun _ => rfl) (fun v3_31 => ?_)
  refine j_iconst C (v := (1 : Int32)) dX9_route_32 (by decide) ?_
  refine j_iload_n C dX9_route_33 rfl ?_
  refine j_ishl C dX9_route_34 ?_
  refine j_iconst C (v := (1 : Int32)) dX9_route_35 (by decide) ?_
  refine j_iload_n C dX9_route_36 rfl ?_
  refine j_ishl C dX9_route_37 ?_
  refine j_isub C dX9_route_38 ?_
  exact j_iret C dX9_route_39
set_option maxRecDepth 20000 in
set_option maxHeartbeats 4000000 in
theorem CX9_isTimetabled (l : Launch) (M : Mc) (hD : Dj M) (v0 : Nat) (h0 : isK v0 9) (v1 : Int32) (σ : Sg) : Ct l M yX9_isTimetabled cX9_isTimetabled 2 (some .boolean) { frames := 0, cells := 0, slots := 0, locals := 0 } vI [.ref (adr M v0), .int v1] σ (fX9_isTimetabled v0 v1 σ) := by
  refine ct_of (l := l) hD (by decide) (Nat.le_of_ble_eq_true rfl) ?_
  intro p e s m args below meth c C
  unfold fX9_isTimetabled
  refine j_aload_n C dX9_isTimetabled_0 rfl ?_
  refine j_getR C dX9_isTimetabled_1 fl_RX9_15 h0 (by decide) rfl rfl (by decide) (fun h_1 => ?_)
  refine j_iload_n C dX9_isTimetabled_4 rfl ?_
  refine j_iald C dX9_isTimetabled_5 h_1 ?_
  refine j_iconst C (v := (1 : Int32)) dX9_isTimetabled_6 (by decide) ?_
  refine j_icmp_eq C (tgt := 20) dX9_isTimetabled_7 (by decide) ?_ ?_
  · refine j_iconst C (v := (1 : Int32)) dX9_isTimetabled_20 (by decide) ?_
    refine j_goto C (tgt := 25) dX9_isTimetabled_21 (by decide) ?_
    exact j_zret C dX9_isTimetabled_25
  · refine j_aload_n C dX9_isTimetabled_10 rfl ?_
    refine j_getR C dX9_isTimetabled_11 fl_RX9_15 h0 (by decide) rfl rfl (by decide) (fun h_11 => ?_)
    refine j_iload_n C dX9_isTimetabled_14 rfl ?_
    refine j_iald C dX9_isTimetabled_15 h_11 ?_
    refine j_iconst C (v := (2 : Int32)) dX9_isTimetabled_16 (by decide) ?_
    refine j_icmp_ne C (tgt := 24) dX9_isTimetabled_17 (by decide) ?_ ?_
    · refine j_iconst C (v := (0 : Int32)) dX9_isTimetabled_24 (by decide) ?_
      exact j_zret C dX9_isTimetabled_25
    · refine j_iconst C (v := (1 : Int32)) dX9_isTimetabled_20 (by decide) ?_
      refine j_goto C (tgt := 25) dX9_isTimetabled_21 (by decide) ?_
      exact j_zret C dX9_isTimetabled_25
set_option maxRecDepth 20000 in
set_option maxHeartbeats 4000000 in
theorem CX0_beginTrain (l : Launch) (M : Mc) (hD : Dj M) (v0 : Nat) (h0 : isK v0 0) (v1 : Int32) (σ : Sg) : Ct l M yX0_beginTrain cX0_beginTrain 4 none { frames := 2, cells := 0, slots := 0, locals := 71 } vV [.ref (adr M v0), .int v1] σ (fX0_beginTrain v0 v1 σ) := by
  refine ct_of (l := l) hD (by decide) (Nat.le_of_ble_eq_true rfl) ?_
  intro p e s m args below meth c C
  have H101 : ∀ (v2 : Nat) (h2 : isK v2 9) (n : Nat) (v3 : Int32) (τ : Sg), J p l e { frames := 2, cells := 0, slots := 0, locals := 71 } s m args below meth c M 4 vV τ 101 [(0, .ref (adr M v0)), (1, .int v1), (2, .ref (adr M v2)), (3, .int v3)] [] (lq1 (fX0_beginTrain_101 v0 v1 v2) n v3 τ) := by
    intro v2 h2
    refine j_lq1 (Ls := fun v3 => [(0, .ref (adr M v0)), (1, .int v1), (2, .ref (adr M v2)), (3, .int v3)]) (st := fun _ => []) ?_
    intro k101 hk101 v3 σ
    unfold fX0_beginTrain_101
    refine j_iload_n C dX0_beginTrain_101 rfl ?_
    refine j_aload_n C dX0_beginTrain_102 rfl ?_
    refine j_getR C dX0_beginTrain_103 fl_RX0_12 h0 (by decide) rfl rfl (by decide) (fun h_103 => ?_)
    refine j_getR C dX0_beginTrain_106 fl_RX0_137 h_103 (by decide) rfl rfl (by decide) (fun h_106 => ?_)
    refine j_getI C dX0_beginTrain_109 fl_RX0_141 h_106 (by decide) rfl ?_
    refine j_icmp_ge C (tgt := 156) dX0_beginTrain_112 (by decide) ?_ ?_
    · exact j_vret C dX0_beginTrain_156
    · refine j_aload_n C dX0_beginTrain_115 rfl ?_
      refine j_getR C dX0_beginTrain_116 fl_RX0_35 h0 (by decide) rfl rfl (by decide) (fun h_116 => ?_)
      refine j_iload_n C dX0_beginTrain_119 rfl ?_
      refine j_bipush C (v := (7 : Int32)) dX0_beginTrain_120 (by decide) ?_
      refine j_imul C dX0_beginTrain_122 ?_
      refine j_iload_n C dX0_beginTrain_123 rfl ?_
      refine j_iadd C dX0_beginTrain_124 ?_
      refine j_aload_n C dX0_beginTrain_125 rfl ?_
      refine j_getR C dX0_beginTrain_126 fl_RX0_144 h2 (by decide) rfl rfl (by decide) (fun h_126 => ?_)
      refine j_iload_n C dX0_beginTrain_129 rfl ?_
      refine j_iald C dX0_beginTrain_130 h_126 ?_
      refine j_aload_n C dX0_beginTrain_131 rfl ?_
      refine j_getR C dX0_beginTrain_132 fl_RX0_12 h0 (by decide) rfl rfl (by decide) (fun h_132 => ?_)
      refine j_getR C dX0_beginTrain_135 fl_RX0_137 h_132 (by decide) rfl rfl (by decide) (fun h_135 => ?_)
      refine j_aload_n C dX0_beginTrain_138 rfl ?_
      refine j_getR C dX0_beginTrain_139 fl_RX0_147 h2 (by decide) rfl rfl (by decide) (fun h_139 => ?_)
      refine j_iload_n C dX0_beginTrain_142 rfl ?_
      refine j_iald C dX0_beginTrain_143 h_139 ?_
      refine j_iload_n C dX0_beginTrain_144 rfl ?_
      refine j_callVI C (As := [.int ((σ (rf v2 2) (v1).toNatClampNeg)), .int v3]) dX0_beginTrain_145 (CX8_minutesBetween l M hD (rf (rf v0 0) 0) h_135 (σ (rf v2 2) (v1).toNatClampNeg) v3 σ) vv_RX0_150 h_135 (by decide) rfl rfl ⟨rfl, rfl⟩ (by decide) (Nat.le_of_ble_eq_true rfl) ⟨Nat.zero_le _, Nat.zero_le _⟩ (fun r_145 s_145 => ?_)
      refine j_iadd C dX0_beginTrain_148 ?_
      refine j_iast C dX0_beginTrain_149 h_116 (fun s_149 => ?_)
      refine j_iinc C (v := (1 : Int32)) (Ls' := fun v3_150 => [(3, .int v3_150), (0, .ref (adr M v0)), (1, .int v1), (2, .ref (adr M v2))]) dX0_beginTrain_150 3 rfl (by decide) (by decide) (fun _ => rfl) (fun v3_150 => ?_)
      refine j_goto C (tgt := 101) dX0_beginTrain_153 (by decide) ?_
      refine j_sub (Ls' := [(0, .ref (adr M v0)), (1, .int v1), (2, .ref (adr M v2)), (3, .int v3_150)]) [1, 2, 3, 0] rfl ?_
      exact hk101 v3_150 s_149
  have H95 : ∀ (v2 : Nat) (h2 : isK v2 9) (w0 : Int32) (w1 : Int32) (w2 : Nat) (hw2 : isK w2 0) (τ : Sg), J p l e { frames := 2, cells := 0, slots := 0, locals := 71 } s m args below meth c M 4 vV τ 95 [(0, .ref (adr M v0)), (1, .int v1), (2, .ref (adr M v2))] [.int w0, .int w1, .ref (adr M w2)] (fX0_beginTrain_95 v0 v1 v2 w0 w1 w2 τ) := by
    intro v2 h2 w0 w1 w2 hw2 σ
    unfold fX0_beginTrain_95
    refine j_ior C dX0_beginTrain_95 ?_
    refine j_put C dX0_beginTrain_96 fl_RX0_63 fs_0_13 hw2 (by decide) rfl rfl rfl (fun s_96 => ?_)
    refine j_iconst C (v := (0 : Int32)) dX0_beginTrain_99 (by decide) ?_
    refine j_istore_n C (Ls' := fun v3_100 => [(3, .int v3_100), (0, .ref (adr M v0)), (1, .int v1), (2, .ref (adr M v2))]) dX0_beginTrain_100 (by decide) (fun _ => rfl) (fun v3_100 => ?_)
    refine j_sub (Ls' := [(0, .ref (adr M v0)), (1, .int v1), (2, .ref (adr M v2)), (3, .int v3_100)]) [1, 2, 3, 0] rfl ?_
    exact H101 v2 h2 FU v3_100 s_96
  unfold fX0_beginTrain
  refine j_aload_n C dX0_beginTrain_0 rfl ?_
  refine j_getR C dX0_beginTrain_1 fl_RX0_12 h0 (by decide) rfl rfl (by decide) (fun h_1 => ?_)
  refine j_getR C dX0_beginTrain_4 fl_RX0_80 h_1 (by decide) rfl rfl (by decide) (fun h_4 => ?_)
  refine j_astore_n C (Ls' := [(2, .ref (adr M (rf (rf v0 0) 1))), (0, .ref (adr M v0)), (1, .int v1)]) dX0_beginTrain_7 (by decide) rfl ?_
  refine j_aload_n C dX0_beginTrain_8 rfl ?_
  refine j_getR C dX0_beginTrain_9 fl_RX0_42 h0 (by decide) rfl rfl (by decide) (fun h_9 => ?_)
  refine j_iload_n C dX0_beginTrain_12 rfl ?_
  refine j_sipush C (v := (200 : Int32)) dX0_beginTrain_13 (by decide) ?_
  refine j_iast C dX0_beginTrain_16 h_9 (fun s_16 => ?_)
  refine j_aload_n C dX0_beginTrain_17 rfl ?_
  refine j_getR C dX0_beginTrain_18 fl_RX0_45 h0 (by decide) rfl rfl (by decide) (fun h_18 => ?_)
  refine j_iload_n C dX0_beginTrain_21 rfl ?_
  refine j_aload_n C dX0_beginTrain_22 rfl ?_
  refine j_iload_n C dX0_beginTrain_23 rfl ?_
  refine j_callVI C (As := [.int v1]) dX0_beginTrain_24 (CX9_wayOf l M hD (rf (rf v0 0) 1) h_4 v1 s_16) vv_RX0_122 h_4 (by decide) rfl rfl ⟨rfl, rfl⟩ (by decide) (Nat.le_of_ble_eq_true rfl) ⟨Nat.zero_le _, Nat.zero_le _⟩ (fun r_24 s_24 => ?_)
  refine j_iast C dX0_beginTrain_27 h_18 (fun s_27 => ?_)
  refine j_aload_n C dX0_beginTrain_28 rfl ?_
  refine j_getR C dX0_beginTrain_29 fl_RX0_48 h0 (by decide) rfl rfl (by decide) (fun h_29 => ?_)
  refine j_iload_n C dX0_beginTrain_32 rfl ?_
  refine j_aload_n C dX0_beginTrain_33 rfl ?_
  refine j_iload_n C dX0_beginTrain_34 rfl ?_
  refine j_aload_n C dX0_beginTrain_35 rfl ?_
  refine j_getR C dX0_beginTrain_36 fl_RX0_45 h0 (by decide) rfl rfl (by decide) (fun h_36 => ?_)
  refine j_iload_n C dX0_beginTrain_39 rfl ?_
  refine j_iald C dX0_beginTrain_40 h_36 ?_
  refine j_callVI C (As := [.int v1, .int ((s_27 (rf v0 7) (v1).toNatClampNeg))]) dX0_beginTrain_41 (CX9_strength l M hD (rf (rf v0 0) 1) h_4 v1 (s_27 (rf v0 7) (v1).toNatClampNeg) s_27) vv_RX0_126 h_4 (by decide) rfl rfl ⟨rfl, rfl⟩ (by decide) (Nat.le_of_ble_eq_true rfl) ⟨Nat.zero_le _, Nat.zero_le _⟩ (fun r_41 s_41 => ?_)
  refine j_iast C dX0_beginTrain_44 h_29 (fun s_44 => ?_)
  refine j_aload_n C dX0_beginTrain_45 rfl ?_
  refine j_getR C dX0_beginTrain_46 fl_RX0_51 h0 (by decide) rfl rfl (by decide) (fun h_46 => ?_)
  refine j_iload_n C dX0_beginTrain_49 rfl ?_
  refine j_aload_n C dX0_beginTrain_50 rfl ?_
  refine j_getR C dX0_beginTrain_51 fl_RX0_129 h_4 (by decide) rfl rfl (by decide) (fun h_51 => ?_)
  refine j_iload_n C dX0_beginTrain_54 rfl ?_
  refine j_iald C dX0_beginTrain_55 h_51 ?_
  refine j_iast C dX0_beginTrain_56 h_46 (fun s_56 => ?_)
  refine j_aload_n C dX0_beginTrain_57 rfl ?_
  refine j_getR C dX0_beginTrain_58 fl_RX0_39 h0 (by decide) rfl rfl (by decide) (fun h_58 => ?_)
  refine j_iload_n C dX0_beginTrain_61 rfl ?_
  refine j_aload_n C dX0_beginTrain_62 rfl ?_
  refine j_iload_n C dX0_beginTrain_63 rfl ?_
  refine j_callVI C (As := [.int v1]) dX0_beginTrain_64 (CX9_route l M hD (rf (rf v0 0) 1) h_4 v1 s_56) vv_RX0_132 h_4 (by decide) rfl rfl ⟨rfl, rfl⟩ (by decide) (Nat.le_of_ble_eq_true rfl) ⟨Nat.zero_le _, Nat.zero_le _⟩ (fun r_64 s_64 => ?_)
  refine j_iast C dX0_beginTrain_67 h_58 (fun s_67 => ?_)
  refine j_aload_n C dX0_beginTrain_68 rfl ?_
  refine j_getR C dX0_beginTrain_69 fl_RX0_54 h0 (by decide) rfl rfl (by decide) (fun h_69 => ?_)
  refine j_iload_n C dX0_beginTrain_72 rfl ?_
  refine j_iconst C (v := (-1 : Int32)) dX0_beginTrain_73 (by decide) ?_
  refine j_iast C dX0_beginTrain_74 h_69 (fun s_74 => ?_)
  refine j_aload_n C dX0_beginTrain_75 rfl ?_
  refine j_dup C dX0_beginTrain_76 rfl ?_
  refine j_getI C dX0_beginTrain_77 fl_RX0_63 h0 (by decide) rfl ?_
  refine j_aload_n C dX0_beginTrain_80 rfl ?_
  refine j_iload_n C dX0_beginTrain_81 rfl ?_
  refine j_callVI C (As := [.int v1]) dX0_beginTrain_82 (CX9_isTimetabled l M hD (rf (rf v0 0) 1) h_4 v1 s_74) vv_RX0_134 h_4 (by decide) rfl rfl ⟨rfl, rfl⟩ (by decide) (Nat.le_of_ble_eq_true rfl) ⟨Nat.zero_le _, Nat.zero_le _⟩ (fun r_82 s_82 => ?_)
  refine j_if_eq C (tgt := 94) dX0_beginTrain_85 (by decide) ?_ ?_
  · refine j_iconst C (v := (0 : Int32)) dX0_beginTrain_94 (by decide) ?_
    refine j_sub (Ls' := [(0, .ref (adr M v0)), (1, .int v1), (2, .ref (adr M (rf (rf v0 0) 1)))]) [1, 2, 0] rfl ?_
    exact H95 (rf (rf v0 0) 1) h_4 (0 : Int32) (s_74 v0 13) v0 h0 s_82
  · refine j_iconst C (v := (1 : Int32)) dX0_beginTrain_88 (by decide) ?_
    refine j_iload_n C dX0_beginTrain_89 rfl ?_
    refine j_ishl C dX0_beginTrain_90 ?_
    refine j_goto C (tgt := 95) dX0_beginTrain_91 (by decide) ?_
    refine j_sub (Ls' := [(0, .ref (adr M v0)), (1, .int v1), (2, .ref (adr M (rf (rf v0 0) 1)))]) [1, 2, 0] rfl ?_
    exact H95 (rf (rf v0 0) 1) h_4 ((1 : Int32) <<< (v1 &&& 31)) (s_74 v0 13) v0 h0 s_82
