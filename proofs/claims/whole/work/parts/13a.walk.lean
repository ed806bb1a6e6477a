set_option maxRecDepth 20000 in
set_option maxHeartbeats 4000000 in
theorem CX11_in (l : Launch) (M : Mc) (hD : Dj M) (v0 : Int32) (v1 : Int32) (v2 : Int32) (σ : Sg) : Ct l M yX11_in cX11_in 3 (some .boolean) { frames := 0, cells := 0, slots := 0, locals := 0 } vI [.int v0, .int v1, .int v2] σ (fX11_in v0 v1 v2 σ) := by
  refine ct_of (l := l) hD (by decide) (Nat.le_of_ble_eq_true rfl) ?_
  intro p e s m args below meth c C
  unfold fX11_in
  refine j_iload_n C dX11_in_0 rfl ?_
  refine j_iload_n C dX11_in_1 rfl ?_
  refine j_icmp_lt C (tgt := 14) dX11_in_2 (by decide) ?_ ?_
  · refine j_iconst C (v := (0 : Int32)) dX11_in_14 (by decide) ?_
    exact j_zret C dX11_in_15
  · refine j_iload_n C dX11_in_5 rfl ?_
    refine j_iload_n C dX11_in_6 rfl ?_
    refine j_icmp_gt C (tgt := 14) dX11_in_7 (by decide) ?_ ?_
    · refine j_iconst C (v := (0 : Int32)) dX11_in_14 (by decide) ?_
      exact j_zret C dX11_in_15
    · refine j_iconst C (v := (1 : Int32)) dX11_in_10 (by decide) ?_
      refine j_goto C (tgt := 15) dX11_in_11 (by decide) ?_
      exact j_zret C dX11_in_15
set_option maxRecDepth 20000 in
set_option maxHeartbeats 4000000 in
theorem CX11_finds (l : Launch) (M : Mc) (hD : Dj M) (v0 : Nat) (h0 : isK v0 11) (v1 : Int32) (σ : Sg) : Ct l M yX11_finds cX11_finds 2 (some .int) { frames := 0, cells := 0, slots := 0, locals := 0 } vI [.ref (adr M v0), .int v1] σ (fX11_finds v0 v1 σ) := by
  refine ct_of (l := l) hD (by decide) (Nat.le_of_ble_eq_true rfl) ?_
  intro p e s m args below meth c C
  unfold fX11_finds
  refine j_aload_n C dX11_finds_0 rfl ?_
  refine j_dup C dX11_finds_1 rfl ?_
  refine j_getI C dX11_finds_2 fl_RX11_86 h0 (by decide) rfl ?_
  refine j_iconst C (v := (1 : Int32)) dX11_finds_5 (by decide) ?_
  refine j_iadd C dX11_finds_6 ?_
  refine j_put C dX11_finds_7 fl_RX11_86 fs_11_4 h0 (by decide) rfl rfl rfl (fun s_7 => ?_)
  refine j_iload_n C dX11_finds_10 rfl ?_
  exact j_iret C dX11_finds_11
set_option maxRecDepth 20000 in
set_option maxHeartbeats 4000000 in
theorem CX11_keep (l : Launch) (M : Mc) (hD : Dj M) (v0 : Nat) (h0 : isK v0 11) (σ : Sg) : Ct l M yX11_keep cX11_keep 2 none { frames := 0, cells := 0, slots := 0, locals := 0 } vV [.ref (adr M v0)] σ (fX11_keep v0 σ) := by
  refine ct_of (l := l) hD (by decide) (Nat.le_of_ble_eq_true rfl) ?_
  intro p e s m args below meth c C
  have H7 : ∀  (n : Nat) (v1 : Int32) (τ : Sg), J p l e { frames := 0, cells := 0, slots := 0, locals := 0 } s m args below meth c M 2 vV τ 7 [(0, .ref (adr M v0)), (1, .int v1)] [] (lq1 (fX11_keep_7 v0) n v1 τ) := by
    refine j_lq1 (Ls := fun v1 => [(0, .ref (adr M v0)), (1, .int v1)]) (st := fun _ => []) ?_
    intro k7 hk7 v1 σ
    unfold fX11_keep_7
    refine j_iload_n C dX11_keep_7 rfl ?_
    refine j_sipush C (v := (174 : Int32)) dX11_keep_8 (by decide) ?_
    refine j_icmp_ge C (tgt := 41) dX11_keep_11 (by decide) ?_ ?_
    · refine j_aload_n C dX11_keep_41 rfl ?_
      refine j_aload_n C dX11_keep_42 rfl ?_
      refine j_getI C dX11_keep_43 fl_RX11_94 h0 (by decide) rfl ?_
      refine j_iconst C (v := (1 : Int32)) dX11_keep_46 (by decide) ?_
      refine j_iadd C dX11_keep_47 ?_
      refine j_bipush C (v := (16 : Int32)) dX11_keep_48 (by decide) ?_
      refine j_irem C dX11_keep_50 (by decide) ?_
      refine j_put C dX11_keep_51 fl_RX11_94 fs_11_2 h0 (by decide) rfl rfl rfl (fun s_51 => ?_)
      refine j_aload_n C dX11_keep_54 rfl ?_
      refine j_aload_n C dX11_keep_55 rfl ?_
      refine j_getI C dX11_keep_56 fl_RX11_97 h0 (by decide) rfl ?_
      refine j_bipush C (v := (16 : Int32)) dX11_keep_59 (by decide) ?_
      refine j_icmp_ge C (tgt := 73) dX11_keep_61 (by decide) ?_ ?_
      · refine j_bipush C (v := (16 : Int32)) dX11_keep_73 (by decide) ?_
        refine j_put C dX11_keep_75 fl_RX11_97 fs_11_3 h0 (by decide) rfl rfl rfl (fun s_75 => ?_)
        exact j_vret C dX11_keep_78
      · refine j_aload_n C dX11_keep_64 rfl ?_
        refine j_getI C dX11_keep_65 fl_RX11_97 h0 (by decide) rfl ?_
        refine j_iconst C (v := (1 : Int32)) dX11_keep_68 (by decide) ?_
        refine j_iadd C dX11_keep_69 ?_
        refine j_goto C (tgt := 75) dX11_keep_70 (by decide) ?_
        refine j_put C dX11_keep_75 fl_RX11_97 fs_11_3 h0 (by decide) rfl rfl rfl (fun s_75 => ?_)
        exact j_vret C dX11_keep_78
    · refine j_aload_n C dX11_keep_14 rfl ?_
      refine j_getR C dX11_keep_15 fl_RX11_13 h0 (by decide) rfl rfl (by decide) (fun h_15 => ?_)
      refine j_sipush C (v := (174 : Int32)) dX11_keep_18 (by decide) ?_
      refine j_aload_n C dX11_keep_21 rfl ?_
      refine j_getI C dX11_keep_22 fl_RX11_94 h0 (by decide) rfl ?_
      refine j_imul C dX11_keep_25 ?_
      refine j_iload_n C dX11_keep_26 rfl ?_
      refine j_iadd C dX11_keep_27 ?_
      refine j_aload_n C dX11_keep_28 rfl ?_
      refine j_getR C dX11_keep_29 fl_RX11_7 h0 (by decide) rfl rfl (by decide) (fun h_29 => ?_)
      refine j_iload_n C dX11_keep_32 rfl ?_
      refine j_iald C dX11_keep_33 h_29 ?_
      refine j_iast C dX11_keep_34 h_15 (fun s_34 => ?_)
      refine j_iinc C (v := (1 : Int32)) (Ls' := fun v1_35 => [(1, .int v1_35), (0, .ref (adr M v0))]) dX11_keep_35 1 rfl (by decide) (by decide) (fun _ => rfl) (fun v1_35 => ?_)
      refine j_goto C (tgt := 7) dX11_keep_38 (by decide) ?_
      refine j_sub (Ls' := [(0, .ref (adr M v0)), (1, .int v1_35)]) [1, 0] rfl ?_
      exact hk7 v1_35 s_34
  unfold fX11_keep
  refine j_aload_n C dX11_keep_0 rfl ?_
  refine j_iconst C (v := (0 : Int32)) dX11_keep_1 (by decide) ?_
  refine j_put C dX11_keep_2 fl_RX11_90 fs_11_9 h0 (by decide) rfl rfl rfl (fun s_2 => ?_)
  refine j_iconst C (v := (0 : Int32)) dX11_keep_5 (by decide) ?_
  refine j_istore_n C (Ls' := fun v1_6 => [(1, .int v1_6), (0, .ref (adr M v0))]) dX11_keep_6 (by decide) (fun _ => rfl) (fun v1_6 => ?_)
  refine j_sub (Ls' := [(0, .ref (adr M v0)), (1, .int v1_6)]) [1, 0] rfl ?_
  exact H7 FU v1_6 s_2
set_option maxRecDepth 20000 in
set_option maxHeartbeats 4000000 in
theorem CX11_undo (l : Launch) (M : Mc) (hD : Dj M) (v0 : Nat) (h0 : isK v0 11) (σ : Sg) : Ct l M yX11_undo cX11_undo 2 (some .int) { frames := 1, cells := 0, slots := 0, locals := 21 } vI [.ref (adr M v0)] σ (fX11_undo v0 σ) := by
  refine ct_of (l := l) hD (by decide) (Nat.le_of_ble_eq_true rfl) ?_
  intro p e s m args below meth c C
  have H47 : ∀  (n : Nat) (v1 : Int32) (τ : Sg), J p l e { frames := 1, cells := 0, slots := 0, locals := 21 } s m args below meth c M 2 vI τ 47 [(0, .ref (adr M v0)), (1, .int v1)] [] (lq1 (fX11_undo_47 v0) n v1 τ) := by
    refine j_lq1 (Ls := fun v1 => [(0, .ref (adr M v0)), (1, .int v1)]) (st := fun _ => []) ?_
    intro k47 hk47 v1 σ
    unfold fX11_undo_47
    refine j_iload_n C dX11_undo_47 rfl ?_
    refine j_sipush C (v := (174 : Int32)) dX11_undo_48 (by decide) ?_
    refine j_icmp_ge C (tgt := 81) dX11_undo_51 (by decide) ?_ ?_
    · refine j_aload_n C dX11_undo_81 rfl ?_
      refine j_getI C dX11_undo_82 fl_RX11_97 h0 (by decide) rfl ?_
      exact j_iret C dX11_undo_85
    · refine j_aload_n C dX11_undo_54 rfl ?_
      refine j_getR C dX11_undo_55 fl_RX11_7 h0 (by decide) rfl rfl (by decide) (fun h_55 => ?_)
      refine j_iload_n C dX11_undo_58 rfl ?_
      refine j_aload_n C dX11_undo_59 rfl ?_
      refine j_getR C dX11_undo_60 fl_RX11_13 h0 (by decide) rfl rfl (by decide) (fun h_60 => ?_)
      refine j_sipush C (v := (174 : Int32)) dX11_undo_63 (by decide) ?_
      refine j_aload_n C dX11_undo_66 rfl ?_
      refine j_getI C dX11_undo_67 fl_RX11_94 h0 (by decide) rfl ?_
      refine j_imul C dX11_undo_70 ?_
      refine j_iload_n C dX11_undo_71 rfl ?_
      refine j_iadd C dX11_undo_72 ?_
      refine j_iald C dX11_undo_73 h_60 ?_
      refine j_iast C dX11_undo_74 h_55 (fun s_74 => ?_)
      refine j_iinc C (v := (1 : Int32)) (Ls' := fun v1_75 => [(1, .int v1_75), (0, .ref (adr M v0))]) dX11_undo_75 1 rfl (by decide) (by decide) (fun _ => rfl) (fun v1_75 => ?_)
      refine j_goto C (tgt := 47) dX11_undo_78 (by decide) ?_
      refine j_sub (Ls' := [(0, .ref (adr M v0)), (1, .int v1_75)]) [1, 0] rfl ?_
      exact hk47 v1_75 s_74
  unfold fX11_undo
  refine j_aload_n C dX11_undo_0 rfl ?_
  refine j_getI C dX11_undo_1 fl_RX11_97 h0 (by decide) rfl ?_
  refine j_if_ne C (tgt := 14) dX11_undo_4 (by decide) ?_ ?_
  · refine j_aload_n C dX11_undo_14 rfl ?_
    refine j_iconst C (v := (0 : Int32)) dX11_undo_15 (by decide) ?_
    refine j_put C dX11_undo_16 fl_RX11_90 fs_11_9 h0 (by decide) rfl rfl rfl (fun s_16 => ?_)
    refine j_aload_n C dX11_undo_19 rfl ?_
    refine j_aload_n C dX11_undo_20 rfl ?_
    refine j_getI C dX11_undo_21 fl_RX11_94 h0 (by decide) rfl ?_
    refine j_bipush C (v := (16 : Int32)) dX11_undo_24 (by decide) ?_
    refine j_iadd C dX11_undo_26 ?_
    refine j_iconst C (v := (1 : Int32)) dX11_undo_27 (by decide) ?_
    refine j_isub C dX11_undo_28 ?_
    refine j_bipush C (v := (16 : Int32)) dX11_undo_29 (by decide) ?_
    refine j_irem C dX11_undo_31 (by decide) ?_
    refine j_put C dX11_undo_32 fl_RX11_94 fs_11_2 h0 (by decide) rfl rfl rfl (fun s_32 => ?_)
    refine j_aload_n C dX11_undo_35 rfl ?_
    refine j_dup C dX11_undo_36 rfl ?_
    refine j_getI C dX11_undo_37 fl_RX11_97 h0 (by decide) rfl ?_
    refine j_iconst C (v := (1 : Int32)) dX11_undo_40 (by decide) ?_
    refine j_isub C dX11_undo_41 ?_
    refine j_put C dX11_undo_42 fl_RX11_97 fs_11_3 h0 (by decide) rfl rfl rfl (fun s_42 => ?_)
    refine j_iconst C (v := (0 : Int32)) dX11_undo_45 (by decide) ?_
    refine j_istore_n C (Ls' := fun v1_46 => [(1, .int v1_46), (0, .ref (adr M v0))]) dX11_undo_46 (by decide) (fun _ => rfl) (fun v1_46 => ?_)
    refine j_sub (Ls' := [(0, .ref (adr M v0)), (1, .int v1_46)]) [1, 0] rfl ?_
    exact H47 FU v1_46 s_42
  · refine j_aload_n C dX11_undo_7 rfl ?_
    refine j_ldc C dX11_undo_8 lc_RX11_100 ?_
    refine j_callVI C (As := [.int ((-100006 : Int32))]) dX11_undo_10 (CX11_finds l M hD v0 h0 (-100006 : Int32) σ) vv_RX11_101 h0 (by decide) rfl rfl ⟨rfl, rfl⟩ (by decide) (Nat.le_of_ble_eq_true rfl) ⟨Nat.zero_le _, Nat.zero_le _⟩ (fun r_10 s_10 => ?_)
    exact j_iret C dX11_undo_13
set_option maxRecDepth 20000 in
set_option maxHeartbeats 4000000 in
theorem CX11_becomes (l : Launch) (M : Mc) (hD : Dj M) (v0 : Nat) (h0 : isK v0 11) (v1 : Int32) (v2 : Int32) (σ : Sg) : Ct l M yX11_becomes cX11_becomes 4 (some .int) { frames := 1, cells := 0, slots := 0, locals := 21 } vI [.ref (adr M v0), .int v1, .int v2] σ (fX11_becomes v0 v1 v2 σ) := by
  refine ct_of (l := l) hD (by decide) (Nat.le_of_ble_eq_true rfl) ?_
  intro p e s m args below meth c C
  unfold fX11_becomes
  refine j_aload_n C dX11_becomes_0 rfl ?_
  refine j_callVv C (As := []) dX11_becomes_1 (CX11_keep l M hD v0 h0 σ) vv_RX11_105 h0 (by decide) rfl rfl ⟨rfl, rfl⟩ (by decide) (Nat.le_of_ble_eq_true rfl) ⟨Nat.zero_le _, Nat.zero_le _⟩ (fun r_1 s_1 => ?_)
  refine j_aload_n C dX11_becomes_4 rfl ?_
  refine j_getR C dX11_becomes_5 fl_RX11_7 h0 (by decide) rfl rfl (by decide) (fun h_5 => ?_)
  refine j_iload_n C dX11_becomes_8 rfl ?_
  refine j_iald C dX11_becomes_9 h_5 ?_
  refine j_istore_n C (Ls' := fun v3_10 => [(3, .int v3_10), (0, .ref (adr M v0)), (1, .int v1), (2, .int v2)]) dX11_becomes_10 (by decide) (fun _ => rfl) (fun v3_10 => ?_)
  refine j_aload_n C dX11_becomes_11 rfl ?_
  refine j_getR C dX11_becomes_12 fl_RX11_7 h0 (by decide) rfl rfl (by decide) (fun h_12 => ?_)
  refine j_iload_n C dX11_becomes_15 rfl ?_
  refine j_iload_n C dX11_becomes_16 rfl ?_
  refine j_iast C dX11_becomes_17 h_12 (fun s_17 => ?_)
  refine j_iload_n C dX11_becomes_18 rfl ?_
  exact j_iret C dX11_becomes_19
set_option maxRecDepth 20000 in
set_option maxHeartbeats 4000000 in
theorem CX11_isStation (l : Launch) (M : Mc) (hD : Dj M) (v0 : Nat) (h0 : isK v0 11) (v1 : Int32) (σ : Sg) : Ct l M yX11_isStation cX11_isStation 2 (some .boolean) { frames := 1, cells := 0, slots := 0, locals := 22 } vI [.ref (adr M v0), .int v1] σ (fX11_isStation v0 v1 σ) := by
  refine ct_of (l := l) hD (by decide) (Nat.le_of_ble_eq_true rfl) ?_
  intro p e s m args below meth c C
  unfold fX11_isStation
  refine j_iload_n C dX11_isStation_0 rfl ?_
  refine j_iconst C (v := (0 : Int32)) dX11_isStation_1 (by decide) ?_
  refine j_aload_n C dX11_isStation_2 rfl ?_
  refine j_getR C dX11_isStation_3 fl_RX11_7 h0 (by decide) rfl rfl (by decide) (fun h_3 => ?_)
  refine j_iconst C (v := (0 : Int32)) dX11_isStation_6 (by decide) ?_
  refine j_iald C dX11_isStation_7 h_3 ?_
  refine j_iconst C (v := (1 : Int32)) dX11_isStation_8 (by decide) ?_
  refine j_isub C dX11_isStation_9 ?_
  refine j_callSI C (As := [.int v1, .int ((0 : Int32)), .int (((σ (rf v0 0) ((0 : Int32)).toNatClampNeg) - (1 : Int32)))]) dX11_isStation_10 (CX11_in l M hD v1 (0 : Int32) ((σ (rf v0 0) ((0 : Int32)).toNatClampNeg) - (1 : Int32)) σ) vs_RX11_108 rfl rfl ⟨rfl, rfl⟩ (by decide) (Nat.le_of_ble_eq_true rfl) ⟨Nat.zero_le _, Nat.zero_le _⟩ (fun r_10 s_10 => ?_)
  exact j_zret C dX11_isStation_13
set_option maxRecDepth 20000 in
set_option maxHeartbeats 4000000 in
theorem CX11_isTrain (l : Launch) (M : Mc) (hD : Dj M) (v0 : Nat) (h0 : isK v0 11) (v1 : Int32) (σ : Sg) : Ct l M yX11_isTrain cX11_isTrain 2 (some .boolean) { frames := 1, cells := 0, slots := 0, locals := 22 } vI [.ref (adr M v0), .int v1] σ (fX11_isTrain v0 v1 σ) := by
  refine ct_of (l := l) hD (by decide) (Nat.le_of_ble_eq_true rfl) ?_
  intro p e s m args below meth c C
  unfold fX11_isTrain
  refine j_iload_n C dX11_isTrain_0 rfl ?_
  refine j_iconst C (v := (0 : Int32)) dX11_isTrain_1 (by decide) ?_
  refine j_aload_n C dX11_isTrain_2 rfl ?_
  refine j_getR C dX11_isTrain_3 fl_RX11_7 h0 (by decide) rfl rfl (by decide) (fun h_3 => ?_)
  refine j_bipush C (v := (14 : Int32)) dX11_isTrain_6 (by decide) ?_
  refine j_iald C dX11_isTrain_8 h_3 ?_
  refine j_iconst C (v := (1 : Int32)) dX11_isTrain_9 (by decide) ?_
  refine j_isub C dX11_isTrain_10 ?_
  refine j_callSI C (As := [.int v1, .int ((0 : Int32)), .int (((σ (rf v0 0) ((14 : Int32)).toNatClampNeg) - (1 : Int32)))]) dX11_isTrain_11 (CX11_in l M hD v1 (0 : Int32) ((σ (rf v0 0) ((14 : Int32)).toNatClampNeg) - (1 : Int32)) σ) vs_RX11_108 rfl rfl ⟨rfl, rfl⟩ (by decide) (Nat.le_of_ble_eq_true rfl) ⟨Nat.zero_le _, Nat.zero_le _⟩ (fun r_11 s_11 => ?_)
  exact j_zret C dX11_isTrain_14
set_option maxRecDepth 20000 in
set_option maxHeartbeats 4000000 in
theorem CX11_isOrder (l : Launch) (M : Mc) (hD : Dj M) (v0 : Nat) (h0 : isK v0 11) (v1 : Int32) (σ : Sg) : Ct l M yX11_isOrder cX11_isOrder 2 (some .boolean) { frames := 1, cells := 0, slots := 0, locals := 22 } vI [.ref (adr M v0), .int v1] σ (fX11_isOrder v0 v1 σ) := by
  refine ct_of (l := l) hD (by decide) (Nat.le_of_ble_eq_true rfl) ?_
  intro p e s m args below meth c C
  unfold fX11_isOrder
  refine j_iload_n C dX11_isOrder_0 rfl ?_
  refine j_iconst C (v := (0 : Int32)) dX11_isOrder_1 (by decide) ?_
  refine j_aload_n C dX11_isOrder_2 rfl ?_
  refine j_getR C dX11_isOrder_3 fl_RX11_7 h0 (by decide) rfl rfl (by decide) (fun h_3 => ?_)
  refine j_bipush C (v := (40 : Int32)) dX11_isOrder_6 (by decide) ?_
  refine j_iald C dX11_isOrder_8 h_3 ?_
  refine j_iconst C (v := (1 : Int32)) dX11_isOrder_9 (by decide) ?_
  refine j_isub C dX11_isOrder_10 ?_
  refine j_callSI C (As := [.int v1, .int ((0 : Int32)), .int (((σ (rf v0 0) ((40 : Int32)).toNatClampNeg) - (1 : Int32)))]) dX11_isOrder_11 (CX11_in l M hD v1 (0 : Int32) ((σ (rf v0 0) ((40 : Int32)).toNatClampNeg) - (1 : Int32)) σ) vs_RX11_108 rfl rfl ⟨rfl, rfl⟩ (by decide) (Nat.le_of_ble_eq_true rfl) ⟨Nat.zero_le _, Nat.zero_le _⟩ (fun r_11 s_11 => ?_)
  exact j_zret C dX11_isOrder_14
set_option maxRecDepth 20000 in
set_option maxHeartbeats 4000000 in
theorem CX11_isMinute (l : Launch) (M : Mc) (hD : Dj M) (v0 : Int32) (σ : Sg) : Ct l M yX11_isMinute cX11_isMinute 1 (some .boolean) { frames := 1, cells := 0, slots := 0, locals := 22 } vI [.int v0] σ (fX11_isMinute v0 σ) := by
  refine ct_of (l := l) hD (by decide) (Nat.le_of_ble_eq_true rfl) ?_
  intro p e s m args below meth c C
  unfold fX11_isMinute
  refine j_iload_n C dX11_isMinute_0 rfl ?_
  refine j_iconst C (v := (0 : Int32)) dX11_isMinute_1 (by decide) ?_
  refine j_sipush C (v := (500 : Int32)) dX11_isMinute_2 (by decide) ?_
  refine j_callSI C (As := [.int v0, .int ((0 : Int32)), .int ((500 : Int32))]) dX11_isMinute_5 (CX11_in l M hD v0 (0 : Int32) (500 : Int32) σ) vs_RX11_108 rfl rfl ⟨rfl, rfl⟩ (by decide) (Nat.le_of_ble_eq_true rfl) ⟨Nat.zero_le _, Nat.zero_le _⟩ (fun r_5 s_5 => ?_)
  exact j_zret C dX11_isMinute_8
set_option maxRecDepth 20000 in
set_option maxHeartbeats 4000000 in
theorem CX11_kindOf (l : Launch) (M : Mc) (hD : Dj M) (v0 : Nat) (h0 : isK v0 11) (v1 : Int32) (σ : Sg) : Ct l M yX11_kindOf cX11_kindOf 2 (some .int) { frames := 0, cells := 0, slots := 0, locals := 0 } vI [.ref (adr M v0), .int v1] σ (fX11_kindOf v0 v1 σ) := by
  refine ct_of (l := l) hD (by decide) (Nat.le_of_ble_eq_true rfl) ?_
  intro p e s m args below meth c C
  unfold fX11_kindOf
  refine j_aload_n C dX11_kindOf_0 rfl ?_
  refine j_getR C dX11_kindOf_1 fl_RX11_7 h0 (by decide) rfl rfl (by decide) (fun h_1 => ?_)
  refine j_bipush C (v := (15 : Int32)) dX11_kindOf_4 (by decide) ?_
  refine j_iconst C (v := (5 : Int32)) dX11_kindOf_6 (by decide) ?_
  refine j_iload_n C dX11_kindOf_7 rfl ?_
  refine j_imul C dX11_kindOf_8 ?_
  refine j_iadd C dX11_kindOf_9 ?_
  refine j_iald C dX11_kindOf_10 h_1 ?_
  exact j_iret C dX11_kindOf_11
set_option maxRecDepth 20000 in
set_option maxHeartbeats 4000000 in
theorem CX11_fromOf (l : Launch) (M : Mc) (hD : Dj M) (v0 : Nat) (h0 : isK v0 11) (v1 : Int32) (σ : Sg) : Ct l M yX11_fromOf cX11_fromOf 2 (some .int) { frames := 0, cells := 0, slots := 0, locals := 0 } vI [.ref (adr M v0), .int v1] σ (fX11_fromOf v0 v1 σ) := by
  refine ct_of (l := l) hD (by decide) (Nat.le_of_ble_eq_true rfl) ?_
  intro p e s m args below meth c C
  unfold fX11_fromOf
  refine j_aload_n C dX11_fromOf_0 rfl ?_
  refine j_getR C dX11_fromOf_1 fl_RX11_7 h0 (by decide) rfl rfl (by decide) (fun h_1 => ?_)
  refine j_bipush C (v := (15 : Int32)) dX11_fromOf_4 (by decide) ?_
  refine j_iconst C (v := (5 : Int32)) dX11_fromOf_6 (by decide) ?_
  refine j_iload_n C dX11_fromOf_7 rfl ?_
  refine j_imul C dX11_fromOf_8 ?_
  refine j_iadd C dX11_fromOf_9 ?_
  refine j_iconst C (v := (1 : Int32)) dX11_fromOf_10 (by decide) ?_
  refine j_iadd C dX11_fromOf_11 ?_
  refine j_iald C dX11_fromOf_12 h_1 ?_
  exact j_iret C dX11_fromOf_13
set_option maxRecDepth 20000 in
set_option maxHeartbeats 4000000 in
theorem CX11_toOf (l : Launch) (M : Mc) (hD : Dj M) (v0 : Nat) (h0 : isK v0 11) (v1 : Int32) (σ : Sg) : Ct l M yX11_toOf cX11_toOf 2 (some .int) { frames := 0, cells := 0, slots := 0, locals := 0 } vI [.ref (adr M v0), .int v1] σ (fX11_toOf v0 v1 σ) := by
  refine ct_of (l := l) hD (by decide) (Nat.le_of_ble_eq_true rfl) ?_
  intro p e s m args below meth c C
  unfold fX11_toOf
  refine j_aload_n C dX11_toOf_0 rfl ?_
  refine j_getR C dX11_toOf_1 fl_RX11_7 h0 (by decide) rfl rfl (by decide) (fun h_1 => ?_)
  refine j_bipush C (v := (15 : Int32)) dX11_toOf_4 (by decide) ?_
  refine j_iconst C (v := (5 : Int32)) dX11_toOf_6 (by decide) ?_
  refine j_iload_n C dX11_toOf_7 rfl ?_
  refine j_imul C dX11_toOf_8 ?_
  refine j_iadd C dX11_toOf_9 ?_
  refine j_iconst C (v := (2 : Int32)) dX11_toOf_10 (by decide) ?_
  refine j_iadd C dX11_toOf_11 ?_
  refine j_iald C dX11_toOf_12 h_1 ?_
  exact j_iret C dX11_toOf_13
set_option maxRecDepth 20000 in
set_option maxHeartbeats 4000000 in
theorem CX11_timeOf (l : Launch) (M : Mc) (hD : Dj M) (v0 : Nat) (h0 : isK v0 11) (v1 : Int32) (σ : Sg) : Ct l M yX11_timeOf cX11_timeOf 2 (some .int) { frames := 0, cells := 0, slots := 0, locals := 0 } vI [.ref (adr M v0), .int v1] σ (fX11_timeOf v0 v1 σ) := by
  refine ct_of (l := l) hD (by decide) (Nat.le_of_ble_eq_true rfl) ?_
  intro p e s m args below meth c C
  unfold fX11_timeOf
  refine j_aload_n C dX11_timeOf_0 rfl ?_
  refine j_getR C dX11_timeOf_1 fl_RX11_7 h0 (by decide) rfl rfl (by decide) (fun h_1 => ?_)
  refine j_bipush C (v := (15 : Int32)) dX11_timeOf_4 (by decide) ?_
  refine j_iconst C (v := (5 : Int32)) dX11_timeOf_6 (by decide) ?_
  refine j_iload_n C dX11_timeOf_7 rfl ?_
  refine j_imul C dX11_timeOf_8 ?_
  refine j_iadd C dX11_timeOf_9 ?_
  refine j_iconst C (v := (4 : Int32)) dX11_timeOf_10 (by decide) ?_
  refine j_iadd C dX11_timeOf_11 ?_
  refine j_iald C dX11_timeOf_12 h_1 ?_
  exact j_iret C dX11_timeOf_13
set_option maxRecDepth 20000 in
set_option maxHeartbeats 4000000 in
theorem CX11_wayOf (l : Launch) (M : Mc) (hD : Dj M) (v0 : Nat) (h0 : isK v0 11) (v1 : Int32) (σ : Sg) : Ct l M yX11_wayOf cX11_wayOf 2 (some .int) { frames := 1, cells := 0, slots := 0, locals := 21 } vI [.ref (adr M v0), .int v1] σ (fX11_wayOf v0 v1 σ) := by
  refine ct_of (l := l) hD (by decide) (Nat.le_of_ble_eq_true rfl) ?_
  intro p e s m args below meth c C
  unfold fX11_wayOf
  refine j_aload_n C dX11_wayOf_0 rfl ?_
  refine j_iload_n C dX11_wayOf_1 rfl ?_
  refine j_callVI C (As := [.int v1]) dX11_wayOf_2 (CX11_toOf l M hD v0 h0 v1 σ) vv_RX11_112 h0 (by decide) rfl rfl ⟨rfl, rfl⟩ (by decide) (Nat.le_of_ble_eq_true rfl) ⟨Nat.zero_le _, Nat.zero_le _⟩ (fun r_2 s_2 => ?_)
  refine j_aload_n C dX11_wayOf_5 rfl ?_
  refine j_iload_n C dX11_wayOf_6 rfl ?_
  refine j_callVI C (As := [.int v1]) dX11_wayOf_7 (CX11_fromOf l M hD v0 h0 v1 s_2) vv_RX11_115 h0 (by decide) rfl rfl ⟨rfl, rfl⟩ (by decide) (Nat.le_of_ble_eq_true rfl) ⟨Nat.zero_le _, Nat.zero_le _⟩ (fun r_7 s_7 => ?_)
  refine j_icmp_le C (tgt := 17) dX11_wayOf_10 (by decide) ?_ ?_
  · refine j_iconst C (v := (1 : Int32)) dX11_wayOf_17 (by decide) ?_
    exact j_iret C dX11_wayOf_18
  · refine j_iconst C (v := (0 : Int32)) dX11_wayOf_13 (by decide) ?_
    refine j_goto C (tgt := 18) dX11_wayOf_14 (by decide) ?_
    exact j_iret C dX11_wayOf_18
set_option maxRecDepth 20000 in
set_option maxHeartbeats 4000000 in
theorem CX11_stationOf (l : Launch) (M : Mc) (hD : Dj M) (v0 : Nat) (h0 : isK v0 11) (v1 : Int32) (σ : Sg) : Ct l M yX11_stationOf cX11_stationOf 2 (some .int) { frames := 0, cells := 0, slots := 0, locals := 0 } vI [.ref (adr M v0), .int v1] σ (fX11_stationOf v0 v1 σ) := by
  refine ct_of (l := l) hD (by decide) (Nat.le_of_ble_eq_true rfl) ?_
  intro p e s m args below meth c C
  unfold fX11_stationOf
  refine j_aload_n C dX11_stationOf_0 rfl ?_
  refine j_getR C dX11_stationOf_1 fl_RX11_7 h0 (by decide) rfl rfl (by decide) (fun h_1 => ?_)
  refine j_bipush C (v := (41 : Int32)) dX11_stationOf_4 (by decide) ?_
  refine j_iconst C (v := (5 : Int32)) dX11_stationOf_6 (by decide) ?_
  refine j_iload_n C dX11_stationOf_7 rfl ?_
  refine j_imul C dX11_stationOf_8 ?_
  refine j_iadd C dX11_stationOf_9 ?_
  refine j_iconst C (v := (3 : Int32)) dX11_stationOf_10 (by decide) ?_
  refine j_iadd C dX11_stationOf_11 ?_
  refine j_iald C dX11_stationOf_12 h_1 ?_
  exact j_iret C dX11_stationOf_13
set_option maxRecDepth 20000 in
set_option maxHeartbeats 4000000 in
theorem CX11_stations (l : Launch) (M : Mc) (hD : Dj M) (v0 : Nat) (h0 : isK v0 11) (v1 : Int32) (σ : Sg) : Ct l M yX11_stations cX11_stations 3 (some .int) { frames := 2, cells := 0, slots := 0, locals := 44 } vI [.ref (adr M v0), .int v1] σ (fX11_stations v0 v1 σ) := by
  refine ct_of (l := l) hD (by decide) (Nat.le_of_ble_eq_true rfl) ?_
  intro p e s m args below meth c C
  have H63 : ∀  (n : Nat) (v2 : Int32) (τ : Sg), J p l e { frames := 2, cells := 0, slots := 0, locals := 44 } s m args below meth c M 3 vI τ 63 [(0, .ref (adr M v0)), (1, .int v1), (2, .int v2)] [] (lq1 (fX11_stations_63 v0 v1) n v2 τ) := by
    refine j_lq1 (Ls := fun v2 => [(0, .ref (adr M v0)), (1, .int v1), (2, .int v2)]) (st := fun _ => []) ?_
    intro k63 hk63 v2 σ
    unfold fX11_stations_63
    refine j_iload_n C dX11_stations_63 rfl ?_
    refine j_aload_n C dX11_stations_64 rfl ?_
    refine j_getR C dX11_stations_65 fl_RX11_7 h0 (by decide) rfl rfl (by decide) (fun h_65 => ?_)
    refine j_bipush C (v := (40 : Int32)) dX11_stations_68 (by decide) ?_
    refine j_iald C dX11_stations_70 h_65 ?_
    refine j_icmp_ge C (tgt := 96) dX11_stations_71 (by decide) ?_ ?_
    · refine j_aload_n C dX11_stations_96 rfl ?_
      refine j_iconst C (v := (0 : Int32)) dX11_stations_97 (by decide) ?_
      refine j_iload_n C dX11_stations_98 rfl ?_
      refine j_callVI C (As := [.int ((0 : Int32)), .int v1]) dX11_stations_99 (CX11_becomes l M hD v0 h0 (0 : Int32) v1 σ) vv_RX11_123 h0 (by decide) rfl rfl ⟨rfl, rfl⟩ (by decide) (Nat.le_of_ble_eq_true rfl) ⟨Nat.zero_le _, Nat.zero_le _⟩ (fun r_99 s_99 => ?_)
      exact j_iret C dX11_stations_102
    · refine j_aload_n C dX11_stations_74 rfl ?_
      refine j_iload_n C dX11_stations_75 rfl ?_
      refine j_callVI C (As := [.int v2]) dX11_stations_76 (CX11_stationOf l M hD v0 h0 v2 σ) vv_RX11_120 h0 (by decide) rfl rfl ⟨rfl, rfl⟩ (by decide) (Nat.le_of_ble_eq_true rfl) ⟨Nat.zero_le _, Nat.zero_le _⟩ (fun r_76 s_76 => ?_)
      refine j_iload_n C dX11_stations_79 rfl ?_
      refine j_icmp_lt C (tgt := 90) dX11_stations_80 (by decide) ?_ ?_
      · refine j_iinc C (v := (1 : Int32)) (Ls' := fun v2_90 => [(2, .int v2_90), (0, .ref (adr M v0)), (1, .int v1)]) dX11_stations_90 2 rfl (by decide) (by decide) (fun _ => rfl) (fun v2_90 => ?_)
        refine j_goto C (tgt := 63) dX11_stations_93 (by decide) ?_
        refine j_sub (Ls' := [(0, .ref (adr M v0)), (1, .int v1), (2, .int v2_90)]) [1, 2, 0] rfl ?_
        exact hk63 v2_90 s_76
      · refine j_aload_n C dX11_stations_83 rfl ?_
        refine j_ldc C dX11_stations_84 lc_RX11_119 ?_
        refine j_callVI C (As := [.int ((-100007 : Int32))]) dX11_stations_86 (CX11_finds l M hD v0 h0 (-100007 : Int32) s_76) vv_RX11_101 h0 (by decide) rfl rfl ⟨rfl, rfl⟩ (by decide) (Nat.le_of_ble_eq_true rfl) ⟨Nat.zero_le _, Nat.zero_le _⟩ (fun r_86 s_86 => ?_)
        exact j_iret C dX11_stations_89
  have H19 : ∀  (n : Nat) (v2 : Int32) (τ : Sg), J p l e { frames := 2, cells := 0, slots := 0, locals := 44 } s m args below meth c M 3 vI τ 19 [(0, .ref (adr M v0)), (1, .int v1), (2, .int v2)] [] (lq1 (fX11_stations_19 v0 v1) n v2 τ) := by
    refine j_lq1 (Ls := fun v2 => [(0, .ref (adr M v0)), (1, .int v1), (2, .int v2)]) (st := fun _ => []) ?_
    intro k19 hk19 v2 σ
    unfold fX11_stations_19
    refine j_iload_n C dX11_stations_19 rfl ?_
    refine j_aload_n C dX11_stations_20 rfl ?_
    refine j_getR C dX11_stations_21 fl_RX11_7 h0 (by decide) rfl rfl (by decide) (fun h_21 => ?_)
    refine j_bipush C (v := (14 : Int32)) dX11_stations_24 (by decide) ?_
    refine j_iald C dX11_stations_26 h_21 ?_
    refine j_icmp_ge C (tgt := 61) dX11_stations_27 (by decide) ?_ ?_
    · refine j_iconst C (v := (0 : Int32)) dX11_stations_61 (by decide) ?_
      refine j_istore_n C (Ls' := fun v2_62 => [(2, .int v2_62), (0, .ref (adr M v0)), (1, .int v1)]) dX11_stations_62 (by decide) (fun _ => rfl) (fun v2_62 => ?_)
      refine j_sub (Ls' := [(0, .ref (adr M v0)), (1, .int v1), (2, .int v2_62)]) [1, 2, 0] rfl ?_
      exact H63 FU v2_62 σ
    · refine j_aload_n C dX11_stations_30 rfl ?_
      refine j_iload_n C dX11_stations_31 rfl ?_
      refine j_callVI C (As := [.int v2]) dX11_stations_32 (CX11_fromOf l M hD v0 h0 v2 σ) vv_RX11_115 h0 (by decide) rfl rfl ⟨rfl, rfl⟩ (by decide) (Nat.le_of_ble_eq_true rfl) ⟨Nat.zero_le _, Nat.zero_le _⟩ (fun r_32 s_32 => ?_)
      refine j_iload_n C dX11_stations_35 rfl ?_
      refine j_icmp_ge C (tgt := 48) dX11_stations_36 (by decide) ?_ ?_
      · refine j_aload_n C dX11_stations_48 rfl ?_
        refine j_ldc C dX11_stations_49 lc_RX11_119 ?_
        refine j_callVI C (As := [.int ((-100007 : Int32))]) dX11_stations_51 (CX11_finds l M hD v0 h0 (-100007 : Int32) s_32) vv_RX11_101 h0 (by decide) rfl rfl ⟨rfl, rfl⟩ (by decide) (Nat.le_of_ble_eq_true rfl) ⟨Nat.zero_le _, Nat.zero_le _⟩ (fun r_51 s_51 => ?_)
        exact j_iret C dX11_stations_54
      · refine j_aload_n C dX11_stations_39 rfl ?_
        refine j_iload_n C dX11_stations_40 rfl ?_
        refine j_callVI C (As := [.int v2]) dX11_stations_41 (CX11_toOf l M hD v0 h0 v2 s_32) vv_RX11_112 h0 (by decide) rfl rfl ⟨rfl, rfl⟩ (by decide) (Nat.le_of_ble_eq_true rfl) ⟨Nat.zero_le _, Nat.zero_le _⟩ (fun r_41 s_41 => ?_)
        refine j_iload_n C dX11_stations_44 rfl ?_
        refine j_icmp_lt C (tgt := 55) dX11_stations_45 (by decide) ?_ ?_
        · refine j_iinc C (v := (1 : Int32)) (Ls' := fun v2_55 => [(2, .int v2_55), (0, .ref (adr M v0)), (1, .int v1)]) dX11_stations_55 2 rfl (by decide) (by decide) (fun _ => rfl) (fun v2_55 => ?_)
          refine j_goto C (tgt := 19) dX11_stations_58 (by decide) ?_
          refine j_sub (Ls' := [(0, .ref (adr M v0)), (1, .int v1), (2, .int v2_55)]) [1, 2, 0] rfl ?_
          exact hk19 v2_55 s_41
        · refine j_aload_n C dX11_stations_48 rfl ?_
          refine j_ldc C dX11_stations_49 lc_RX11_119 ?_
          refine j_callVI C (As := [.int ((-100007 : Int32))]) dX11_stations_51 (CX11_finds l M hD v0 h0 (-100007 : Int32) s_41) vv_RX11_101 h0 (by decide) rfl rfl ⟨rfl, rfl⟩ (by decide) (Nat.le_of_ble_eq_true rfl) ⟨Nat.zero_le _, Nat.zero_le _⟩ (fun r_51 s_51 => ?_)
          exact j_iret C dX11_stations_54
  unfold fX11_stations
  refine j_iload_n C dX11_stations_0 rfl ?_
  refine j_iconst C (v := (2 : Int32)) dX11_stations_1 (by decide) ?_
  refine j_bipush C (v := (7 : Int32)) dX11_stations_2 (by decide) ?_
  refine j_callSI C (As := [.int v1, .int ((2 : Int32)), .int ((7 : Int32))]) dX11_stations_4 (CX11_in l M hD v1 (2 : Int32) (7 : Int32) σ) vs_RX11_108 rfl rfl ⟨rfl, rfl⟩ (by decide) (Nat.le_of_ble_eq_true rfl) ⟨Nat.zero_le _, Nat.zero_le _⟩ (fun r_4 s_4 => ?_)
  refine j_if_ne C (tgt := 17) dX11_stations_7 (by decide) ?_ ?_
  · refine j_iconst C (v := (0 : Int32)) dX11_stations_17 (by decide) ?_
    refine j_istore_n C (Ls' := fun v2_18 => [(2, .int v2_18), (0, .ref (adr M v0)), (1, .int v1)]) dX11_stations_18 (by decide) (fun _ => rfl) (fun v2_18 => ?_)
    refine j_sub (Ls' := [(0, .ref (adr M v0)), (1, .int v1), (2, .int v2_18)]) [1, 2, 0] rfl ?_
    exact H19 FU v2_18 s_4
  · refine j_aload_n C dX11_stations_10 rfl ?_
    refine j_ldc C dX11_stations_11 lc_RX11_118 ?_
    refine j_callVI C (As := [.int ((-100001 : Int32))]) dX11_stations_13 (CX11_finds l M hD v0 h0 (-100001 : Int32) s_4) vv_RX11_101 h0 (by decide) rfl rfl ⟨rfl, rfl⟩ (by decide) (Nat.le_of_ble_eq_true rfl) ⟨Nat.zero_le _, Nat.zero_le _⟩ (fun r_13 s_13 => ?_)
    exact j_iret C dX11_stations_16
set_option maxRecDepth 20000 in
set_option maxHeartbeats 4000000 in
theorem CX11_siding (l : Launch) (M : Mc) (hD : Dj M) (v0 : Nat) (h0 : isK v0 11) (v1 : Int32) (v2 : Int32) (σ : Sg) : Ct l M yX11_siding cX11_siding 3 (some .int) { frames := 2, cells := 0, slots := 0, locals := 44 } vI [.ref (adr M v0), .int v1, .int v2] σ (fX11_siding v0 v1 v2 σ) := by
  refine ct_of (l := l) hD (by decide) (Nat.le_of_ble_eq_true rfl) ?_
  intro p e s m args below meth c C
  unfold fX11_siding
  refine j_aload_n C dX11_siding_0 rfl ?_
  refine j_iload_n C dX11_siding_1 rfl ?_
  refine j_callVI C (As := [.int v1]) dX11_siding_2 (CX11_isStation l M hD v0 h0 v1 σ) vv_RX11_127 h0 (by decide) rfl rfl ⟨rfl, rfl⟩ (by decide) (Nat.le_of_ble_eq_true rfl) ⟨Nat.zero_le _, Nat.zero_le _⟩ (fun r_2 s_2 => ?_)
  refine j_if_eq C (tgt := 29) dX11_siding_5 (by decide) ?_ ?_
  · refine j_aload_n C dX11_siding_29 rfl ?_
    refine j_ldc C dX11_siding_30 lc_RX11_118 ?_
    refine j_callVI C (As := [.int ((-100001 : Int32))]) dX11_siding_32 (CX11_finds l M hD v0 h0 (-100001 : Int32) s_2) vv_RX11_101 h0 (by decide) rfl rfl ⟨rfl, rfl⟩ (by decide) (Nat.le_of_ble_eq_true rfl) ⟨Nat.zero_le _, Nat.zero_le _⟩ (fun r_32 s_32 => ?_)
    exact j_iret C dX11_siding_35
  · refine j_iload_n C dX11_siding_8 rfl ?_
    refine j_iconst C (v := (0 : Int32)) dX11_siding_9 (by decide) ?_
    refine j_bipush C (v := (30 : Int32)) dX11_siding_10 (by decide) ?_
    refine j_callSI C (As := [.int v2, .int ((0 : Int32)), .int ((30 : Int32))]) dX11_siding_12 (CX11_in l M hD v2 (0 : Int32) (30 : Int32) s_2) vs_RX11_108 rfl rfl ⟨rfl, rfl⟩ (by decide) (Nat.le_of_ble_eq_true rfl) ⟨Nat.zero_le _, Nat.zero_le _⟩ (fun r_12 s_12 => ?_)
    refine j_if_eq C (tgt := 29) dX11_siding_15 (by decide) ?_ ?_
    · refine j_aload_n C dX11_siding_29 rfl ?_
      refine j_ldc C dX11_siding_30 lc_RX11_118 ?_
      refine j_callVI C (As := [.int ((-100001 : Int32))]) dX11_siding_32 (CX11_finds l M hD v0 h0 (-100001 : Int32) s_12) vv_RX11_101 h0 (by decide) rfl rfl ⟨rfl, rfl⟩ (by decide) (Nat.le_of_ble_eq_true rfl) ⟨Nat.zero_le _, Nat.zero_le _⟩ (fun r_32 s_32 => ?_)
      exact j_iret C dX11_siding_35
    · refine j_aload_n C dX11_siding_18 rfl ?_
      refine j_iconst C (v := (1 : Int32)) dX11_siding_19 (by decide) ?_
      refine j_iload_n C dX11_siding_20 rfl ?_
      refine j_iadd C dX11_siding_21 ?_
      refine j_iload_n C dX11_siding_22 rfl ?_
      refine j_callVI C (As := [.int (((1 : Int32) + v1)), .int v2]) dX11_siding_23 (CX11_becomes l M hD v0 h0 ((1 : Int32) + v1) v2 s_12) vv_RX11_123 h0 (by decide) rfl rfl ⟨rfl, rfl⟩ (by decide) (Nat.le_of_ble_eq_true rfl) ⟨Nat.zero_le _, Nat.zero_le _⟩ (fun r_23 s_23 => ?_)
      refine j_goto C (tgt := 35) dX11_siding_26 (by decide) ?_
      exact j_iret C dX11_siding_35
set_option maxRecDepth 20000 in
set_option maxHeartbeats 4000000 in
theorem CX11_section (l : Launch) (M : Mc) (hD : Dj M) (v0 : Nat) (h0 : isK v0 11) (v1 : Int32) (v2 : Int32) (σ : Sg) : Ct l M yX11_section cX11_section 3 (some .int) { frames := 2, cells := 0, slots := 0, locals := 44 } vI [.ref (adr M v0), .int v1, .int v2] σ (fX11_section v0 v1 v2 σ) := by
  refine ct_of (l := l) hD (by decide) (Nat.le_of_ble_eq_true rfl) ?_
  intro p e s m args below meth c C
  unfold fX11_section
  refine j_iload_n C dX11_section_0 rfl ?_
  refine j_iconst C (v := (0 : Int32)) dX11_section_1 (by decide) ?_
  refine j_aload_n C dX11_section_2 rfl ?_
  refine j_getR C dX11_section_3 fl_RX11_7 h0 (by decide) rfl rfl (by decide) (fun h_3 => ?_)
  refine j_iconst C (v := (0 : Int32)) dX11_section_6 (by decide) ?_
  refine j_iald C dX11_section_7 h_3 ?_
  refine j_iconst C (v := (2 : Int32)) dX11_section_8 (by decide) ?_
  refine j_isub C dX11_section_9 ?_
  refine j_callSI C (As := [.int v1, .int ((0 : Int32)), .int (((σ (rf v0 0) ((0 : Int32)).toNatClampNeg) - (2 : Int32)))]) dX11_section_10 (CX11_in l M hD v1 (0 : Int32) ((σ (rf v0 0) ((0 : Int32)).toNatClampNeg) - (2 : Int32)) σ) vs_RX11_108 rfl rfl ⟨rfl, rfl⟩ (by decide) (Nat.le_of_ble_eq_true rfl) ⟨Nat.zero_le _, Nat.zero_le _⟩ (fun r_10 s_10 => ?_)
  refine j_if_eq C (tgt := 38) dX11_section_13 (by decide) ?_ ?_
  · refine j_aload_n C dX11_section_38 rfl ?_
    refine j_ldc C dX11_section_39 lc_RX11_118 ?_
    refine j_callVI C (As := [.int ((-100001 : Int32))]) dX11_section_41 (CX11_finds l M hD v0 h0 (-100001 : Int32) s_10) vv_RX11_101 h0 (by decide) rfl rfl ⟨rfl, rfl⟩ (by decide) (Nat.le_of_ble_eq_true rfl) ⟨Nat.zero_le _, Nat.zero_le _⟩ (fun r_41 s_41 => ?_)
    exact j_iret C dX11_section_44
  · refine j_iload_n C dX11_section_16 rfl ?_
    refine j_iconst C (v := (1 : Int32)) dX11_section_17 (by decide) ?_
    refine j_bipush C (v := (30 : Int32)) dX11_section_18 (by decide) ?_
    refine j_callSI C (As := [.int v2, .int ((1 : Int32)), .int ((30 : Int32))]) dX11_section_20 (CX11_in l M hD v2 (1 : Int32) (30 : Int32) s_10) vs_RX11_108 rfl rfl ⟨rfl, rfl⟩ (by decide) (Nat.le_of_ble_eq_true rfl) ⟨Nat.zero_le _, Nat.zero_le _⟩ (fun r_20 s_20 => ?_)
    refine j_if_eq C (tgt := 38) dX11_section_23 (by decide) ?_ ?_
    · refine j_aload_n C dX11_section_38 rfl ?_
      refine j_ldc C dX11_section_39 lc_RX11_118 ?_
      refine j_callVI C (As := [.int ((-100001 : Int32))]) dX11_section_41 (CX11_finds l M hD v0 h0 (-100001 : Int32) s_20) vv_RX11_101 h0 (by decide) rfl rfl ⟨rfl, rfl⟩ (by decide) (Nat.le_of_ble_eq_true rfl) ⟨Nat.zero_le _, Nat.zero_le _⟩ (fun r_41 s_41 => ?_)
      exact j_iret C dX11_section_44
    · refine j_aload_n C dX11_section_26 rfl ?_
      refine j_bipush C (v := (8 : Int32)) dX11_section_27 (by decide) ?_
      refine j_iload_n C dX11_section_29 rfl ?_
      refine j_iadd C dX11_section_30 ?_
      refine j_iload_n C dX11_section_31 rfl ?_
      refine j_callVI C (As := [.int (((8 : Int32) + v1)), .int v2]) dX11_section_32 (CX11_becomes l M hD v0 h0 ((8 : Int32) + v1) v2 s_20) vv_RX11_123 h0 (by decide) rfl rfl ⟨rfl, rfl⟩ (by decide) (Nat.le_of_ble_eq_true rfl) ⟨Nat.zero_le _, Nat.zero_le _⟩ (fun r_32 s_32 => ?_)
      refine j_goto C (tgt := 44) dX11_section_35 (by decide) ?_
      exact j_iret C dX11_section_44
set_option maxRecDepth 20000 in
set_option maxHeartbeats 4000000 in
theorem CX11_train (l : Launch) (M : Mc) (hD : Dj M) (v0 : Nat) (h0 : isK v0 11) (v1 : Int32) (v2 : Int32) (v3 : Int32) (v4 : Int32) (v5 : Int32) (σ : Sg) : Ct l M yX11_train cX11_train 7 (some .int) { frames := 2, cells := 0, slots := 0, locals := 43 } vI [.ref (adr M v0), .int v1, .int v2, .int v3, .int v4, .int v5] σ (fX11_train v0 v1 v2 v3 v4 v5 σ) := by
  refine ct_of (l := l) hD (by decide) (Nat.le_of_ble_eq_true rfl) ?_
  intro p e s m args below meth c C
  unfold fX11_train
  refine j_iload_n C dX11_train_0 rfl ?_
  refine j_iconst C (v := (0 : Int32)) dX11_train_1 (by decide) ?_
  refine j_iconst C (v := (3 : Int32)) dX11_train_2 (by decide) ?_
  refine j_callSI C (As := [.int v1, .int ((0 : Int32)), .int ((3 : Int32))]) dX11_train_3 (CX11_in l M hD v1 (0 : Int32) (3 : Int32) σ) vs_RX11_108 rfl rfl ⟨rfl, rfl⟩ (by decide) (Nat.le_of_ble_eq_true rfl) ⟨Nat.zero_le _, Nat.zero_le _⟩ (fun r_3 s_3 => ?_)
  refine j_if_eq C (tgt := 48) dX11_train_6 (by decide) ?_ ?_
  · refine j_aload_n C dX11_train_48 rfl ?_
    refine j_ldc C dX11_train_49 lc_RX11_118 ?_
    refine j_callVI C (As := [.int ((-100001 : Int32))]) dX11_train_51 (CX11_finds l M hD v0 h0 (-100001 : Int32) s_3) vv_RX11_101 h0 (by decide) rfl rfl ⟨rfl, rfl⟩ (by decide) (Nat.le_of_ble_eq_true rfl) ⟨Nat.zero_le _, Nat.zero_le _⟩ (fun r_51 s_51 => ?_)
    exact j_iret C dX11_train_54
  · refine j_aload_n C dX11_train_9 rfl ?_
    refine j_iload_n C dX11_train_10 rfl ?_
    refine j_callVI C (As := [.int v2]) dX11_train_11 (CX11_isStation l M hD v0 h0 v2 s_3) vv_RX11_127 h0 (by decide) rfl rfl ⟨rfl, rfl⟩ (by decide) (Nat.le_of_ble_eq_true rfl) ⟨Nat.zero_le _, Nat.zero_le _⟩ (fun r_11 s_11 => ?_)
    refine j_if_eq C (tgt := 48) dX11_train_14 (by decide) ?_ ?_
    · refine j_aload_n C dX11_train_48 rfl ?_
      refine j_ldc C dX11_train_49 lc_RX11_118 ?_
      refine j_callVI C (As := [.int ((-100001 : Int32))]) dX11_train_51 (CX11_finds l M hD v0 h0 (-100001 : Int32) s_11) vv_RX11_101 h0 (by decide) rfl rfl ⟨rfl, rfl⟩ (by decide) (Nat.le_of_ble_eq_true rfl) ⟨Nat.zero_le _, Nat.zero_le _⟩ (fun r_51 s_51 => ?_)
      exact j_iret C dX11_train_54
    · refine j_aload_n C dX11_train_17 rfl ?_
      refine j_iload_n C dX11_train_18 rfl ?_
      refine j_callVI C (As := [.int v3]) dX11_train_19 (CX11_isStation l M hD v0 h0 v3 s_11) vv_RX11_127 h0 (by decide) rfl rfl ⟨rfl, rfl⟩ (by decide) (Nat.le_of_ble_eq_true rfl) ⟨Nat.zero_le _, Nat.zero_le _⟩ (fun r_19 s_19 => ?_)
      refine j_if_eq C (tgt := 48) dX11_train_22 (by decide) ?_ ?_
      · refine j_aload_n C dX11_train_48 rfl ?_
        refine j_ldc C dX11_train_49 lc_RX11_118 ?_
        refine j_callVI C (As := [.int ((-100001 : Int32))]) dX11_train_51 (CX11_finds l M hD v0 h0 (-100001 : Int32) s_19) vv_RX11_101 h0 (by decide) rfl rfl ⟨rfl, rfl⟩ (by decide) (Nat.le_of_ble_eq_true rfl) ⟨Nat.zero_le _, Nat.zero_le _⟩ (fun r_51 s_51 => ?_)
        exact j_iret C dX11_train_54
      · refine j_iload C dX11_train_25 rfl ?_
        refine j_iconst C (v := (1 : Int32)) dX11_train_27 (by decide) ?_
        refine j_bipush C (v := (30 : Int32)) dX11_train_28 (by decide) ?_
        refine j_callSI C (As := [.int v4, .int ((1 : Int32)), .int ((30 : Int32))]) dX11_train_30 (CX11_in l M hD v4 (1 : Int32) (30 : Int32) s_19) vs_RX11_108 rfl rfl ⟨rfl, rfl⟩ (by decide) (Nat.le_of_ble_eq_true rfl) ⟨Nat.zero_le _, Nat.zero_le _⟩ (fun r_30 s_30 => ?_)
        refine j_if_eq C (tgt := 48) dX11_train_33 (by decide) ?_ ?_
        · refine j_aload_n C dX11_train_48 rfl ?_
          refine j_ldc C dX11_train_49 lc_RX11_118 ?_
          refine j_callVI C (As := [.int ((-100001 : Int32))]) dX11_train_51 (CX11_finds l M hD v0 h0 (-100001 : Int32) s_30) vv_RX11_101 h0 (by decide) rfl rfl ⟨rfl, rfl⟩ (by decide) (Nat.le_of_ble_eq_true rfl) ⟨Nat.zero_le _, Nat.zero_le _⟩ (fun r_51 s_51 => ?_)
          exact j_iret C dX11_train_54
        · refine j_iload C dX11_train_36 rfl ?_
          refine j_iconst C (v := (0 : Int32)) dX11_train_38 (by decide) ?_
          refine j_sipush C (v := (300 : Int32)) dX11_train_39 (by decide) ?_
          refine j_callSI C (As := [.int v5, .int ((0 : Int32)), .int ((300 : Int32))]) dX11_train_42 (CX11_in l M hD v5 (0 : Int32) (300 : Int32) s_30) vs_RX11_108 rfl rfl ⟨rfl, rfl⟩ (by decide) (Nat.le_of_ble_eq_true rfl) ⟨Nat.zero_le _, Nat.zero_le _⟩ (fun r_42 s_42 => ?_)
          refine j_if_ne C (tgt := 55) dX11_train_45 (by decide) ?_ ?_
          · refine j_iload_n C dX11_train_55 rfl ?_
            refine j_iload_n C dX11_train_56 rfl ?_
            refine j_icmp_ne C (tgt := 67) dX11_train_57 (by decide) ?_ ?_
            · refine j_aload_n C dX11_train_67 rfl ?_
              refine j_getR C dX11_train_68 fl_RX11_7 h0 (by decide) rfl rfl (by decide) (fun h_68 => ?_)
              refine j_bipush C (v := (14 : Int32)) dX11_train_71 (by decide) ?_
              refine j_iald C dX11_train_73 h_68 ?_
              refine j_istore C (Ls' := fun v6_74 => [(6, .int v6_74), (0, .ref (adr M v0)), (1, .int v1), (2, .int v2), (3, .int v3), (4, .int v4), (5, .int v5)]) dX11_train_74 (by decide) (fun _ => rfl) (fun v6_74 => ?_)
              refine j_iload C dX11_train_76 rfl ?_
              refine j_iconst C (v := (5 : Int32)) dX11_train_78 (by decide) ?_
              refine j_icmp_ne C (tgt := 89) dX11_train_79 (by decide) ?_ ?_
              · refine j_aload_n C dX11_train_89 rfl ?_
                refine j_callVv C (As := []) dX11_train_90 (CX11_keep l M hD v0 h0 s_42) vv_RX11_105 h0 (by decide) rfl rfl ⟨rfl, rfl⟩ (by decide) (Nat.le_of_ble_eq_true rfl) ⟨Nat.zero_le _, Nat.zero_le _⟩ (fun r_90 s_90 => ?_)
                refine j_aload_n C dX11_train_93 rfl ?_
                refine j_getR C dX11_train_94 fl_RX11_7 h0 (by decide) rfl rfl (by decide) (fun h_94 => ?_)
                refine j_bipush C (v := (15 : Int32)) dX11_train_97 (by decide) ?_
                refine j_iconst C (v := (5 : Int32)) dX11_train_99 (by decide) ?_
                refine j_iload C dX11_train_100 rfl ?_
                refine j_imul C dX11_train_102 ?_
                refine j_iadd C dX11_train_103 ?_
                refine j_iload_n C dX11_train_104 rfl ?_
                refine j_iast C dX11_train_105 h_94 (fun s_105 => ?_)
                refine j_aload_n C dX11_train_106 rfl ?_
                refine j_getR C dX11_train_107 fl_RX11_7 h0 (by decide) rfl rfl (by decide) (fun h_107 => ?_)
                refine j_bipush C (v := (15 : Int32)) dX11_train_110 (by decide) ?_
                refine j_iconst C (v := (5 : Int32)) dX11_train_112 (by decide) ?_
                refine j_iload C dX11_train_113 rfl ?_
                refine j_imul C dX11_train_115 ?_
                refine j_iadd C dX11_train_116 ?_
                refine j_iconst C (v := (1 : Int32)) dX11_train_117 (by decide) ?_
                refine j_iadd C dX11_train_118 ?_
                refine j_iload_n C dX11_train_119 rfl ?_
                refine j_iast C dX11_train_120 h_107 (fun s_120 => ?_)
                refine j_aload_n C dX11_train_121 rfl ?_
                refine j_getR C dX11_train_122 fl_RX11_7 h0 (by decide) rfl rfl (by decide) (fun h_122 => ?_)
                refine j_bipush C (v := (15 : Int32)) dX11_train_125 (by decide) ?_
                refine j_iconst C (v := (5 : Int32)) dX11_train_127 (by decide) ?_
                refine j_iload C dX11_train_128 rfl ?_
                refine j_imul C dX11_train_130 ?_
                refine j_iadd C dX11_train_131 ?_
                refine j_iconst C (v := (2 : Int32)) dX11_train_132 (by decide) ?_
                refine j_iadd C dX11_train_133 ?_
                refine j_iload_n C dX11_train_134 rfl ?_
                refine j_iast C dX11_train_135 h_122 (fun s_135 => ?_)
                refine j_aload_n C dX11_train_136 rfl ?_
                refine j_getR C dX11_train_137 fl_RX11_7 h0 (by decide) rfl rfl (by decide) (fun h_137 => ?_)
                refine j_bipush C (v := (15 : Int32)) dX11_train_140 (by decide) ?_
                refine j_iconst C (v := (5 : Int32)) dX11_train_142 (by decide) ?_
                refine j_iload C dX11_train_143 rfl ?_
                refine j_imul C dX11_train_145 ?_
                refine j_iadd C dX11_train_146 ?_
                refine j_iconst C (v := (3 : Int32)) dX11_train_147 (by decide) ?_
                refine j_iadd C dX11_train_148 ?_
                refine j_iload C dX11_train_149 rfl ?_
                refine j_iast C dX11_train_151 h_137 (fun s_151 => ?_)
                refine j_aload_n C dX11_train_152 rfl ?_
                refine j_getR C dX11_train_153 fl_RX11_7 h0 (by decide) rfl rfl (by decide) (fun h_153 => ?_)
                refine j_bipush C (v := (15 : Int32)) dX11_train_156 (by decide) ?_
                refine j_iconst C (v := (5 : Int32)) dX11_train_158 (by decide) ?_
                refine j_iload C dX11_train_159 rfl ?_
                refine j_imul C dX11_train_161 ?_
                refine j_iadd C dX11_train_162 ?_
                refine j_iconst C (v := (4 : Int32)) dX11_train_163 (by decide) ?_
                refine j_iadd C dX11_train_164 ?_
                refine j_iload C dX11_train_165 rfl ?_
                refine j_iast C dX11_train_167 h_153 (fun s_167 => ?_)
                refine j_aload_n C dX11_train_168 rfl ?_
                refine j_getR C dX11_train_169 fl_RX11_7 h0 (by decide) rfl rfl (by decide) (fun h_169 => ?_)
                refine j_bipush C (v := (14 : Int32)) dX11_train_172 (by decide) ?_
                refine j_dup2 C dX11_train_174 rfl rfl ?_
                refine j_iald C dX11_train_175 h_169 ?_
                refine j_iconst C (v := (1 : Int32)) dX11_train_176 (by decide) ?_
                refine j_iadd C dX11_train_177 ?_
                refine j_iast C dX11_train_178 h_169 (fun s_178 => ?_)
                refine j_iload C dX11_train_179 rfl ?_
                exact j_iret C dX11_train_181
              · refine j_aload_n C dX11_train_82 rfl ?_
                refine j_ldc C dX11_train_83 lc_RX11_132 ?_
                refine j_callVI C (As := [.int ((-100005 : Int32))]) dX11_train_85 (CX11_finds l M hD v0 h0 (-100005 : Int32) s_42) vv_RX11_101 h0 (by decide) rfl rfl ⟨rfl, rfl⟩ (by decide) (Nat.le_of_ble_eq_true rfl) ⟨Nat.zero_le _, Nat.zero_le _⟩ (fun r_85 s_85 => ?_)
                exact j_iret C dX11_train_88
            · refine j_aload_n C dX11_train_60 rfl ?_
              refine j_ldc C dX11_train_61 lc_RX11_131 ?_
              refine j_callVI C (As := [.int ((-100003 : Int32))]) dX11_train_63 (CX11_finds l M hD v0 h0 (-100003 : Int32) s_42) vv_RX11_101 h0 (by decide) rfl rfl ⟨rfl, rfl⟩ (by decide) (Nat.le_of_ble_eq_true rfl) ⟨Nat.zero_le _, Nat.zero_le _⟩ (fun r_63 s_63 => ?_)
              exact j_iret C dX11_train_66
          · refine j_aload_n C dX11_train_48 rfl ?_
            refine j_ldc C dX11_train_49 lc_RX11_118 ?_
            refine j_callVI C (As := [.int ((-100001 : Int32))]) dX11_train_51 (CX11_finds l M hD v0 h0 (-100001 : Int32) s_42) vv_RX11_101 h0 (by decide) rfl rfl ⟨rfl, rfl⟩ (by decide) (Nat.le_of_ble_eq_true rfl) ⟨Nat.zero_le _, Nat.zero_le _⟩ (fun r_51 s_51 => ?_)
            exact j_iret C dX11_train_54
set_option maxRecDepth 20000 in
set_option maxHeartbeats 4000000 in
theorem CX11_as (l : Launch) (M : Mc) (hD : Dj M) (v0 : Nat) (h0 : isK v0 11) (v1 : Int32) (v2 : Int32) (σ : Sg) : Ct l M yX11_as cX11_as 3 (some .int) { frames := 2, cells := 0, slots := 0, locals := 43 } vI [.ref (adr M v0), .int v1, .int v2] σ (fX11_as v0 v1 v2 σ) := by
  refine ct_of (l := l) hD (by decide) (Nat.le_of_ble_eq_true rfl) ?_
  intro p e s m args below meth c C
  unfold fX11_as
  refine j_aload_n C dX11_as_0 rfl ?_
  refine j_iload_n C dX11_as_1 rfl ?_
  refine j_callVI C (As := [.int v1]) dX11_as_2 (CX11_isTrain l M hD v0 h0 v1 σ) vv_RX11_133 h0 (by decide) rfl rfl ⟨rfl, rfl⟩ (by decide) (Nat.le_of_ble_eq_true rfl) ⟨Nat.zero_le _, Nat.zero_le _⟩ (fun r_2 s_2 => ?_)
  refine j_if_eq C (tgt := 17) dX11_as_5 (by decide) ?_ ?_
  · refine j_aload_n C dX11_as_17 rfl ?_
    refine j_ldc C dX11_as_18 lc_RX11_118 ?_
    refine j_callVI C (As := [.int ((-100001 : Int32))]) dX11_as_20 (CX11_finds l M hD v0 h0 (-100001 : Int32) s_2) vv_RX11_101 h0 (by decide) rfl rfl ⟨rfl, rfl⟩ (by decide) (Nat.le_of_ble_eq_true rfl) ⟨Nat.zero_le _, Nat.zero_le _⟩ (fun r_20 s_20 => ?_)
    exact j_iret C dX11_as_23
  · refine j_iload_n C dX11_as_8 rfl ?_
    refine j_iconst C (v := (0 : Int32)) dX11_as_9 (by decide) ?_
    refine j_iconst C (v := (3 : Int32)) dX11_as_10 (by decide) ?_
    refine j_callSI C (As := [.int v2, .int ((0 : Int32)), .int ((3 : Int32))]) dX11_as_11 (CX11_in l M hD v2 (0 : Int32) (3 : Int32) s_2) vs_RX11_108 rfl rfl ⟨rfl, rfl⟩ (by decide) (Nat.le_of_ble_eq_true rfl) ⟨Nat.zero_le _, Nat.zero_le _⟩ (fun r_11 s_11 => ?_)
    refine j_if_ne C (tgt := 24) dX11_as_14 (by decide) ?_ ?_
    · refine j_iload_n C dX11_as_24 rfl ?_
      refine j_if_eq C (tgt := 51) dX11_as_25 (by decide) ?_ ?_
      · refine j_iload_n C dX11_as_51 rfl ?_
        refine j_goto C (tgt := 61) dX11_as_52 (by decide) ?_
        exact j_iret C dX11_as_61
      · refine j_aload_n C dX11_as_28 rfl ?_
        refine j_iload_n C dX11_as_29 rfl ?_
        refine j_callVI C (As := [.int v1]) dX11_as_30 (CX11_kindOf l M hD v0 h0 v1 s_11) vv_RX11_136 h0 (by decide) rfl rfl ⟨rfl, rfl⟩ (by decide) (Nat.le_of_ble_eq_true rfl) ⟨Nat.zero_le _, Nat.zero_le _⟩ (fun r_30 s_30 => ?_)
        refine j_iload_n C dX11_as_33 rfl ?_
        refine j_icmp_eq C (tgt := 51) dX11_as_34 (by decide) ?_ ?_
        · refine j_iload_n C dX11_as_51 rfl ?_
          refine j_goto C (tgt := 61) dX11_as_52 (by decide) ?_
          exact j_iret C dX11_as_61
        · refine j_iload_n C dX11_as_37 rfl ?_
          refine j_iconst C (v := (1 : Int32)) dX11_as_38 (by decide) ?_
          refine j_icmp_ne C (tgt := 55) dX11_as_39 (by decide) ?_ ?_
          · refine j_aload_n C dX11_as_55 rfl ?_
            refine j_ldc C dX11_as_56 lc_RX11_139 ?_
            refine j_callVI C (As := [.int ((-100004 : Int32))]) dX11_as_58 (CX11_finds l M hD v0 h0 (-100004 : Int32) s_30) vv_RX11_101 h0 (by decide) rfl rfl ⟨rfl, rfl⟩ (by decide) (Nat.le_of_ble_eq_true rfl) ⟨Nat.zero_le _, Nat.zero_le _⟩ (fun r_58 s_58 => ?_)
            exact j_iret C dX11_as_61
          · refine j_aload_n C dX11_as_42 rfl ?_
            refine j_iload_n C dX11_as_43 rfl ?_
            refine j_callVI C (As := [.int v1]) dX11_as_44 (CX11_kindOf l M hD v0 h0 v1 s_30) vv_RX11_136 h0 (by decide) rfl rfl ⟨rfl, rfl⟩ (by decide) (Nat.le_of_ble_eq_true rfl) ⟨Nat.zero_le _, Nat.zero_le _⟩ (fun r_44 s_44 => ?_)
            refine j_iconst C (v := (2 : Int32)) dX11_as_47 (by decide) ?_
            refine j_icmp_ne C (tgt := 55) dX11_as_48 (by decide) ?_ ?_
            · refine j_aload_n C dX11_as_55 rfl ?_
              refine j_ldc C dX11_as_56 lc_RX11_139 ?_
              refine j_callVI C (As := [.int ((-100004 : Int32))]) dX11_as_58 (CX11_finds l M hD v0 h0 (-100004 : Int32) s_44) vv_RX11_101 h0 (by decide) rfl rfl ⟨rfl, rfl⟩ (by decide) (Nat.le_of_ble_eq_true rfl) ⟨Nat.zero_le _, Nat.zero_le _⟩ (fun r_58 s_58 => ?_)
              exact j_iret C dX11_as_61
            · refine j_iload_n C dX11_as_51 rfl ?_
              refine j_goto C (tgt := 61) dX11_as_52 (by decide) ?_
              exact j_iret C dX11_as_61
    · refine j_aload_n C dX11_as_17 rfl ?_
      refine j_ldc C dX11_as_18 lc_RX11_118 ?_
      refine j_callVI C (As := [.int ((-100001 : Int32))]) dX11_as_20 (CX11_finds l M hD v0 h0 (-100001 : Int32) s_11) vv_RX11_101 h0 (by decide) rfl rfl ⟨rfl, rfl⟩ (by decide) (Nat.le_of_ble_eq_true rfl) ⟨Nat.zero_le _, Nat.zero_le _⟩ (fun r_20 s_20 => ?_)
      exact j_iret C dX11_as_23
set_option maxRecDepth 20000 in
set_option maxHeartbeats 4000000 in
theorem CX11_of (l : Launch) (M : Mc) (hD : Dj M) (v0 : Nat) (h0 : isK v0 11) (v1 : Int32) (v2 : Int32) (σ : Sg) : Ct l M yX11_of cX11_of 3 (some .int) { frames := 2, cells := 0, slots := 0, locals := 43 } vI [.ref (adr M v0), .int v1, .int v2] σ (fX11_of v0 v1 v2 σ) := by
  refine ct_of (l := l) hD (by decide) (Nat.le_of_ble_eq_true rfl) ?_
  intro p e s m args below meth c C
  unfold fX11_of
  refine j_aload_n C dX11_of_0 rfl ?_
  refine j_iload_n C dX11_of_1 rfl ?_
  refine j_callVI C (As := [.int v1]) dX11_of_2 (CX11_isTrain l M hD v0 h0 v1 σ) vv_RX11_133 h0 (by decide) rfl rfl ⟨rfl, rfl⟩ (by decide) (Nat.le_of_ble_eq_true rfl) ⟨Nat.zero_le _, Nat.zero_le _⟩ (fun r_2 s_2 => ?_)
  refine j_if_eq C (tgt := 17) dX11_of_5 (by decide) ?_ ?_
  · refine j_aload_n C dX11_of_17 rfl ?_
    refine j_ldc C dX11_of_18 lc_RX11_118 ?_
    refine j_callVI C (As := [.int ((-100001 : Int32))]) dX11_of_20 (CX11_finds l M hD v0 h0 (-100001 : Int32) s_2) vv_RX11_101 h0 (by decide) rfl rfl ⟨rfl, rfl⟩ (by decide) (Nat.le_of_ble_eq_true rfl) ⟨Nat.zero_le _, Nat.zero_le _⟩ (fun r_20 s_20 => ?_)
    exact j_iret C dX11_of_23
  · refine j_iload_n C dX11_of_8 rfl ?_
    refine j_iconst C (v := (0 : Int32)) dX11_of_9 (by decide) ?_
    refine j_iconst C (v := (5 : Int32)) dX11_of_10 (by decide) ?_
    refine j_callSI C (As := [.int v2, .int ((0 : Int32)), .int ((5 : Int32))]) dX11_of_11 (CX11_in l M hD v2 (0 : Int32) (5 : Int32) s_2) vs_RX11_108 rfl rfl ⟨rfl, rfl⟩ (by decide) (Nat.le_of_ble_eq_true rfl) ⟨Nat.zero_le _, Nat.zero_le _⟩ (fun r_11 s_11 => ?_)
    refine j_if_ne C (tgt := 24) dX11_of_14 (by decide) ?_ ?_
    · refine j_iload_n C dX11_of_24 rfl ?_
      refine j_iconst C (v := (5 : Int32)) dX11_of_25 (by decide) ?_
      refine j_icmp_ne C (tgt := 37) dX11_of_26 (by decide) ?_ ?_
      · refine j_aload_n C dX11_of_37 rfl ?_
        refine j_getR C dX11_of_38 fl_RX11_7 h0 (by decide) rfl rfl (by decide) (fun h_38 => ?_)
        refine j_bipush C (v := (15 : Int32)) dX11_of_41 (by decide) ?_
        refine j_iconst C (v := (5 : Int32)) dX11_of_43 (by decide) ?_
        refine j_iload_n C dX11_of_44 rfl ?_
        refine j_imul C dX11_of_45 ?_
        refine j_iadd C dX11_of_46 ?_
        refine j_iload_n C dX11_of_47 rfl ?_
        refine j_iadd C dX11_of_48 ?_
        refine j_iald C dX11_of_49 h_38 ?_
        exact j_iret C dX11_of_50
      · refine j_aload_n C dX11_of_29 rfl ?_
        refine j_iload_n C dX11_of_30 rfl ?_
        refine j_callVI C (As := [.int v1]) dX11_of_31 (CX11_wayOf l M hD v0 h0 v1 s_11) vv_RX11_140 h0 (by decide) rfl rfl ⟨rfl, rfl⟩ (by decide) (Nat.le_of_ble_eq_true rfl) ⟨Nat.zero_le _, Nat.zero_le _⟩ (fun r_31 s_31 => ?_)
        refine j_goto C (tgt := 50) dX11_of_34 (by decide) ?_
        exact j_iret C dX11_of_50
    · refine j_aload_n C dX11_of_17 rfl ?_
      refine j_ldc C dX11_of_18 lc_RX11_118 ?_
      refine j_callVI C (As := [.int ((-100001 : Int32))]) dX11_of_20 (CX11_finds l M hD v0 h0 (-100001 : Int32) s_11) vv_RX11_101 h0 (by decide) rfl rfl ⟨rfl, rfl⟩ (by decide) (Nat.le_of_ble_eq_true rfl) ⟨Nat.zero_le _, Nat.zero_le _⟩ (fun r_20 s_20 => ?_)
      exact j_iret C dX11_of_23
