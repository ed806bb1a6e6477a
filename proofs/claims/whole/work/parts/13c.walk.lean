set_option maxRecDepth 20000 in
set_option maxHeartbeats 4000000 in
theorem CX11_holds (l : Launch) (M : Mc) (hD : Dj M) (v0 : Nat) (h0 : isK v0 11) (v1 : Int32) (v2 : Int32) (v3 : Int32) (σ : Sg) : Ct l M yX11_holds cX11_holds 4 (some .int) { frames := 2, cells := 0, slots := 0, locals := 47 } vI [.ref (adr M v0), .int v1, .int v2, .int v3] σ (fX11_holds v0 v1 v2 v3 σ) := by
  refine ct_of (l := l) hD (by decide) (Nat.le_of_ble_eq_true rfl) ?_
  intro p e s m args below meth c C
  unfold fX11_holds
  refine j_aload_n C dX11_holds_0 rfl ?_
  refine j_iload_n C dX11_holds_1 rfl ?_
  refine j_callVI C (As := [.int v1]) dX11_holds_2 (CX11_isTrain l M hD v0 h0 v1 σ) vv_RX11_133 h0 (by decide) rfl rfl ⟨rfl, rfl⟩ (by decide) (Nat.le_of_ble_eq_true rfl) ⟨Nat.zero_le _, Nat.zero_le _⟩ (fun r_2 s_2 => ?_)
  refine j_if_eq C (tgt := 23) dX11_holds_5 (by decide) ?_ ?_
  · refine j_aload_n C dX11_holds_23 rfl ?_
    refine j_ldc C dX11_holds_24 lc_RX11_118 ?_
    refine j_callVI C (As := [.int ((-100001 : Int32))]) dX11_holds_26 (CX11_finds l M hD v0 h0 (-100001 : Int32) s_2) vv_RX11_101 h0 (by decide) rfl rfl ⟨rfl, rfl⟩ (by decide) (Nat.le_of_ble_eq_true rfl) ⟨Nat.zero_le _, Nat.zero_le _⟩ (fun r_26 s_26 => ?_)
    exact j_iret C dX11_holds_29
  · refine j_aload_n C dX11_holds_8 rfl ?_
    refine j_iload_n C dX11_holds_9 rfl ?_
    refine j_callVI C (As := [.int v2]) dX11_holds_10 (CX11_isOrder l M hD v0 h0 v2 s_2) vv_RX11_166 h0 (by decide) rfl rfl ⟨rfl, rfl⟩ (by decide) (Nat.le_of_ble_eq_true rfl) ⟨Nat.zero_le _, Nat.zero_le _⟩ (fun r_10 s_10 => ?_)
    refine j_if_eq C (tgt := 23) dX11_holds_13 (by decide) ?_ ?_
    · refine j_aload_n C dX11_holds_23 rfl ?_
      refine j_ldc C dX11_holds_24 lc_RX11_118 ?_
      refine j_callVI C (As := [.int ((-100001 : Int32))]) dX11_holds_26 (CX11_finds l M hD v0 h0 (-100001 : Int32) s_10) vv_RX11_101 h0 (by decide) rfl rfl ⟨rfl, rfl⟩ (by decide) (Nat.le_of_ble_eq_true rfl) ⟨Nat.zero_le _, Nat.zero_le _⟩ (fun r_26 s_26 => ?_)
      exact j_iret C dX11_holds_29
    · refine j_iload_n C dX11_holds_16 rfl ?_
      refine j_callSI C (As := [.int v3]) dX11_holds_17 (CX11_isMinute l M hD v3 s_10) vs_RX11_175 rfl rfl ⟨rfl, rfl⟩ (by decide) (Nat.le_of_ble_eq_true rfl) ⟨Nat.zero_le _, Nat.zero_le _⟩ (fun r_17 s_17 => ?_)
      refine j_if_ne C (tgt := 30) dX11_holds_20 (by decide) ?_ ?_
      · refine j_aload_n C dX11_holds_30 rfl ?_
        refine j_iload_n C dX11_holds_31 rfl ?_
        refine j_iload_n C dX11_holds_32 rfl ?_
        refine j_callVv C (As := [.int v1, .int v3]) dX11_holds_33 (CX11_findHeld l M hD v0 h0 v1 v3 s_17) vv_RX11_178 h0 (by decide) rfl rfl ⟨rfl, rfl⟩ (by decide) (Nat.le_of_ble_eq_true rfl) ⟨Nat.zero_le _, Nat.zero_le _⟩ (fun r_33 s_33 => ?_)
        refine j_aload_n C dX11_holds_36 rfl ?_
        refine j_getR C dX11_holds_37 fl_RX11_28 h0 (by decide) rfl rfl (by decide) (fun h_37 => ?_)
        refine j_iload_n C dX11_holds_40 rfl ?_
        refine j_zald C dX11_holds_41 h_37 ?_
        refine j_if_eq C (tgt := 49) dX11_holds_42 (by decide) ?_ ?_
        · refine j_iconst C (v := (0 : Int32)) dX11_holds_49 (by decide) ?_
          exact j_iret C dX11_holds_50
        · refine j_iconst C (v := (1 : Int32)) dX11_holds_45 (by decide) ?_
          refine j_goto C (tgt := 50) dX11_holds_46 (by decide) ?_
          exact j_iret C dX11_holds_50
      · refine j_aload_n C dX11_holds_23 rfl ?_
        refine j_ldc C dX11_holds_24 lc_RX11_118 ?_
        refine j_callVI C (As := [.int ((-100001 : Int32))]) dX11_holds_26 (CX11_finds l M hD v0 h0 (-100001 : Int32) s_17) vv_RX11_101 h0 (by decide) rfl rfl ⟨rfl, rfl⟩ (by decide) (Nat.le_of_ble_eq_true rfl) ⟨Nat.zero_le _, Nat.zero_le _⟩ (fun r_26 s_26 => ?_)
        exact j_iret C dX11_holds_29
set_option maxRecDepth 20000 in
set_option maxHeartbeats 4000000 in
theorem CX11_order (l : Launch) (M : Mc) (hD : Dj M) (v0 : Nat) (h0 : isK v0 11) (v1 : Int32) (v2 : Int32) (σ : Sg) : Ct l M yX11_order cX11_order 5 (some .int) { frames := 2, cells := 0, slots := 0, locals := 43 } vI [.ref (adr M v0), .int v1, .int v2] σ (fX11_order v0 v1 v2 σ) := by
  refine ct_of (l := l) hD (by decide) (Nat.le_of_ble_eq_true rfl) ?_
  intro p e s m args below meth c C
  have H48 : ∀  (n : Nat) (v3 : Int32) (v4 : Int32) (τ : Sg), J p l e { frames := 2, cells := 0, slots := 0, locals := 43 } s m args below meth c M 5 vI τ 48 [(0, .ref (adr M v0)), (1, .int v1), (3, .int v3), (4, .int v4)] [] (lq2 (fX11_order_48 v0 v1) n v3 v4 τ) := by
    refine j_lq2 (Ls := fun v3 v4 => [(0, .ref (adr M v0)), (1, .int v1), (3, .int v3), (4, .int v4)]) (st := fun _ _ => []) ?_
    intro k48 hk48 v3 v4 σ
    have H80 : ∀ (v4 : Int32) (w0 : Int32) (w1 : Int32) (τ : Sg), J p l e { frames := 2, cells := 0, slots := 0, locals := 43 } s m args below meth c M 5 vI τ 80 [(0, .ref (adr M v0)), (1, .int v1), (4, .int v4)] [.int w0, .int w1] (fX11_order_80 v0 v1 v4 w0 w1 k48 τ) := by
      intro v4 w0 w1 σ
      unfold fX11_order_80
      refine j_ior C dX11_order_80 ?_
      refine j_istore_n C (Ls' := fun v3_81 => [(3, .int v3_81), (0, .ref (adr M v0)), (1, .int v1), (4, .int v4)]) dX11_order_81 (by decide) (fun _ => rfl) (fun v3_81 => ?_)
      refine j_iinc C (v := (1 : Int32)) (Ls' := fun v4_82 => [(4, .int v4_82), (3, .int v3_81), (0, .ref (adr M v0)), (1, .int v1)]) dX11_order_82 3 rfl (by decide) (by decide) (fun _ => rfl) (fun v4_82 => ?_)
      refine j_goto C (tgt := 48) dX11_order_85 (by decide) ?_
      refine j_sub (Ls' := [(0, .ref (adr M v0)), (1, .int v1), (3, .int v3_81), (4, .int v4_82)]) [2, 3, 1, 0] rfl ?_
      exact hk48 v3_81 v4_82 σ
    unfold fX11_order_48
    refine j_iload C dX11_order_48 rfl ?_
    refine j_iconst C (v := (5 : Int32)) dX11_order_50 (by decide) ?_
    refine j_icmp_ge C (tgt := 88) dX11_order_51 (by decide) ?_ ?_
    · refine j_iload_n C dX11_order_88 rfl ?_
      exact j_iret C dX11_order_89
    · refine j_iload_n C dX11_order_54 rfl ?_
      refine j_aload_n C dX11_order_55 rfl ?_
      refine j_getR C dX11_order_56 fl_RX11_7 h0 (by decide) rfl rfl (by decide) (fun h_56 => ?_)
      refine j_bipush C (v := (101 : Int32)) dX11_order_59 (by decide) ?_
      refine j_iconst C (v := (5 : Int32)) dX11_order_61 (by decide) ?_
      refine j_iload_n C dX11_order_62 rfl ?_
      refine j_imul C dX11_order_63 ?_
      refine j_iadd C dX11_order_64 ?_
      refine j_iload C dX11_order_65 rfl ?_
      refine j_iadd C dX11_order_67 ?_
      refine j_iald C dX11_order_68 h_56 ?_
      refine j_if_lt C (tgt := 79) dX11_order_69 (by decide) ?_ ?_
      · refine j_iconst C (v := (0 : Int32)) dX11_order_79 (by decide) ?_
        refine j_sub (Ls' := [(0, .ref (adr M v0)), (1, .int v1), (4, .int v4)]) [0, 1, 3] rfl ?_
        exact H80 v4 (0 : Int32) v3 σ
      · refine j_iconst C (v := (1 : Int32)) dX11_order_72 (by decide) ?_
        refine j_iload C dX11_order_73 rfl ?_
        refine j_ishl C dX11_order_75 ?_
        refine j_goto C (tgt := 80) dX11_order_76 (by decide) ?_
        refine j_sub (Ls' := [(0, .ref (adr M v0)), (1, .int v1), (4, .int v4)]) [0, 1, 3] rfl ?_
        exact H80 v4 ((1 : Int32) <<< (v4 &&& 31)) v3 σ
  unfold fX11_order
  refine j_aload_n C dX11_order_0 rfl ?_
  refine j_iload_n C dX11_order_1 rfl ?_
  refine j_callVI C (As := [.int v1]) dX11_order_2 (CX11_isOrder l M hD v0 h0 v1 σ) vv_RX11_166 h0 (by decide) rfl rfl ⟨rfl, rfl⟩ (by decide) (Nat.le_of_ble_eq_true rfl) ⟨Nat.zero_le _, Nat.zero_le _⟩ (fun r_2 s_2 => ?_)
  refine j_if_eq C (tgt := 17) dX11_order_5 (by decide) ?_ ?_
  · refine j_aload_n C dX11_order_17 rfl ?_
    refine j_ldc C dX11_order_18 lc_RX11_118 ?_
    refine j_callVI C (As := [.int ((-100001 : Int32))]) dX11_order_20 (CX11_finds l M hD v0 h0 (-100001 : Int32) s_2) vv_RX11_101 h0 (by decide) rfl rfl ⟨rfl, rfl⟩ (by decide) (Nat.le_of_ble_eq_true rfl) ⟨Nat.zero_le _, Nat.zero_le _⟩ (fun r_20 s_20 => ?_)
    exact j_iret C dX11_order_23
  · refine j_iload_n C dX11_order_8 rfl ?_
    refine j_iconst C (v := (0 : Int32)) dX11_order_9 (by decide) ?_
    refine j_iconst C (v := (5 : Int32)) dX11_order_10 (by decide) ?_
    refine j_callSI C (As := [.int v2, .int ((0 : Int32)), .int ((5 : Int32))]) dX11_order_11 (CX11_in l M hD v2 (0 : Int32) (5 : Int32) s_2) vs_RX11_108 rfl rfl ⟨rfl, rfl⟩ (by decide) (Nat.le_of_ble_eq_true rfl) ⟨Nat.zero_le _, Nat.zero_le _⟩ (fun r_11 s_11 => ?_)
    refine j_if_ne C (tgt := 24) dX11_order_14 (by decide) ?_ ?_
    · refine j_iload_n C dX11_order_24 rfl ?_
      refine j_iconst C (v := (5 : Int32)) dX11_order_25 (by decide) ?_
      refine j_icmp_ge C (tgt := 43) dX11_order_26 (by decide) ?_ ?_
      · refine j_iconst C (v := (0 : Int32)) dX11_order_43 (by decide) ?_
        refine j_istore_n C (Ls' := fun v3_44 => [(3, .int v3_44), (0, .ref (adr M v0)), (1, .int v1), (2, .int v2)]) dX11_order_44 (by decide) (fun _ => rfl) (fun v3_44 => ?_)
        refine j_iconst C (v := (0 : Int32)) dX11_order_45 (by decide) ?_
        refine j_istore C (Ls' := fun v4_46 => [(4, .int v4_46), (3, .int v3_44), (0, .ref (adr M v0)), (1, .int v1), (2, .int v2)]) dX11_order_46 (by decide) (fun _ => rfl) (fun v4_46 => ?_)
        refine j_sub (Ls' := [(0, .ref (adr M v0)), (1, .int v1), (3, .int v3_44), (4, .int v4_46)]) [2, 3, 1, 0] rfl ?_
        exact H48 FU v3_44 v4_46 s_11
      · refine j_aload_n C dX11_order_29 rfl ?_
        refine j_getR C dX11_order_30 fl_RX11_7 h0 (by decide) rfl rfl (by decide) (fun h_30 => ?_)
        refine j_bipush C (v := (41 : Int32)) dX11_order_33 (by decide) ?_
        refine j_iconst C (v := (5 : Int32)) dX11_order_35 (by decide) ?_
        refine j_iload_n C dX11_order_36 rfl ?_
        refine j_imul C dX11_order_37 ?_
        refine j_iadd C dX11_order_38 ?_
        refine j_iload_n C dX11_order_39 rfl ?_
        refine j_iadd C dX11_order_40 ?_
        refine j_iald C dX11_order_41 h_30 ?_
        exact j_iret C dX11_order_42
    · refine j_aload_n C dX11_order_17 rfl ?_
      refine j_ldc C dX11_order_18 lc_RX11_118 ?_
      refine j_callVI C (As := [.int ((-100001 : Int32))]) dX11_order_20 (CX11_finds l M hD v0 h0 (-100001 : Int32) s_11) vv_RX11_101 h0 (by decide) rfl rfl ⟨rfl, rfl⟩ (by decide) (Nat.le_of_ble_eq_true rfl) ⟨Nat.zero_le _, Nat.zero_le _⟩ (fun r_20 s_20 => ?_)
      exact j_iret C dX11_order_23
set_option maxRecDepth 20000 in
set_option maxHeartbeats 4000000 in
theorem CX11_force (l : Launch) (M : Mc) (hD : Dj M) (v0 : Nat) (h0 : isK v0 11) (v1 : Int32) (v2 : Int32) (σ : Sg) : Ct l M yX11_force cX11_force 3 (some .int) { frames := 2, cells := 0, slots := 0, locals := 43 } vI [.ref (adr M v0), .int v1, .int v2] σ (fX11_force v0 v1 v2 σ) := by
  refine ct_of (l := l) hD (by decide) (Nat.le_of_ble_eq_true rfl) ?_
  intro p e s m args below meth c C
  unfold fX11_force
  refine j_aload_n C dX11_force_0 rfl ?_
  refine j_iload_n C dX11_force_1 rfl ?_
  refine j_callVI C (As := [.int v1]) dX11_force_2 (CX11_isTrain l M hD v0 h0 v1 σ) vv_RX11_133 h0 (by decide) rfl rfl ⟨rfl, rfl⟩ (by decide) (Nat.le_of_ble_eq_true rfl) ⟨Nat.zero_le _, Nat.zero_le _⟩ (fun r_2 s_2 => ?_)
  refine j_if_eq C (tgt := 15) dX11_force_5 (by decide) ?_ ?_
  · refine j_aload_n C dX11_force_15 rfl ?_
    refine j_ldc C dX11_force_16 lc_RX11_118 ?_
    refine j_callVI C (As := [.int ((-100001 : Int32))]) dX11_force_18 (CX11_finds l M hD v0 h0 (-100001 : Int32) s_2) vv_RX11_101 h0 (by decide) rfl rfl ⟨rfl, rfl⟩ (by decide) (Nat.le_of_ble_eq_true rfl) ⟨Nat.zero_le _, Nat.zero_le _⟩ (fun r_18 s_18 => ?_)
    exact j_iret C dX11_force_21
  · refine j_iload_n C dX11_force_8 rfl ?_
    refine j_callSI C (As := [.int v2]) dX11_force_9 (CX11_isMinute l M hD v2 s_2) vs_RX11_175 rfl rfl ⟨rfl, rfl⟩ (by decide) (Nat.le_of_ble_eq_true rfl) ⟨Nat.zero_le _, Nat.zero_le _⟩ (fun r_9 s_9 => ?_)
    refine j_if_ne C (tgt := 22) dX11_force_12 (by decide) ?_ ?_
    · refine j_aload_n C dX11_force_22 rfl ?_
      refine j_getR C dX11_force_23 fl_RX11_7 h0 (by decide) rfl rfl (by decide) (fun h_23 => ?_)
      refine j_sipush C (v := (161 : Int32)) dX11_force_26 (by decide) ?_
      refine j_iald C dX11_force_29 h_23 ?_
      refine j_bipush C (v := (6 : Int32)) dX11_force_30 (by decide) ?_
      refine j_icmp_ne C (tgt := 42) dX11_force_32 (by decide) ?_ ?_
      · refine j_aload_n C dX11_force_42 rfl ?_
        refine j_callVv C (As := []) dX11_force_43 (CX11_keep l M hD v0 h0 s_9) vv_RX11_105 h0 (by decide) rfl rfl ⟨rfl, rfl⟩ (by decide) (Nat.le_of_ble_eq_true rfl) ⟨Nat.zero_le _, Nat.zero_le _⟩ (fun r_43 s_43 => ?_)
        refine j_aload_n C dX11_force_46 rfl ?_
        refine j_getR C dX11_force_47 fl_RX11_7 h0 (by decide) rfl rfl (by decide) (fun h_47 => ?_)
        refine j_sipush C (v := (162 : Int32)) dX11_force_50 (by decide) ?_
        refine j_iconst C (v := (2 : Int32)) dX11_force_53 (by decide) ?_
        refine j_aload_n C dX11_force_54 rfl ?_
        refine j_getR C dX11_force_55 fl_RX11_7 h0 (by decide) rfl rfl (by decide) (fun h_55 => ?_)
        refine j_sipush C (v := (161 : Int32)) dX11_force_58 (by decide) ?_
        refine j_iald C dX11_force_61 h_55 ?_
        refine j_imul C dX11_force_62 ?_
        refine j_iadd C dX11_force_63 ?_
        refine j_iload_n C dX11_force_64 rfl ?_
        refine j_iast C dX11_force_65 h_47 (fun s_65 => ?_)
        refine j_aload_n C dX11_force_66 rfl ?_
        refine j_getR C dX11_force_67 fl_RX11_7 h0 (by decide) rfl rfl (by decide) (fun h_67 => ?_)
        refine j_sipush C (v := (162 : Int32)) dX11_force_70 (by decide) ?_
        refine j_iconst C (v := (2 : Int32)) dX11_force_73 (by decide) ?_
        refine j_aload_n C dX11_force_74 rfl ?_
        refine j_getR C dX11_force_75 fl_RX11_7 h0 (by decide) rfl rfl (by decide) (fun h_75 => ?_)
        refine j_sipush C (v := (161 : Int32)) dX11_force_78 (by decide) ?_
        refine j_iald C dX11_force_81 h_75 ?_
        refine j_imul C dX11_force_82 ?_
        refine j_iadd C dX11_force_83 ?_
        refine j_iconst C (v := (1 : Int32)) dX11_force_84 (by decide) ?_
        refine j_iadd C dX11_force_85 ?_
        refine j_iload_n C dX11_force_86 rfl ?_
        refine j_iast C dX11_force_87 h_67 (fun s_87 => ?_)
        refine j_aload_n C dX11_force_88 rfl ?_
        refine j_getR C dX11_force_89 fl_RX11_7 h0 (by decide) rfl rfl (by decide) (fun h_89 => ?_)
        refine j_sipush C (v := (161 : Int32)) dX11_force_92 (by decide) ?_
        refine j_dup2 C dX11_force_95 rfl rfl ?_
        refine j_iald C dX11_force_96 h_89 ?_
        refine j_iconst C (v := (1 : Int32)) dX11_force_97 (by decide) ?_
        refine j_iadd C dX11_force_98 ?_
        refine j_iast C dX11_force_99 h_89 (fun s_99 => ?_)
        refine j_aload_n C dX11_force_100 rfl ?_
        refine j_getR C dX11_force_101 fl_RX11_7 h0 (by decide) rfl rfl (by decide) (fun h_101 => ?_)
        refine j_sipush C (v := (161 : Int32)) dX11_force_104 (by decide) ?_
        refine j_iald C dX11_force_107 h_101 ?_
        exact j_iret C dX11_force_108
      · refine j_aload_n C dX11_force_35 rfl ?_
        refine j_ldc C dX11_force_36 lc_RX11_132 ?_
        refine j_callVI C (As := [.int ((-100005 : Int32))]) dX11_force_38 (CX11_finds l M hD v0 h0 (-100005 : Int32) s_9) vv_RX11_101 h0 (by decide) rfl rfl ⟨rfl, rfl⟩ (by decide) (Nat.le_of_ble_eq_true rfl) ⟨Nat.zero_le _, Nat.zero_le _⟩ (fun r_38 s_38 => ?_)
        exact j_iret C dX11_force_41
    · refine j_aload_n C dX11_force_15 rfl ?_
      refine j_ldc C dX11_force_16 lc_RX11_118 ?_
      refine j_callVI C (As := [.int ((-100001 : Int32))]) dX11_force_18 (CX11_finds l M hD v0 h0 (-100001 : Int32) s_9) vv_RX11_101 h0 (by decide) rfl rfl ⟨rfl, rfl⟩ (by decide) (Nat.le_of_ble_eq_true rfl) ⟨Nat.zero_le _, Nat.zero_le _⟩ (fun r_18 s_18 => ?_)
      exact j_iret C dX11_force_21
set_option maxRecDepth 20000 in
set_option maxHeartbeats 4000000 in
theorem CX11_isForced (l : Launch) (M : Mc) (hD : Dj M) (v0 : Nat) (h0 : isK v0 11) (v1 : Int32) (v2 : Int32) (σ : Sg) : Ct l M yX11_isForced cX11_isForced 4 (some .boolean) { frames := 0, cells := 0, slots := 0, locals := 0 } vI [.ref (adr M v0), .int v1, .int v2] σ (fX11_isForced v0 v1 v2 σ) := by
  refine ct_of (l := l) hD (by decide) (Nat.le_of_ble_eq_true rfl) ?_
  intro p e s m args below meth c C
  have H2 : ∀  (n : Nat) (v3 : Int32) (τ : Sg), J p l e { frames := 0, cells := 0, slots := 0, locals := 0 } s m args below meth c M 4 vI τ 2 [(0, .ref (adr M v0)), (1, .int v1), (2, .int v2), (3, .int v3)] [] (lq1 (fX11_isForced_2 v0 v1 v2) n v3 τ) := by
    refine j_lq1 (Ls := fun v3 => [(0, .ref (adr M v0)), (1, .int v1), (2, .int v2), (3, .int v3)]) (st := fun _ => []) ?_
    intro k2 hk2 v3 σ
    have H50 : ∀ (v3 : Int32) (τ : Sg), J p l e { frames := 0, cells := 0, slots := 0, locals := 0 } s m args below meth c M 4 vI τ 50 [(0, .ref (adr M v0)), (1, .int v1), (2, .int v2), (3, .int v3)] [] (fX11_isForced_50 v0 v1 v2 v3 k2 τ) := by
      intro v3 σ
      unfold fX11_isForced_50
      refine j_iinc C (v := (1 : Int32)) (Ls' := fun v3_50 => [(3, .int v3_50), (0, .ref (adr M v0)), (1, .int v1), (2, .int v2)]) dX11_isForced_50 3 rfl (by decide) (by decide) (fun _ => rfl) (fun v3_50 => ?_)
      refine j_goto C (tgt := 2) dX11_isForced_53 (by decide) ?_
      refine j_sub (Ls' := [(0, .ref (adr M v0)), (1, .int v1), (2, .int v2), (3, .int v3_50)]) [1, 2, 3, 0] rfl ?_
      exact hk2 v3_50 σ
    unfold fX11_isForced_2
    refine j_iload_n C dX11_isForced_2 rfl ?_
    refine j_aload_n C dX11_isForced_3 rfl ?_
    refine j_getR C dX11_isForced_4 fl_RX11_7 h0 (by decide) rfl rfl (by decide) (fun h_4 => ?_)
    refine j_sipush C (v := (161 : Int32)) dX11_isForced_7 (by decide) ?_
    refine j_iald C dX11_isForced_10 h_4 ?_
    refine j_icmp_ge C (tgt := 56) dX11_isForced_11 (by decide) ?_ ?_
    · refine j_iconst C (v := (0 : Int32)) dX11_isForced_56 (by decide) ?_
      exact j_zret C dX11_isForced_57
    · refine j_aload_n C dX11_isForced_14 rfl ?_
      refine j_getR C dX11_isForced_15 fl_RX11_7 h0 (by decide) rfl rfl (by decide) (fun h_15 => ?_)
      refine j_sipush C (v := (162 : Int32)) dX11_isForced_18 (by decide) ?_
      refine j_iconst C (v := (2 : Int32)) dX11_isForced_21 (by decide) ?_
      refine j_iload_n C dX11_isForced_22 rfl ?_
      refine j_imul C dX11_isForced_23 ?_
      refine j_iadd C dX11_isForced_24 ?_
      refine j_iald C dX11_isForced_25 h_15 ?_
      refine j_iload_n C dX11_isForced_26 rfl ?_
      refine j_icmp_ne C (tgt := 50) dX11_isForced_27 (by decide) ?_ ?_
      · exact H50 v3 σ
      · refine j_aload_n C dX11_isForced_30 rfl ?_
        refine j_getR C dX11_isForced_31 fl_RX11_7 h0 (by decide) rfl rfl (by decide) (fun h_31 => ?_)
        refine j_sipush C (v := (162 : Int32)) dX11_isForced_34 (by decide) ?_
        refine j_iconst C (v := (2 : Int32)) dX11_isForced_37 (by decide) ?_
        refine j_iload_n C dX11_isForced_38 rfl ?_
        refine j_imul C dX11_isForced_39 ?_
        refine j_iadd C dX11_isForced_40 ?_
        refine j_iconst C (v := (1 : Int32)) dX11_isForced_41 (by decide) ?_
        refine j_iadd C dX11_isForced_42 ?_
        refine j_iald C dX11_isForced_43 h_31 ?_
        refine j_iload_n C dX11_isForced_44 rfl ?_
        refine j_icmp_ne C (tgt := 50) dX11_isForced_45 (by decide) ?_ ?_
        · exact H50 v3 σ
        · refine j_iconst C (v := (1 : Int32)) dX11_isForced_48 (by decide) ?_
          exact j_zret C dX11_isForced_49
  unfold fX11_isForced
  refine j_iconst C (v := (0 : Int32)) dX11_isForced_0 (by decide) ?_
  refine j_istore_n C (Ls' := fun v3_1 => [(3, .int v3_1), (0, .ref (adr M v0)), (1, .int v1), (2, .int v2)]) dX11_isForced_1 (by decide) (fun _ => rfl) (fun v3_1 => ?_)
  refine j_sub (Ls' := [(0, .ref (adr M v0)), (1, .int v1), (2, .int v2), (3, .int v3_1)]) [1, 2, 3, 0] rfl ?_
  exact H2 FU v3_1 σ
set_option maxRecDepth 20000 in
set_option maxHeartbeats 4000000 in
theorem CX11_begin (l : Launch) (M : Mc) (hD : Dj M) (v0 : Nat) (h0 : isK v0 11) (σ : Sg) : Ct l M yX11_begin cX11_begin 2 none { frames := 2, cells := 0, slots := 0, locals := 42 } vV [.ref (adr M v0)] σ (fX11_begin v0 σ) := by
  refine ct_of (l := l) hD (by decide) (Nat.le_of_ble_eq_true rfl) ?_
  intro p e s m args below meth c C
  have H152 : ∀  (n : Nat) (v1 : Int32) (τ : Sg), J p l e { frames := 2, cells := 0, slots := 0, locals := 42 } s m args below meth c M 2 vV τ 152 [(0, .ref (adr M v0)), (1, .int v1)] [] (lq1 (fX11_begin_152 v0) n v1 τ) := by
    refine j_lq1 (Ls := fun v1 => [(0, .ref (adr M v0)), (1, .int v1)]) (st := fun _ => []) ?_
    intro k152 hk152 v1 σ
    unfold fX11_begin_152
    refine j_iload_n C dX11_begin_152 rfl ?_
    refine j_bipush C (v := (25 : Int32)) dX11_begin_153 (by decide) ?_
    refine j_icmp_ge C (tgt := 171) dX11_begin_155 (by decide) ?_ ?_
    · refine j_aload_n C dX11_begin_171 rfl ?_
      refine j_iconst C (v := (0 : Int32)) dX11_begin_172 (by decide) ?_
      refine j_put C dX11_begin_173 fl_RX11_182 fs_11_25 h0 (by decide) rfl rfl rfl (fun s_173 => ?_)
      refine j_aload_n C dX11_begin_176 rfl ?_
      refine j_iconst C (v := (0 : Int32)) dX11_begin_177 (by decide) ?_
      refine j_put C dX11_begin_178 fl_RX11_185 fs_11_31 h0 (by decide) rfl rfl rfl (fun s_178 => ?_)
      exact j_vret C dX11_begin_181
    · refine j_aload_n C dX11_begin_158 rfl ?_
      refine j_getR C dX11_begin_159 fl_RX11_71 h0 (by decide) rfl rfl (by decide) (fun h_159 => ?_)
      refine j_iload_n C dX11_begin_162 rfl ?_
      refine j_iconst C (v := (0 : Int32)) dX11_begin_163 (by decide) ?_
      refine j_zast C dX11_begin_164 h_159 (fun s_164 => ?_)
      refine j_iinc C (v := (1 : Int32)) (Ls' := fun v1_165 => [(1, .int v1_165), (0, .ref (adr M v0))]) dX11_begin_165 1 rfl (by decide) (by decide) (fun _ => rfl) (fun v1_165 => ?_)
      refine j_goto C (tgt := 152) dX11_begin_168 (by decide) ?_
      refine j_sub (Ls' := [(0, .ref (adr M v0)), (1, .int v1_165)]) [1, 0] rfl ?_
      exact hk152 v1_165 s_164
  have H130 : ∀  (n : Nat) (v1 : Int32) (τ : Sg), J p l e { frames := 2, cells := 0, slots := 0, locals := 42 } s m args below meth c M 2 vV τ 130 [(0, .ref (adr M v0)), (1, .int v1)] [] (lq1 (fX11_begin_130 v0) n v1 τ) := by
    refine j_lq1 (Ls := fun v1 => [(0, .ref (adr M v0)), (1, .int v1)]) (st := fun _ => []) ?_
    intro k130 hk130 v1 σ
    unfold fX11_begin_130
    refine j_iload_n C dX11_begin_130 rfl ?_
    refine j_bipush C (v := (14 : Int32)) dX11_begin_131 (by decide) ?_
    refine j_icmp_ge C (tgt := 150) dX11_begin_133 (by decide) ?_ ?_
    · refine j_iconst C (v := (0 : Int32)) dX11_begin_150 (by decide) ?_
      refine j_istore_n C (Ls' := fun v1_151 => [(1, .int v1_151), (0, .ref (adr M v0))]) dX11_begin_151 (by decide) (fun _ => rfl) (fun v1_151 => ?_)
      refine j_sub (Ls' := [(0, .ref (adr M v0)), (1, .int v1_151)]) [1, 0] rfl ?_
      exact H152 FU v1_151 σ
    · refine j_aload_n C dX11_begin_136 rfl ?_
      refine j_getR C dX11_begin_137 fl_RX11_53 h0 (by decide) rfl rfl (by decide) (fun h_137 => ?_)
      refine j_iload_n C dX11_begin_140 rfl ?_
      refine j_bipush C (v := (-100 : Int32)) dX11_begin_141 (by decide) ?_
      refine j_iast C dX11_begin_143 h_137 (fun s_143 => ?_)
      refine j_iinc C (v := (1 : Int32)) (Ls' := fun v1_144 => [(1, .int v1_144), (0, .ref (adr M v0))]) dX11_begin_144 1 rfl (by decide) (by decide) (fun _ => rfl) (fun v1_144 => ?_)
      refine j_goto C (tgt := 130) dX11_begin_147 (by decide) ?_
      refine j_sub (Ls' := [(0, .ref (adr M v0)), (1, .int v1_144)]) [1, 0] rfl ?_
      exact hk130 v1_144 s_143
  have H88 : ∀  (n : Nat) (v1 : Int32) (τ : Sg), J p l e { frames := 2, cells := 0, slots := 0, locals := 42 } s m args below meth c M 2 vV τ 88 [(0, .ref (adr M v0)), (1, .int v1)] [] (lq1 (fX11_begin_88 v0) n v1 τ) := by
    refine j_lq1 (Ls := fun v1 => [(0, .ref (adr M v0)), (1, .int v1)]) (st := fun _ => []) ?_
    intro k88 hk88 v1 σ
    unfold fX11_begin_88
    refine j_iload_n C dX11_begin_88 rfl ?_
    refine j_bipush C (v := (35 : Int32)) dX11_begin_89 (by decide) ?_
    refine j_icmp_ge C (tgt := 128) dX11_begin_91 (by decide) ?_ ?_
    · refine j_iconst C (v := (0 : Int32)) dX11_begin_128 (by decide) ?_
      refine j_istore_n C (Ls' := fun v1_129 => [(1, .int v1_129), (0, .ref (adr M v0))]) dX11_begin_129 (by decide) (fun _ => rfl) (fun v1_129 => ?_)
      refine j_sub (Ls' := [(0, .ref (adr M v0)), (1, .int v1_129)]) [1, 0] rfl ?_
      exact H130 FU v1_129 σ
    · refine j_aload_n C dX11_begin_94 rfl ?_
      refine j_getR C dX11_begin_95 fl_RX11_47 h0 (by decide) rfl rfl (by decide) (fun h_95 => ?_)
      refine j_iload_n C dX11_begin_98 rfl ?_
      refine j_iconst C (v := (-1 : Int32)) dX11_begin_99 (by decide) ?_
      refine j_iast C dX11_begin_100 h_95 (fun s_100 => ?_)
      refine j_aload_n C dX11_begin_101 rfl ?_
      refine j_getR C dX11_begin_102 fl_RX11_50 h0 (by decide) rfl rfl (by decide) (fun h_102 => ?_)
      refine j_iload_n C dX11_begin_105 rfl ?_
      refine j_iconst C (v := (-1 : Int32)) dX11_begin_106 (by decide) ?_
      refine j_iast C dX11_begin_107 h_102 (fun s_107 => ?_)
      refine j_aload_n C dX11_begin_108 rfl ?_
      refine j_getR C dX11_begin_109 fl_RX11_65 h0 (by decide) rfl rfl (by decide) (fun h_109 => ?_)
      refine j_iload_n C dX11_begin_112 rfl ?_
      refine j_iconst C (v := (0 : Int32)) dX11_begin_113 (by decide) ?_
      refine j_zast C dX11_begin_114 h_109 (fun s_114 => ?_)
      refine j_aload_n C dX11_begin_115 rfl ?_
      refine j_getR C dX11_begin_116 fl_RX11_68 h0 (by decide) rfl rfl (by decide) (fun h_116 => ?_)
      refine j_iload_n C dX11_begin_119 rfl ?_
      refine j_iconst C (v := (0 : Int32)) dX11_begin_120 (by decide) ?_
      refine j_zast C dX11_begin_121 h_116 (fun s_121 => ?_)
      refine j_iinc C (v := (1 : Int32)) (Ls' := fun v1_122 => [(1, .int v1_122), (0, .ref (adr M v0))]) dX11_begin_122 1 rfl (by decide) (by decide) (fun _ => rfl) (fun v1_122 => ?_)
      refine j_goto C (tgt := 88) dX11_begin_125 (by decide) ?_
      refine j_sub (Ls' := [(0, .ref (adr M v0)), (1, .int v1_122)]) [1, 0] rfl ?_
      exact hk88 v1_122 s_121
  have H2 : ∀  (n : Nat) (v1 : Int32) (τ : Sg), J p l e { frames := 2, cells := 0, slots := 0, locals := 42 } s m args below meth c M 2 vV τ 2 [(0, .ref (adr M v0)), (1, .int v1)] [] (lq1 (fX11_begin_2 v0) n v1 τ) := by
    refine j_lq1 (Ls := fun v1 => [(0, .ref (adr M v0)), (1, .int v1)]) (st := fun _ => []) ?_
    intro k2 hk2 v1 σ
    have H65 : ∀ (v1 : Int32) (w0 : Int32) (w1 : Int32) (w2 : Nat) (hw2 : isK w2 13) (τ : Sg), J p l e { frames := 2, cells := 0, slots := 0, locals := 42 } s m args below meth c M 2 vV τ 65 [(0, .ref (adr M v0)), (1, .int v1)] [.int w0, .int w1, .ref (adr M w2)] (fX11_begin_65 v0 v1 w0 w1 w2 k2 τ) := by
      intro v1 w0 w1 w2 hw2 σ
      unfold fX11_begin_65
      refine j_iast C dX11_begin_65 hw2 (fun s_65 => ?_)
      refine j_aload_n C dX11_begin_66 rfl ?_
      refine j_getR C dX11_begin_67 fl_RX11_62 h0 (by decide) rfl rfl (by decide) (fun h_67 => ?_)
      refine j_iload_n C dX11_begin_70 rfl ?_
      refine j_iconst C (v := (0 : Int32)) dX11_begin_71 (by decide) ?_
      refine j_zast C dX11_begin_72 h_67 (fun s_72 => ?_)
      refine j_aload_n C dX11_begin_73 rfl ?_
      refine j_getR C dX11_begin_74 fl_RX11_44 h0 (by decide) rfl rfl (by decide) (fun h_74 => ?_)
      refine j_iload_n C dX11_begin_77 rfl ?_
      refine j_iconst C (v := (-1 : Int32)) dX11_begin_78 (by decide) ?_
      refine j_iast C dX11_begin_79 h_74 (fun s_79 => ?_)
      refine j_iinc C (v := (1 : Int32)) (Ls' := fun v1_80 => [(1, .int v1_80), (0, .ref (adr M v0))]) dX11_begin_80 1 rfl (by decide) (by decide) (fun _ => rfl) (fun v1_80 => ?_)
      refine j_goto C (tgt := 2) dX11_begin_83 (by decide) ?_
      refine j_sub (Ls' := [(0, .ref (adr M v0)), (1, .int v1_80)]) [1, 0] rfl ?_
      exact hk2 v1_80 s_79
    have H39 : ∀ (v1 : Int32) (w0 : Int32) (w1 : Int32) (w2 : Nat) (hw2 : isK w2 13) (τ : Sg), J p l e { frames := 2, cells := 0, slots := 0, locals := 42 } s m args below meth c M 2 vV τ 39 [(0, .ref (adr M v0)), (1, .int v1)] [.int w0, .int w1, .ref (adr M w2)] (fX11_begin_39 v0 v1 w0 w1 w2 k2 τ) := by
      intro v1 w0 w1 w2 hw2 σ
      unfold fX11_begin_39
      refine j_iast C dX11_begin_39 hw2 (fun s_39 => ?_)
      refine j_aload_n C dX11_begin_40 rfl ?_
      refine j_getR C dX11_begin_41 fl_RX11_38 h0 (by decide) rfl rfl (by decide) (fun h_41 => ?_)
      refine j_iload_n C dX11_begin_44 rfl ?_
      refine j_iload_n C dX11_begin_45 rfl ?_
      refine j_aload_n C dX11_begin_46 rfl ?_
      refine j_getR C dX11_begin_47 fl_RX11_7 h0 (by decide) rfl rfl (by decide) (fun h_47 => ?_)
      refine j_bipush C (v := (14 : Int32)) dX11_begin_50 (by decide) ?_
      refine j_iald C dX11_begin_52 h_47 ?_
      refine j_icmp_ge C (tgt := 64) dX11_begin_53 (by decide) ?_ ?_
      · refine j_iconst C (v := (0 : Int32)) dX11_begin_64 (by decide) ?_
        exact H65 v1 (0 : Int32) v1 (rf v0 13) h_41 s_39
      · refine j_aload_n C dX11_begin_56 rfl ?_
        refine j_iload_n C dX11_begin_57 rfl ?_
        refine j_callVI C (As := [.int v1]) dX11_begin_58 (CX11_wayOf l M hD v0 h0 v1 s_39) vv_RX11_140 h0 (by decide) rfl rfl ⟨rfl, rfl⟩ (by decide) (Nat.le_of_ble_eq_true rfl) ⟨Nat.zero_le _, Nat.zero_le _⟩ (fun r_58 s_58 => ?_)
        refine j_goto C (tgt := 65) dX11_begin_61 (by decide) ?_
        exact H65 v1 r_58 v1 (rf v0 13) h_41 s_58
    unfold fX11_begin_2
    refine j_iload_n C dX11_begin_2 rfl ?_
    refine j_iconst C (v := (5 : Int32)) dX11_begin_3 (by decide) ?_
    refine j_icmp_ge C (tgt := 86) dX11_begin_4 (by decide) ?_ ?_
    · refine j_iconst C (v := (0 : Int32)) dX11_begin_86 (by decide) ?_
      refine j_istore_n C (Ls' := fun v1_87 => [(1, .int v1_87), (0, .ref (adr M v0))]) dX11_begin_87 (by decide) (fun _ => rfl) (fun v1_87 => ?_)
      refine j_sub (Ls' := [(0, .ref (adr M v0)), (1, .int v1_87)]) [1, 0] rfl ?_
      exact H88 FU v1_87 σ
    · refine j_aload_n C dX11_begin_7 rfl ?_
      refine j_getR C dX11_begin_8 fl_RX11_32 h0 (by decide) rfl rfl (by decide) (fun h_8 => ?_)
      refine j_iload_n C dX11_begin_11 rfl ?_
      refine j_iconst C (v := (0 : Int32)) dX11_begin_12 (by decide) ?_
      refine j_iast C dX11_begin_13 h_8 (fun s_13 => ?_)
      refine j_aload_n C dX11_begin_14 rfl ?_
      refine j_getR C dX11_begin_15 fl_RX11_35 h0 (by decide) rfl rfl (by decide) (fun h_15 => ?_)
      refine j_iload_n C dX11_begin_18 rfl ?_
      refine j_iload_n C dX11_begin_19 rfl ?_
      refine j_aload_n C dX11_begin_20 rfl ?_
      refine j_getR C dX11_begin_21 fl_RX11_7 h0 (by decide) rfl rfl (by decide) (fun h_21 => ?_)
      refine j_bipush C (v := (14 : Int32)) dX11_begin_24 (by decide) ?_
      refine j_iald C dX11_begin_26 h_21 ?_
      refine j_icmp_ge C (tgt := 38) dX11_begin_27 (by decide) ?_ ?_
      · refine j_iconst C (v := (0 : Int32)) dX11_begin_38 (by decide) ?_
        exact H39 v1 (0 : Int32) v1 (rf v0 12) h_15 s_13
      · refine j_aload_n C dX11_begin_30 rfl ?_
        refine j_iload_n C dX11_begin_31 rfl ?_
        refine j_callVI C (As := [.int v1]) dX11_begin_32 (CX11_fromOf l M hD v0 h0 v1 s_13) vv_RX11_115 h0 (by decide) rfl rfl ⟨rfl, rfl⟩ (by decide) (Nat.le_of_ble_eq_true rfl) ⟨Nat.zero_le _, Nat.zero_le _⟩ (fun r_32 s_32 => ?_)
        refine j_goto C (tgt := 39) dX11_begin_35 (by decide) ?_
        exact H39 v1 r_32 v1 (rf v0 12) h_15 s_32
  unfold fX11_begin
  refine j_iconst C (v := (0 : Int32)) dX11_begin_0 (by decide) ?_
  refine j_istore_n C (Ls' := fun v1_1 => [(1, .int v1_1), (0, .ref (adr M v0))]) dX11_begin_1 (by decide) (fun _ => rfl) (fun v1_1 => ?_)
  refine j_sub (Ls' := [(0, .ref (adr M v0)), (1, .int v1_1)]) [1, 0] rfl ?_
  exact H2 FU v1_1 σ
set_option maxRecDepth 20000 in
set_option maxHeartbeats 4000000 in
theorem CX11_isAt (l : Launch) (M : Mc) (hD : Dj M) (v0 : Nat) (h0 : isK v0 11) (v1 : Int32) (v2 : Int32) (v3 : Int32) (σ : Sg) : Ct l M yX11_isAt cX11_isAt 4 none { frames := 0, cells := 0, slots := 0, locals := 0 } vV [.ref (adr M v0), .int v1, .int v2, .int v3] σ (fX11_isAt v0 v1 v2 v3 σ) := by
  refine ct_of (l := l) hD (by decide) (Nat.le_of_ble_eq_true rfl) ?_
  intro p e s m args below meth c C
  unfold fX11_isAt
  refine j_aload_n C dX11_isAt_0 rfl ?_
  refine j_getR C dX11_isAt_1 fl_RX11_32 h0 (by decide) rfl rfl (by decide) (fun h_1 => ?_)
  refine j_iload_n C dX11_isAt_4 rfl ?_
  refine j_iconst C (v := (1 : Int32)) dX11_isAt_5 (by decide) ?_
  refine j_iast C dX11_isAt_6 h_1 (fun s_6 => ?_)
  refine j_aload_n C dX11_isAt_7 rfl ?_
  refine j_getR C dX11_isAt_8 fl_RX11_35 h0 (by decide) rfl rfl (by decide) (fun h_8 => ?_)
  refine j_iload_n C dX11_isAt_11 rfl ?_
  refine j_iload_n C dX11_isAt_12 rfl ?_
  refine j_iast C dX11_isAt_13 h_8 (fun s_13 => ?_)
  refine j_aload_n C dX11_isAt_14 rfl ?_
  refine j_getR C dX11_isAt_15 fl_RX11_65 h0 (by decide) rfl rfl (by decide) (fun h_15 => ?_)
  refine j_bipush C (v := (7 : Int32)) dX11_isAt_18 (by decide) ?_
  refine j_iload_n C dX11_isAt_20 rfl ?_
  refine j_imul C dX11_isAt_21 ?_
  refine j_iload_n C dX11_isAt_22 rfl ?_
  refine j_iadd C dX11_isAt_23 ?_
  refine j_iconst C (v := (1 : Int32)) dX11_isAt_24 (by decide) ?_
  refine j_zast C dX11_isAt_25 h_15 (fun s_25 => ?_)
  refine j_aload_n C dX11_isAt_26 rfl ?_
  refine j_getR C dX11_isAt_27 fl_RX11_68 h0 (by decide) rfl rfl (by decide) (fun h_27 => ?_)
  refine j_bipush C (v := (7 : Int32)) dX11_isAt_30 (by decide) ?_
  refine j_iload_n C dX11_isAt_32 rfl ?_
  refine j_imul C dX11_isAt_33 ?_
  refine j_iload_n C dX11_isAt_34 rfl ?_
  refine j_iadd C dX11_isAt_35 ?_
  refine j_iconst C (v := (1 : Int32)) dX11_isAt_36 (by decide) ?_
  refine j_zast C dX11_isAt_37 h_27 (fun s_37 => ?_)
  refine j_aload_n C dX11_isAt_38 rfl ?_
  refine j_getR C dX11_isAt_39 fl_RX11_47 h0 (by decide) rfl rfl (by decide) (fun h_39 => ?_)
  refine j_bipush C (v := (7 : Int32)) dX11_isAt_42 (by decide) ?_
  refine j_iload_n C dX11_isAt_44 rfl ?_
  refine j_imul C dX11_isAt_45 ?_
  refine j_iload_n C dX11_isAt_46 rfl ?_
  refine j_iadd C dX11_isAt_47 ?_
  refine j_iald C dX11_isAt_48 h_39 ?_
  refine j_if_ge C (tgt := 64) dX11_isAt_49 (by decide) ?_ ?_
  · exact j_vret C dX11_isAt_64
  · refine j_aload_n C dX11_isAt_52 rfl ?_
    refine j_getR C dX11_isAt_53 fl_RX11_47 h0 (by decide) rfl rfl (by decide) (fun h_53 => ?_)
    refine j_bipush C (v := (7 : Int32)) dX11_isAt_56 (by decide) ?_
    refine j_iload_n C dX11_isAt_58 rfl ?_
    refine j_imul C dX11_isAt_59 ?_
    refine j_iload_n C dX11_isAt_60 rfl ?_
    refine j_iadd C dX11_isAt_61 ?_
    refine j_iload_n C dX11_isAt_62 rfl ?_
    refine j_iast C dX11_isAt_63 h_53 (fun s_63 => ?_)
    exact j_vret C dX11_isAt_64
set_option maxRecDepth 20000 in
set_option maxHeartbeats 4000000 in
theorem CX11_lengthFits (l : Launch) (M : Mc) (hD : Dj M) (v0 : Nat) (h0 : isK v0 11) (v1 : Int32) (v2 : Int32) (σ : Sg) : Ct l M yX11_lengthFits cX11_lengthFits 3 (some .boolean) { frames := 0, cells := 0, slots := 0, locals := 0 } vI [.ref (adr M v0), .int v1, .int v2] σ (fX11_lengthFits v0 v1 v2 σ) := by
  refine ct_of (l := l) hD (by decide) (Nat.le_of_ble_eq_true rfl) ?_
  intro p e s m args below meth c C
  unfold fX11_lengthFits
  refine j_aload_n C dX11_lengthFits_0 rfl ?_
  refine j_getR C dX11_lengthFits_1 fl_RX11_7 h0 (by decide) rfl rfl (by decide) (fun h_1 => ?_)
  refine j_bipush C (v := (15 : Int32)) dX11_lengthFits_4 (by decide) ?_
  refine j_iconst C (v := (5 : Int32)) dX11_lengthFits_6 (by decide) ?_
  refine j_iload_n C dX11_lengthFits_7 rfl ?_
  refine j_imul C dX11_lengthFits_8 ?_
  refine j_iadd C dX11_lengthFits_9 ?_
  refine j_iconst C (v := (3 : Int32)) dX11_lengthFits_10 (by decide) ?_
  refine j_iadd C dX11_lengthFits_11 ?_
  refine j_iald C dX11_lengthFits_12 h_1 ?_
  refine j_aload_n C dX11_lengthFits_13 rfl ?_
  refine j_getR C dX11_lengthFits_14 fl_RX11_7 h0 (by decide) rfl rfl (by decide) (fun h_14 => ?_)
  refine j_iconst C (v := (1 : Int32)) dX11_lengthFits_17 (by decide) ?_
  refine j_iload_n C dX11_lengthFits_18 rfl ?_
  refine j_iadd C dX11_lengthFits_19 ?_
  refine j_iald C dX11_lengthFits_20 h_14 ?_
  refine j_icmp_gt C (tgt := 28) dX11_lengthFits_21 (by decide) ?_ ?_
  · refine j_iconst C (v := (0 : Int32)) dX11_lengthFits_28 (by decide) ?_
    exact j_zret C dX11_lengthFits_29
  · refine j_iconst C (v := (1 : Int32)) dX11_lengthFits_24 (by decide) ?_
    refine j_goto C (tgt := 29) dX11_lengthFits_25 (by decide) ?_
    exact j_zret C dX11_lengthFits_29
set_option maxRecDepth 20000 in
set_option maxHeartbeats 4000000 in
theorem CX11_comesIn (l : Launch) (M : Mc) (hD : Dj M) (v0 : Nat) (h0 : isK v0 11) (v1 : Int32) (v2 : Int32) (σ : Sg) : Ct l M yX11_comesIn cX11_comesIn 8 none { frames := 1, cells := 0, slots := 0, locals := 23 } vV [.ref (adr M v0), .int v1, .int v2] σ (fX11_comesIn v0 v1 v2 σ) := by
  refine ct_of (l := l) hD (by decide) (Nat.le_of_ble_eq_true rfl) ?_
  intro p e s m args below meth c C
  have H90 : ∀  (τ : Sg), J p l e { frames := 1, cells := 0, slots := 0, locals := 23 } s m args below meth c M 8 vV τ 90 [(0, .ref (adr M v0)), (1, .int v1), (2, .int v2)] [] (fX11_comesIn_90 v0 v1 v2 τ) := by
    intro  σ
    unfold fX11_comesIn_90
    refine j_aload_n C dX11_comesIn_90 rfl ?_
    refine j_getR C dX11_comesIn_91 fl_RX11_32 h0 (by decide) rfl rfl (by decide) (fun h_91 => ?_)
    refine j_iload_n C dX11_comesIn_94 rfl ?_
    refine j_iconst C (v := (3 : Int32)) dX11_comesIn_95 (by decide) ?_
    refine j_iast C dX11_comesIn_96 h_91 (fun s_96 => ?_)
    refine j_aload_n C dX11_comesIn_97 rfl ?_
    refine j_getR C dX11_comesIn_98 fl_RX11_44 h0 (by decide) rfl rfl (by decide) (fun h_98 => ?_)
    refine j_iload_n C dX11_comesIn_101 rfl ?_
    refine j_iload_n C dX11_comesIn_102 rfl ?_
    refine j_iast C dX11_comesIn_103 h_98 (fun s_103 => ?_)
    exact j_vret C dX11_comesIn_104
  have H184 : ∀ (v3 : Int32) (n : Nat) (v5 : Int32) (v6 : Int32) (v7 : Int32) (τ : Sg), J p l e { frames := 1, cells := 0, slots := 0, locals := 23 } s m args below meth c M 8 vV τ 184 [(0, .ref (adr M v0)), (1, .int v1), (3, .int v3), (5, .int v5), (6, .int v6), (7, .int v7)] [] (lq3 (fX11_comesIn_184 v0 v1 v3) n v5 v6 v7 τ) := by
    intro v3
    refine j_lq3 (Ls := fun v5 v6 v7 => [(0, .ref (adr M v0)), (1, .int v1), (3, .int v3), (5, .int v5), (6, .int v6), (7, .int v7)]) (st := fun _ _ _ => []) ?_
    intro k184 hk184 v5 v6 v7 σ
    have H252 : ∀ (v5 : Int32) (v6 : Int32) (v7 : Int32) (τ : Sg), J p l e { frames := 1, cells := 0, slots := 0, locals := 23 } s m args below meth c M 8 vV τ 252 [(0, .ref (adr M v0)), (1, .int v1), (3, .int v3), (5, .int v5), (6, .int v6), (7, .int v7)] [] (fX11_comesIn_252 v0 v1 v3 v5 v6 v7 k184 τ) := by
      intro v5 v6 v7 σ
      unfold fX11_comesIn_252
      refine j_iinc C (v := (1 : Int32)) (Ls' := fun v7_252 => [(7, .int v7_252), (0, .ref (adr M v0)), (1, .int v1), (3, .int v3), (5, .int v5), (6, .int v6)]) dX11_comesIn_252 5 rfl (by decide) (by decide) (fun _ => rfl) (fun v7_252 => ?_)
      refine j_goto C (tgt := 184) dX11_comesIn_255 (by decide) ?_
      refine j_sub (Ls' := [(0, .ref (adr M v0)), (1, .int v1), (3, .int v3), (5, .int v5), (6, .int v6), (7, .int v7_252)]) [1, 2, 3, 4, 5, 0] rfl ?_
      exact hk184 v5 v6 v7_252 σ
    have H250 : ∀ (v5 : Int32) (v7 : Int32) (w0 : Int32) (τ : Sg), J p l e { frames := 1, cells := 0, slots := 0, locals := 23 } s m args below meth c M 8 vV τ 250 [(0, .ref (adr M v0)), (1, .int v1), (3, .int v3), (5, .int v5), (7, .int v7)] [.int w0] (fX11_comesIn_250 v0 v1 v3 v5 v7 w0 k184 τ) := by
      intro v5 v7 w0 σ
      unfold fX11_comesIn_250
      refine j_istore C (Ls' := fun v6_250 => [(6, .int v6_250), (0, .ref (adr M v0)), (1, .int v1), (3, .int v3), (5, .int v5), (7, .int v7)]) dX11_comesIn_250 (by decide) (fun _ => rfl) (fun v6_250 => ?_)
      refine j_sub (Ls' := [(0, .ref (adr M v0)), (1, .int v1), (3, .int v3), (5, .int v5), (6, .int v6_250), (7, .int v7)]) [1, 2, 3, 4, 0, 5] rfl ?_
      exact H252 v5 v6_250 v7 σ
    have H245 : ∀ (v5 : Int32) (v7 : Int32) (τ : Sg), J p l e { frames := 1, cells := 0, slots := 0, locals := 23 } s m args below meth c M 8 vV τ 245 [(0, .ref (adr M v0)), (1, .int v1), (3, .int v3), (5, .int v5), (7, .int v7)] [] (fX11_comesIn_245 v0 v1 v3 v5 v7 k184 τ) := by
      intro v5 v7 σ
      unfold fX11_comesIn_245
      refine j_iconst C (v := (1 : Int32)) dX11_comesIn_245 (by decide) ?_
      refine j_goto C (tgt := 250) dX11_comesIn_246 (by decide) ?_
      exact H250 v5 v7 (1 : Int32) σ
    unfold fX11_comesIn_184
    refine j_iload C dX11_comesIn_184 rfl ?_
    refine j_aload_n C dX11_comesIn_186 rfl ?_
    refine j_getR C dX11_comesIn_187 fl_RX11_7 h0 (by decide) rfl rfl (by decide) (fun h_187 => ?_)
    refine j_bipush C (v := (14 : Int32)) dX11_comesIn_190 (by decide) ?_
    refine j_iald C dX11_comesIn_192 h_187 ?_
    refine j_icmp_ge C (tgt := 258) dX11_comesIn_193 (by decide) ?_ ?_
    · refine j_aload_n C dX11_comesIn_258 rfl ?_
      refine j_dup C dX11_comesIn_259 rfl ?_
      refine j_getI C dX11_comesIn_260 fl_RX11_185 h0 (by decide) rfl ?_
      refine j_iload C dX11_comesIn_263 rfl ?_
      refine j_iconst C (v := (1 : Int32)) dX11_comesIn_265 (by decide) ?_
      refine j_icmp_gt C (tgt := 280) dX11_comesIn_266 (by decide) ?_ ?_
      · refine j_iconst C (v := (1 : Int32)) dX11_comesIn_280 (by decide) ?_
        refine j_goto C (tgt := 285) dX11_comesIn_281 (by decide) ?_
        refine j_iadd C dX11_comesIn_285 ?_
        refine j_put C dX11_comesIn_286 fl_RX11_185 fs_11_31 h0 (by decide) rfl rfl rfl (fun s_286 => ?_)
        exact j_vret C dX11_comesIn_289
      · refine j_iload C dX11_comesIn_269 rfl ?_
        refine j_iconst C (v := (1 : Int32)) dX11_comesIn_271 (by decide) ?_
        refine j_icmp_ne C (tgt := 284) dX11_comesIn_272 (by decide) ?_ ?_
        · refine j_iconst C (v := (0 : Int32)) dX11_comesIn_284 (by decide) ?_
          refine j_iadd C dX11_comesIn_285 ?_
          refine j_put C dX11_comesIn_286 fl_RX11_185 fs_11_31 h0 (by decide) rfl rfl rfl (fun s_286 => ?_)
          exact j_vret C dX11_comesIn_289
        · refine j_iload C dX11_comesIn_275 rfl ?_
          refine j_if_ne C (tgt := 284) dX11_comesIn_277 (by decide) ?_ ?_
          · refine j_iconst C (v := (0 : Int32)) dX11_comesIn_284 (by decide) ?_
            refine j_iadd C dX11_comesIn_285 ?_
            refine j_put C dX11_comesIn_286 fl_RX11_185 fs_11_31 h0 (by decide) rfl rfl rfl (fun s_286 => ?_)
            exact j_vret C dX11_comesIn_289
          · refine j_iconst C (v := (1 : Int32)) dX11_comesIn_280 (by decide) ?_
            refine j_goto C (tgt := 285) dX11_comesIn_281 (by decide) ?_
            refine j_iadd C dX11_comesIn_285 ?_
            refine j_put C dX11_comesIn_286 fl_RX11_185 fs_11_31 h0 (by decide) rfl rfl rfl (fun s_286 => ?_)
            exact j_vret C dX11_comesIn_289
    · refine j_iload C dX11_comesIn_196 rfl ?_
      refine j_iload_n C dX11_comesIn_198 rfl ?_
      refine j_icmp_eq C (tgt := 252) dX11_comesIn_199 (by decide) ?_ ?_
      · exact H252 v5 v6 v7 σ
      · refine j_aload_n C dX11_comesIn_202 rfl ?_
        refine j_getR C dX11_comesIn_203 fl_RX11_32 h0 (by decide) rfl rfl (by decide) (fun h_203 => ?_)
        refine j_iload C dX11_comesIn_206 rfl ?_
        refine j_iald C dX11_comesIn_208 h_203 ?_
        refine j_iconst C (v := (1 : Int32)) dX11_comesIn_209 (by decide) ?_
        refine j_icmp_ne C (tgt := 252) dX11_comesIn_210 (by decide) ?_ ?_
        · exact H252 v5 v6 v7 σ
        · refine j_aload_n C dX11_comesIn_213 rfl ?_
          refine j_getR C dX11_comesIn_214 fl_RX11_35 h0 (by decide) rfl rfl (by decide) (fun h_214 => ?_)
          refine j_iload C dX11_comesIn_217 rfl ?_
          refine j_iald C dX11_comesIn_219 h_214 ?_
          refine j_iload_n C dX11_comesIn_220 rfl ?_
          refine j_icmp_eq C (tgt := 227) dX11_comesIn_221 (by decide) ?_ ?_
          · refine j_iinc C (v := (1 : Int32)) (Ls' := fun v5_227 => [(5, .int v5_227), (0, .ref (adr M v0)), (1, .int v1), (3, .int v3), (6, .int v6), (7, .int v7)]) dX11_comesIn_227 3 rfl (by decide) (by decide) (fun _ => rfl) (fun v5_227 => ?_)
            refine j_iload C dX11_comesIn_230 rfl ?_
            refine j_if_ne C (tgt := 245) dX11_comesIn_232 (by decide) ?_ ?_
            · refine j_sub (Ls' := [(0, .ref (adr M v0)), (1, .int v1), (3, .int v3), (5, .int v5_227), (7, .int v7)]) [1, 2, 3, 0, 5] rfl ?_
              exact H245 v5_227 v7 σ
            · refine j_aload_n C dX11_comesIn_235 rfl ?_
              refine j_iload C dX11_comesIn_236 rfl ?_
              refine j_iload_n C dX11_comesIn_238 rfl ?_
              refine j_callVI C (As := [.int v7, .int v3]) dX11_comesIn_239 (CX11_lengthFits l M hD v0 h0 v7 v3 σ) vv_RX11_192 h0 (by decide) rfl rfl ⟨rfl, rfl⟩ (by decide) (Nat.le_of_ble_eq_true rfl) ⟨Nat.zero_le _, Nat.zero_le _⟩ (fun r_239 s_239 => ?_)
              refine j_if_eq C (tgt := 249) dX11_comesIn_242 (by decide) ?_ ?_
              · refine j_iconst C (v := (0 : Int32)) dX11_comesIn_249 (by decide) ?_
                refine j_sub (Ls' := [(0, .ref (adr M v0)), (1, .int v1), (3, .int v3), (5, .int v5_227), (7, .int v7)]) [1, 2, 3, 0, 5] rfl ?_
                exact H250 v5_227 v7 (0 : Int32) s_239
              · refine j_sub (Ls' := [(0, .ref (adr M v0)), (1, .int v1), (3, .int v3), (5, .int v5_227), (7, .int v7)]) [1, 2, 3, 0, 5] rfl ?_
                exact H245 v5_227 v7 s_239
          · refine j_goto C (tgt := 252) dX11_comesIn_224 (by decide) ?_
            exact H252 v5 v6 v7 σ
  have H170 : ∀ (v3 : Int32) (τ : Sg), J p l e { frames := 1, cells := 0, slots := 0, locals := 23 } s m args below meth c M 8 vV τ 170 [(0, .ref (adr M v0)), (1, .int v1), (3, .int v3)] [] (fX11_comesIn_170 v0 v1 v3 τ) := by
    intro v3 σ
    unfold fX11_comesIn_170
    refine j_iconst C (v := (0 : Int32)) dX11_comesIn_170 (by decide) ?_
    refine j_istore C (Ls' := fun v5_171 => [(5, .int v5_171), (0, .ref (adr M v0)), (1, .int v1), (3, .int v3)]) dX11_comesIn_171 (by decide) (fun _ => rfl) (fun v5_171 => ?_)
    refine j_aload_n C dX11_comesIn_173 rfl ?_
    refine j_iload_n C dX11_comesIn_174 rfl ?_
    refine j_iload_n C dX11_comesIn_175 rfl ?_
    refine j_callVI C (As := [.int v1, .int v3]) dX11_comesIn_176 (CX11_lengthFits l M hD v0 h0 v1 v3 σ) vv_RX11_192 h0 (by decide) rfl rfl ⟨rfl, rfl⟩ (by decide) (Nat.le_of_ble_eq_true rfl) ⟨Nat.zero_le _, Nat.zero_le _⟩ (fun r_176 s_176 => ?_)
    refine j_istore C (Ls' := fun v6_179 => [(6, .int v6_179), (5, .int v5_171), (0, .ref (adr M v0)), (1, .int v1), (3, .int v3)]) dX11_comesIn_179 (by decide) (fun _ => rfl) (fun v6_179 => ?_)
    refine j_iconst C (v := (0 : Int32)) dX11_comesIn_181 (by decide) ?_
    refine j_istore C (Ls' := fun v7_182 => [(7, .int v7_182), (6, .int v6_179), (5, .int v5_171), (0, .ref (adr M v0)), (1, .int v1), (3, .int v3)]) dX11_comesIn_182 (by decide) (fun _ => rfl) (fun v7_182 => ?_)
    refine j_sub (Ls' := [(0, .ref (adr M v0)), (1, .int v1), (3, .int v3), (5, .int v5_171), (6, .int v6_179), (7, .int v7_182)]) [3, 4, 5, 2, 1, 0] rfl ?_
    exact H184 v3 FU v5_171 v6_179 v7_182 s_176
  have H134 : ∀ (v3 : Int32) (n : Nat) (v5 : Int32) (τ : Sg), J p l e { frames := 1, cells := 0, slots := 0, locals := 23 } s m args below meth c M 8 vV τ 134 [(0, .ref (adr M v0)), (1, .int v1), (3, .int v3), (5, .int v5)] [] (lq1 (fX11_comesIn_134 v0 v1 v3) n v5 τ) := by
    intro v3
    refine j_lq1 (Ls := fun v5 => [(0, .ref (adr M v0)), (1, .int v1), (3, .int v3), (5, .int v5)]) (st := fun _ => []) ?_
    intro k134 hk134 v5 σ
    have H163 : ∀ (v5 : Int32) (w0 : Int32) (w1 : Int32) (w2 : Nat) (hw2 : isK w2 15) (τ : Sg), J p l e { frames := 1, cells := 0, slots := 0, locals := 23 } s m args below meth c M 8 vV τ 163 [(0, .ref (adr M v0)), (1, .int v1), (3, .int v3), (5, .int v5)] [.int w0, .int w1, .ref (adr M w2)] (fX11_comesIn_163 v0 v1 v3 v5 w0 w1 w2 k134 τ) := by
      intro v5 w0 w1 w2 hw2 σ
      unfold fX11_comesIn_163
      refine j_zast C dX11_comesIn_163 hw2 (fun s_163 => ?_)
      refine j_iinc C (v := (1 : Int32)) (Ls' := fun v5_164 => [(5, .int v5_164), (0, .ref (adr M v0)), (1, .int v1), (3, .int v3)]) dX11_comesIn_164 3 rfl (by decide) (by decide) (fun _ => rfl) (fun v5_164 => ?_)
      refine j_goto C (tgt := 134) dX11_comesIn_167 (by decide) ?_
      refine j_sub (Ls' := [(0, .ref (adr M v0)), (1, .int v1), (3, .int v3), (5, .int v5_164)]) [1, 2, 3, 0] rfl ?_
      exact hk134 v5_164 s_163
    unfold fX11_comesIn_134
    refine j_iload C dX11_comesIn_134 rfl ?_
    refine j_bipush C (v := (7 : Int32)) dX11_comesIn_136 (by decide) ?_
    refine j_icmp_ge C (tgt := 170) dX11_comesIn_138 (by decide) ?_ ?_
    · refine j_sub (Ls' := [(0, .ref (adr M v0)), (1, .int v1), (3, .int v3)]) [0, 1, 2] rfl ?_
      exact H170 v3 σ
    · refine j_aload_n C dX11_comesIn_141 rfl ?_
      refine j_getR C dX11_comesIn_142 fl_RX11_68 h0 (by decide) rfl rfl (by decide) (fun h_142 => ?_)
      refine j_bipush C (v := (7 : Int32)) dX11_comesIn_145 (by decide) ?_
      refine j_iload_n C dX11_comesIn_147 rfl ?_
      refine j_imul C dX11_comesIn_148 ?_
      refine j_iload C dX11_comesIn_149 rfl ?_
      refine j_iadd C dX11_comesIn_151 ?_
      refine j_iload C dX11_comesIn_152 rfl ?_
      refine j_iload_n C dX11_comesIn_154 rfl ?_
      refine j_icmp_ne C (tgt := 162) dX11_comesIn_155 (by decide) ?_ ?_
      · refine j_iconst C (v := (0 : Int32)) dX11_comesIn_162 (by decide) ?_
        exact H163 v5 (0 : Int32) (((7 : Int32) * v1) + v5) (rf v0 23) h_142 σ
      · refine j_iconst C (v := (1 : Int32)) dX11_comesIn_158 (by decide) ?_
        refine j_goto C (tgt := 163) dX11_comesIn_159 (by decide) ?_
        exact H163 v5 (1 : Int32) (((7 : Int32) * v1) + v5) (rf v0 23) h_142 σ
  have H105 : ∀ (v3 : Int32) (v4 : Int32) (τ : Sg), J p l e { frames := 1, cells := 0, slots := 0, locals := 23 } s m args below meth c M 8 vV τ 105 [(0, .ref (adr M v0)), (1, .int v1), (3, .int v3), (4, .int v4)] [] (fX11_comesIn_105 v0 v1 v3 v4 τ) := by
    intro v3 v4 σ
    unfold fX11_comesIn_105
    refine j_iload C dX11_comesIn_105 rfl ?_
    refine j_if_eq C (tgt := 170) dX11_comesIn_107 (by decide) ?_ ?_
    · refine j_sub (Ls' := [(0, .ref (adr M v0)), (1, .int v1), (3, .int v3)]) [0, 1, 2] rfl ?_
      exact H170 v3 σ
    · refine j_aload_n C dX11_comesIn_110 rfl ?_
      refine j_getR C dX11_comesIn_111 fl_RX11_62 h0 (by decide) rfl rfl (by decide) (fun h_111 => ?_)
      refine j_iload_n C dX11_comesIn_114 rfl ?_
      refine j_iconst C (v := (1 : Int32)) dX11_comesIn_115 (by decide) ?_
      refine j_zast C dX11_comesIn_116 h_111 (fun s_116 => ?_)
      refine j_aload_n C dX11_comesIn_117 rfl ?_
      refine j_getR C dX11_comesIn_118 fl_RX11_38 h0 (by decide) rfl rfl (by decide) (fun h_118 => ?_)
      refine j_iload_n C dX11_comesIn_121 rfl ?_
      refine j_iconst C (v := (1 : Int32)) dX11_comesIn_122 (by decide) ?_
      refine j_aload_n C dX11_comesIn_123 rfl ?_
      refine j_getR C dX11_comesIn_124 fl_RX11_38 h0 (by decide) rfl rfl (by decide) (fun h_124 => ?_)
      refine j_iload_n C dX11_comesIn_127 rfl ?_
      refine j_iald C dX11_comesIn_128 h_124 ?_
      refine j_isub C dX11_comesIn_129 ?_
      refine j_iast C dX11_comesIn_130 h_118 (fun s_130 => ?_)
      refine j_iconst C (v := (0 : Int32)) dX11_comesIn_131 (by decide) ?_
      refine j_istore C (Ls' := fun v5_132 => [(5, .int v5_132), (0, .ref (adr M v0)), (1, .int v1), (3, .int v3), (4, .int v4)]) dX11_comesIn_132 (by decide) (fun _ => rfl) (fun v5_132 => ?_)
      refine j_sub (Ls' := [(0, .ref (adr M v0)), (1, .int v1), (3, .int v3), (5, .int v5_132)]) [1, 2, 3, 0] rfl ?_
      exact H134 v3 FU v5_132 s_130
  have H65 : ∀ (v3 : Int32) (w0 : Int32) (τ : Sg), J p l e { frames := 1, cells := 0, slots := 0, locals := 23 } s m args below meth c M 8 vV τ 65 [(0, .ref (adr M v0)), (1, .int v1), (2, .int v2), (3, .int v3)] [.int w0] (fX11_comesIn_65 v0 v1 v2 v3 w0 τ) := by
    intro v3 w0 σ
    unfold fX11_comesIn_65
    refine j_istore C (Ls' := fun v4_65 => [(4, .int v4_65), (0, .ref (adr M v0)), (1, .int v1), (2, .int v2), (3, .int v3)]) dX11_comesIn_65 (by decide) (fun _ => rfl) (fun v4_65 => ?_)
    refine j_iload C dX11_comesIn_67 rfl ?_
    refine j_if_eq C (tgt := 105) dX11_comesIn_69 (by decide) ?_ ?_
    · refine j_sub (Ls' := [(0, .ref (adr M v0)), (1, .int v1), (3, .int v3), (4, .int v4_65)]) [1, 2, 4, 0] rfl ?_
      exact H105 v3 v4_65 σ
    · refine j_aload_n C dX11_comesIn_72 rfl ?_
      refine j_getR C dX11_comesIn_73 fl_RX11_62 h0 (by decide) rfl rfl (by decide) (fun h_73 => ?_)
      refine j_iload_n C dX11_comesIn_76 rfl ?_
      refine j_zald C dX11_comesIn_77 h_73 ?_
      refine j_if_ne C (tgt := 90) dX11_comesIn_78 (by decide) ?_ ?_
      · refine j_sub (Ls' := [(0, .ref (adr M v0)), (1, .int v1), (2, .int v2)]) [1, 2, 3] rfl ?_
        exact H90 σ
      · refine j_aload_n C dX11_comesIn_81 rfl ?_
        refine j_iload_n C dX11_comesIn_82 rfl ?_
        refine j_callVI C (As := [.int v1]) dX11_comesIn_83 (CX11_kindOf l M hD v0 h0 v1 σ) vv_RX11_136 h0 (by decide) rfl rfl ⟨rfl, rfl⟩ (by decide) (Nat.le_of_ble_eq_true rfl) ⟨Nat.zero_le _, Nat.zero_le _⟩ (fun r_83 s_83 => ?_)
        refine j_iconst C (v := (3 : Int32)) dX11_comesIn_86 (by decide) ?_
        refine j_icmp_eq C (tgt := 105) dX11_comesIn_87 (by decide) ?_ ?_
        · refine j_sub (Ls' := [(0, .ref (adr M v0)), (1, .int v1), (3, .int v3), (4, .int v4_65)]) [1, 2, 4, 0] rfl ?_
          exact H105 v3 v4_65 s_83
        · refine j_sub (Ls' := [(0, .ref (adr M v0)), (1, .int v1), (2, .int v2)]) [1, 2, 3] rfl ?_
          exact H90 s_83
  have H57 : ∀ (v3 : Int32) (w0 : Int32) (w1 : Int32) (τ : Sg), J p l e { frames := 1, cells := 0, slots := 0, locals := 23 } s m args below meth c M 8 vV τ 57 [(0, .ref (adr M v0)), (1, .int v1), (2, .int v2), (3, .int v3)] [.int w0, .int w1] (fX11_comesIn_57 v0 v1 v2 v3 w0 w1 τ) := by
    intro v3 w0 w1 σ
    unfold fX11_comesIn_57
    refine j_icmp_ne C (tgt := 64) dX11_comesIn_57 (by decide) ?_ ?_
    · refine j_iconst C (v := (0 : Int32)) dX11_comesIn_64 (by decide) ?_
      exact H65 v3 (0 : Int32) σ
    · refine j_iconst C (v := (1 : Int32)) dX11_comesIn_60 (by decide) ?_
      refine j_goto C (tgt := 65) dX11_comesIn_61 (by decide) ?_
      exact H65 v3 (1 : Int32) σ
  have H26 : ∀ (w0 : Int32) (τ : Sg), J p l e { frames := 1, cells := 0, slots := 0, locals := 23 } s m args below meth c M 8 vV τ 26 [(0, .ref (adr M v0)), (1, .int v1), (2, .int v2)] [.int w0] (fX11_comesIn_26 v0 v1 v2 w0 τ) := by
    intro w0 σ
    unfold fX11_comesIn_26
    refine j_istore_n C (Ls' := fun v3_26 => [(3, .int v3_26), (0, .ref (adr M v0)), (1, .int v1), (2, .int v2)]) dX11_comesIn_26 (by decide) (fun _ => rfl) (fun v3_26 => ?_)
    refine j_aload_n C dX11_comesIn_27 rfl ?_
    refine j_iload_n C dX11_comesIn_28 rfl ?_
    refine j_iload_n C dX11_comesIn_29 rfl ?_
    refine j_iload_n C dX11_comesIn_30 rfl ?_
    refine j_callVv C (As := [.int v1, .int v3_26, .int v2]) dX11_comesIn_31 (CX11_isAt l M hD v0 h0 v1 v3_26 v2 σ) vv_RX11_188 h0 (by decide) rfl rfl ⟨rfl, rfl⟩ (by decide) (Nat.le_of_ble_eq_true rfl) ⟨Nat.zero_le _, Nat.zero_le _⟩ (fun r_31 s_31 => ?_)
    refine j_iload_n C dX11_comesIn_34 rfl ?_
    refine j_aload_n C dX11_comesIn_35 rfl ?_
    refine j_getR C dX11_comesIn_36 fl_RX11_62 h0 (by decide) rfl rfl (by decide) (fun h_36 => ?_)
    refine j_iload_n C dX11_comesIn_39 rfl ?_
    refine j_zald C dX11_comesIn_40 h_36 ?_
    refine j_if_eq C (tgt := 52) dX11_comesIn_41 (by decide) ?_ ?_
    · refine j_aload_n C dX11_comesIn_52 rfl ?_
      refine j_iload_n C dX11_comesIn_53 rfl ?_
      refine j_callVI C (As := [.int v1]) dX11_comesIn_54 (CX11_toOf l M hD v0 h0 v1 s_31) vv_RX11_112 h0 (by decide) rfl rfl ⟨rfl, rfl⟩ (by decide) (Nat.le_of_ble_eq_true rfl) ⟨Nat.zero_le _, Nat.zero_le _⟩ (fun r_54 s_54 => ?_)
      refine j_sub (Ls' := [(0, .ref (adr M v0)), (1, .int v1), (2, .int v2), (3, .int v3_26)]) [1, 2, 3, 0] rfl ?_
      exact H57 v3_26 r_54 v3_26 s_54
    · refine j_aload_n C dX11_comesIn_44 rfl ?_
      refine j_iload_n C dX11_comesIn_45 rfl ?_
      refine j_callVI C (As := [.int v1]) dX11_comesIn_46 (CX11_fromOf l M hD v0 h0 v1 s_31) vv_RX11_115 h0 (by decide) rfl rfl ⟨rfl, rfl⟩ (by decide) (Nat.le_of_ble_eq_true rfl) ⟨Nat.zero_le _, Nat.zero_le _⟩ (fun r_46 s_46 => ?_)
      refine j_goto C (tgt := 57) dX11_comesIn_49 (by decide) ?_
      refine j_sub (Ls' := [(0, .ref (adr M v0)), (1, .int v1), (2, .int v2), (3, .int v3_26)]) [1, 2, 3, 0] rfl ?_
      exact H57 v3_26 r_46 v3_26 s_46
  unfold fX11_comesIn
  refine j_aload_n C dX11_comesIn_0 rfl ?_
  refine j_getR C dX11_comesIn_1 fl_RX11_38 h0 (by decide) rfl rfl (by decide) (fun h_1 => ?_)
  refine j_iload_n C dX11_comesIn_4 rfl ?_
  refine j_iald C dX11_comesIn_5 h_1 ?_
  refine j_if_ne C (tgt := 20) dX11_comesIn_6 (by decide) ?_ ?_
  · refine j_aload_n C dX11_comesIn_20 rfl ?_
    refine j_getR C dX11_comesIn_21 fl_RX11_35 h0 (by decide) rfl rfl (by decide) (fun h_21 => ?_)
    refine j_iload_n C dX11_comesIn_24 rfl ?_
    refine j_iald C dX11_comesIn_25 h_21 ?_
    exact H26 (σ (rf v0 12) (v1).toNatClampNeg) σ
  · refine j_aload_n C dX11_comesIn_9 rfl ?_
    refine j_getR C dX11_comesIn_10 fl_RX11_35 h0 (by decide) rfl rfl (by decide) (fun h_10 => ?_)
    refine j_iload_n C dX11_comesIn_13 rfl ?_
    refine j_iald C dX11_comesIn_14 h_10 ?_
    refine j_iconst C (v := (1 : Int32)) dX11_comesIn_15 (by decide) ?_
    refine j_iadd C dX11_comesIn_16 ?_
    refine j_goto C (tgt := 26) dX11_comesIn_17 (by decide) ?_
    exact H26 ((σ (rf v0 12) (v1).toNatClampNeg) + (1 : Int32)) σ
