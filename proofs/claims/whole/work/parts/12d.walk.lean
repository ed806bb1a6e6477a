set_option maxRecDepth 20000 in
set_option maxHeartbeats 4000000 in
theorem CX6_begin (l : Launch) (M : Mc) (hD : Dj M) (v0 : Nat) (h0 : isK v0 6) (v1 : Int32) (v2 : Int32) (σ : Sg) : Ct l M yX6_begin cX6_begin 3 none { frames := 0, cells := 0, slots := 0, locals := 0 } vV [.ref (adr M v0), .int v1, .int v2] σ (fX6_begin v0 v1 v2 σ) := by
  refine ct_of (l := l) hD (by decide) (Nat.le_of_ble_eq_true rfl) ?_
  intro p e s m args below meth c C
  unfold fX6_begin
  refine j_aload_n C dX6_begin_0 rfl ?_
  refine j_iload_n C dX6_begin_1 rfl ?_
  refine j_put C dX6_begin_2 fl_RX6_9 fs_6_1 h0 (by decide) rfl rfl rfl (fun s_2 => ?_)
  refine j_aload_n C dX6_begin_5 rfl ?_
  refine j_iload_n C dX6_begin_6 rfl ?_
  refine j_put C dX6_begin_7 fl_RX6_15 fs_6_2 h0 (by decide) rfl rfl rfl (fun s_7 => ?_)
  refine j_aload_n C dX6_begin_10 rfl ?_
  refine j_iconst C (v := (0 : Int32)) dX6_begin_11 (by decide) ?_
  refine j_put C dX6_begin_12 fl_RX6_18 fs_6_3 h0 (by decide) rfl rfl rfl (fun s_12 => ?_)
  exact j_vret C dX6_begin_15
set_option maxRecDepth 20000 in
set_option maxHeartbeats 4000000 in
theorem CX0_begin (l : Launch) (M : Mc) (hD : Dj M) (v0 : Nat) (h0 : isK v0 0) (v1 : Int32) (v2 : Int32) (v3 : Int32) (σ : Sg) : Ct l M yX0_begin cX0_begin 5 none { frames := 3, cells := 0, slots := 0, locals := 94 } vV [.ref (adr M v0), .int v1, .int v2, .int v3] σ (fX0_begin v0 v1 v2 v3 σ) := by
  refine ct_of (l := l) hD (by decide) (Nat.le_of_ble_eq_true rfl) ?_
  intro p e s m args below meth c C
  have H38 : ∀  (n : Nat) (v4 : Int32) (τ : Sg), J p l e { frames := 3, cells := 0, slots := 0, locals := 94 } s m args below meth c M 5 vV τ 38 [(0, .ref (adr M v0)), (1, .int v1), (2, .int v2), (3, .int v3), (4, .int v4)] [] (lq1 (fX0_begin_38 v0 v1 v2 v3) n v4 τ) := by
    refine j_lq1 (Ls := fun v4 => [(0, .ref (adr M v0)), (1, .int v1), (2, .int v2), (3, .int v3), (4, .int v4)]) (st := fun _ => []) ?_
    intro k38 hk38 v4 σ
    have H87 : ∀ (v4 : Int32) (w0 : Int32) (w1 : Nat) (hw1 : isK w1 6) (τ : Sg), J p l e { frames := 3, cells := 0, slots := 0, locals := 94 } s m args below meth c M 5 vV τ 87 [(0, .ref (adr M v0)), (1, .int v1), (2, .int v2), (3, .int v3), (4, .int v4)] [.int w0, .ref (adr M w1)] (fX0_begin_87 v0 v1 v2 v3 v4 w0 w1 k38 τ) := by
      intro v4 w0 w1 hw1 σ
      unfold fX0_begin_87
      refine j_iload_n C dX0_begin_87 rfl ?_
      refine j_callVv C (As := [.int w0, .int v3]) dX0_begin_88 (CX6_begin l M hD w1 hw1 w0 v3 σ) vv_RX0_116 hw1 (by decide) rfl rfl ⟨rfl, rfl⟩ (by decide) (Nat.le_of_ble_eq_true rfl) ⟨Nat.zero_le _, Nat.zero_le _⟩ (fun r_88 s_88 => ?_)
      refine j_aload_n C dX0_begin_91 rfl ?_
      refine j_getR C dX0_begin_92 fl_RX0_21 h0 (by decide) rfl rfl (by decide) (fun h_92 => ?_)
      refine j_dup C dX0_begin_95 rfl ?_
      refine j_getI C dX0_begin_96 fl_RX0_119 h_92 (by decide) rfl ?_
      refine j_sipush C (v := (1000 : Int32)) dX0_begin_99 (by decide) ?_
      refine j_iadd C dX0_begin_102 ?_
      refine j_put C dX0_begin_103 fl_RX0_119 fs_1_12 h_92 (by decide) rfl rfl rfl (fun s_103 => ?_)
      refine j_iinc C (v := (1 : Int32)) (Ls' := fun v4_106 => [(4, .int v4_106), (0, .ref (adr M v0)), (1, .int v1), (2, .int v2), (3, .int v3)]) dX0_begin_106 4 rfl (by decide) (by decide) (fun _ => rfl) (fun v4_106 => ?_)
      refine j_goto C (tgt := 38) dX0_begin_109 (by decide) ?_
      refine j_sub (Ls' := [(0, .ref (adr M v0)), (1, .int v1), (2, .int v2), (3, .int v3), (4, .int v4_106)]) [1, 2, 3, 4, 0] rfl ?_
      exact hk38 v4_106 s_103
    unfold fX0_begin_38
    refine j_iload C dX0_begin_38 rfl ?_
    refine j_aload_n C dX0_begin_40 rfl ?_
    refine j_getR C dX0_begin_41 fl_RX0_12 h0 (by decide) rfl rfl (by decide) (fun h_41 => ?_)
    refine j_getR C dX0_begin_44 fl_RX0_80 h_41 (by decide) rfl rfl (by decide) (fun h_44 => ?_)
    refine j_getI C dX0_begin_47 fl_RX0_84 h_44 (by decide) rfl ?_
    refine j_icmp_ge C (tgt := 112) dX0_begin_50 (by decide) ?_ ?_
    · exact j_vret C dX0_begin_112
    · refine j_aload_n C dX0_begin_53 rfl ?_
      refine j_iload C dX0_begin_54 rfl ?_
      refine j_callVv C (As := [.int v4]) dX0_begin_56 (CX0_beginTrain l M hD v0 h0 v4 σ) vv_RX0_113 h0 (by decide) rfl rfl ⟨rfl, rfl⟩ (by decide) (Nat.le_of_ble_eq_true rfl) ⟨Nat.zero_le _, Nat.zero_le _⟩ (fun r_56 s_56 => ?_)
      refine j_aload_n C dX0_begin_59 rfl ?_
      refine j_getR C dX0_begin_60 fl_RX0_31 h0 (by decide) rfl rfl (by decide) (fun h_60 => ?_)
      refine j_iload C dX0_begin_63 rfl ?_
      refine j_aald C (t0 := 5) dX0_begin_65 h_60 (by decide) rfl (fun h_65 => ?_)
      refine j_iload C dX0_begin_66 rfl ?_
      refine j_iload_n C dX0_begin_68 rfl ?_
      refine j_icmp_ne C (tgt := 76) dX0_begin_69 (by decide) ?_ ?_
      · refine j_iload C dX0_begin_76 rfl ?_
        refine j_iload_n C dX0_begin_78 rfl ?_
        refine j_icmp_ne C (tgt := 86) dX0_begin_79 (by decide) ?_ ?_
        · refine j_iconst C (v := (-1 : Int32)) dX0_begin_86 (by decide) ?_
          exact H87 v4 (-1 : Int32) (rf (rf v0 3) (v4).toNatClampNeg) h_65 s_56
        · refine j_iload_n C dX0_begin_82 rfl ?_
          refine j_goto C (tgt := 87) dX0_begin_83 (by decide) ?_
          exact H87 v4 v1 (rf (rf v0 3) (v4).toNatClampNeg) h_65 s_56
      · refine j_iload_n C dX0_begin_72 rfl ?_
        refine j_goto C (tgt := 87) dX0_begin_73 (by decide) ?_
        exact H87 v4 v2 (rf (rf v0 3) (v4).toNatClampNeg) h_65 s_56
  unfold fX0_begin
  refine j_aload_n C dX0_begin_0 rfl ?_
  refine j_getR C dX0_begin_1 fl_RX0_21 h0 (by decide) rfl rfl (by decide) (fun h_1 => ?_)
  refine j_callVv C (As := []) dX0_begin_4 (CX1_begin l M hD (rf v0 1) h_1 σ) vv_RX0_105 h_1 (by decide) rfl rfl ⟨rfl, rfl⟩ (by decide) (Nat.le_of_ble_eq_true rfl) ⟨Nat.zero_le _, Nat.zero_le _⟩ (fun r_4 s_4 => ?_)
  refine j_aload_n C dX0_begin_7 rfl ?_
  refine j_getR C dX0_begin_8 fl_RX0_57 h0 (by decide) rfl rfl (by decide) (fun h_8 => ?_)
  refine j_iconst C (v := (0 : Int32)) dX0_begin_11 (by decide) ?_
  refine j_callSv C (As := [.ref (adr M (rf v0 11)), .int ((0 : Int32))]) dX0_begin_12 (CJ7_fill_53178 l M hD (rf v0 11) h_8 (0 : Int32) s_4) vs_RX0_107 rfl rfl ⟨rfl, rfl⟩ (by decide) (Nat.le_of_ble_eq_true rfl) ⟨Nat.zero_le _, Nat.zero_le _⟩ (fun r_12 s_12 => ?_)
  refine j_aload_n C dX0_begin_15 rfl ?_
  refine j_getR C dX0_begin_16 fl_RX0_60 h0 (by decide) rfl rfl (by decide) (fun h_16 => ?_)
  refine j_sipush C (v := (-1000 : Int32)) dX0_begin_19 (by decide) ?_
  refine j_callSv C (As := [.ref (adr M (rf v0 12)), .int ((-1000 : Int32))]) dX0_begin_22 (CJ7_fill_53178 l M hD (rf v0 12) h_16 (-1000 : Int32) s_12) vs_RX0_107 rfl rfl ⟨rfl, rfl⟩ (by decide) (Nat.le_of_ble_eq_true rfl) ⟨Nat.zero_le _, Nat.zero_le _⟩ (fun r_22 s_22 => ?_)
  refine j_aload_n C dX0_begin_25 rfl ?_
  refine j_iconst C (v := (0 : Int32)) dX0_begin_26 (by decide) ?_
  refine j_put C dX0_begin_27 fl_RX0_63 fs_0_13 h0 (by decide) rfl rfl rfl (fun s_27 => ?_)
  refine j_aload_n C dX0_begin_30 rfl ?_
  refine j_iconst C (v := (0 : Int32)) dX0_begin_31 (by decide) ?_
  refine j_put C dX0_begin_32 fl_RX0_67 fs_0_14 h0 (by decide) rfl rfl rfl (fun s_32 => ?_)
  refine j_iconst C (v := (0 : Int32)) dX0_begin_35 (by decide) ?_
  refine j_istore C (Ls' := fun v4_36 => [(4, .int v4_36), (0, .ref (adr M v0)), (1, .int v1), (2, .int v2), (3, .int v3)]) dX0_begin_36 (by decide) (fun _ => rfl) (fun v4_36 => ?_)
  refine j_sub (Ls' := [(0, .ref (adr M v0)), (1, .int v1), (2, .int v2), (3, .int v3), (4, .int v4_36)]) [1, 2, 3, 4, 0] rfl ?_
  exact H38 FU v4_36 s_32
set_option maxRecDepth 20000 in
set_option maxHeartbeats 4000000 in
theorem CX0_isInSection (l : Launch) (M : Mc) (hD : Dj M) (v0 : Nat) (h0 : isK v0 0) (v1 : Int32) (σ : Sg) : Ct l M yX0_isInSection cX0_isInSection 2 (some .boolean) { frames := 0, cells := 0, slots := 0, locals := 0 } vI [.ref (adr M v0), .int v1] σ (fX0_isInSection v0 v1 σ) := by
  refine ct_of (l := l) hD (by decide) (Nat.le_of_ble_eq_true rfl) ?_
  intro p e s m args below meth c C
  unfold fX0_isInSection
  refine j_aload_n C dX0_isInSection_0 rfl ?_
  refine j_getR C dX0_isInSection_1 fl_RX0_42 h0 (by decide) rfl rfl (by decide) (fun h_1 => ?_)
  refine j_iload_n C dX0_isInSection_4 rfl ?_
  refine j_iald C dX0_isInSection_5 h_1 ?_
  refine j_bipush C (v := (100 : Int32)) dX0_isInSection_6 (by decide) ?_
  refine j_icmp_lt C (tgt := 27) dX0_isInSection_8 (by decide) ?_ ?_
  · refine j_iconst C (v := (0 : Int32)) dX0_isInSection_27 (by decide) ?_
    exact j_zret C dX0_isInSection_28
  · refine j_aload_n C dX0_isInSection_11 rfl ?_
    refine j_getR C dX0_isInSection_12 fl_RX0_42 h0 (by decide) rfl rfl (by decide) (fun h_12 => ?_)
    refine j_iload_n C dX0_isInSection_15 rfl ?_
    refine j_iald C dX0_isInSection_16 h_12 ?_
    refine j_sipush C (v := (200 : Int32)) dX0_isInSection_17 (by decide) ?_
    refine j_icmp_ge C (tgt := 27) dX0_isInSection_20 (by decide) ?_ ?_
    · refine j_iconst C (v := (0 : Int32)) dX0_isInSection_27 (by decide) ?_
      exact j_zret C dX0_isInSection_28
    · refine j_iconst C (v := (1 : Int32)) dX0_isInSection_23 (by decide) ?_
      refine j_goto C (tgt := 28) dX0_isInSection_24 (by decide) ?_
      exact j_zret C dX0_isInSection_28
set_option maxRecDepth 20000 in
set_option maxHeartbeats 4000000 in
theorem CX1_noteCame (l : Launch) (M : Mc) (hD : Dj M) (v0 : Nat) (h0 : isK v0 1) (v1 : Int32) (v2 : Int32) (v3 : Int32) (σ : Sg) : Ct l M yX1_noteCame cX1_noteCame 5 none { frames := 0, cells := 0, slots := 0, locals := 0 } vV [.ref (adr M v0), .int v1, .int v2, .int v3] σ (fX1_noteCame v0 v1 v2 v3 σ) := by
  refine ct_of (l := l) hD (by decide) (Nat.le_of_ble_eq_true rfl) ?_
  intro p e s m args below meth c C
  unfold fX1_noteCame
  refine j_iload_n C dX1_noteCame_0 rfl ?_
  refine j_bipush C (v := (7 : Int32)) dX1_noteCame_1 (by decide) ?_
  refine j_imul C dX1_noteCame_3 ?_
  refine j_iload_n C dX1_noteCame_4 rfl ?_
  refine j_iadd C dX1_noteCame_5 ?_
  refine j_istore C (Ls' := fun v4_6 => [(4, .int v4_6), (0, .ref (adr M v0)), (1, .int v1), (2, .int v2), (3, .int v3)]) dX1_noteCame_6 (by decide) (fun _ => rfl) (fun v4_6 => ?_)
  refine j_aload_n C dX1_noteCame_8 rfl ?_
  refine j_getR C dX1_noteCame_9 fl_RX1_23 h0 (by decide) rfl rfl (by decide) (fun h_9 => ?_)
  refine j_iload C dX1_noteCame_12 rfl ?_
  refine j_iald C dX1_noteCame_14 h_9 ?_
  refine j_iconst C (v := (-1 : Int32)) dX1_noteCame_15 (by decide) ?_
  refine j_icmp_ne C (tgt := 27) dX1_noteCame_16 (by decide) ?_ ?_
  · exact j_vret C dX1_noteCame_27
  · refine j_aload_n C dX1_noteCame_19 rfl ?_
    refine j_getR C dX1_noteCame_20 fl_RX1_23 h0 (by decide) rfl rfl (by decide) (fun h_20 => ?_)
    refine j_iload C dX1_noteCame_23 rfl ?_
    refine j_iload_n C dX1_noteCame_25 rfl ?_
    refine j_iast C dX1_noteCame_26 h_20 (fun s_26 => ?_)
    exact j_vret C dX1_noteCame_27
set_option maxRecDepth 20000 in
set_option maxHeartbeats 4000000 in
theorem CX0_goOff (l : Launch) (M : Mc) (hD : Dj M) (v0 : Nat) (h0 : isK v0 0) (v1 : Int32) (v2 : Int32) (σ : Sg) : Ct l M yX0_goOff cX0_goOff 4 none { frames := 0, cells := 0, slots := 0, locals := 0 } vV [.ref (adr M v0), .int v1, .int v2] σ (fX0_goOff v0 v1 v2 σ) := by
  refine ct_of (l := l) hD (by decide) (Nat.le_of_ble_eq_true rfl) ?_
  intro p e s m args below meth c C
  have H77 : ∀ (v3 : Int32) (τ : Sg), J p l e { frames := 0, cells := 0, slots := 0, locals := 0 } s m args below meth c M 4 vV τ 77 [(0, .ref (adr M v0)), (2, .int v2), (3, .int v3)] [] (fX0_goOff_77 v0 v2 v3 τ) := by
    intro v3 σ
    unfold fX0_goOff_77
    refine j_aload_n C dX0_goOff_77 rfl ?_
    refine j_getR C dX0_goOff_78 fl_RX0_21 h0 (by decide) rfl rfl (by decide) (fun h_78 => ?_)
    refine j_dup C dX0_goOff_81 rfl ?_
    refine j_getI C dX0_goOff_82 fl_RX0_119 h_78 (by decide) rfl ?_
    refine j_iload_n C dX0_goOff_85 rfl ?_
    refine j_iload_n C dX0_goOff_86 rfl ?_
    refine j_isub C dX0_goOff_87 ?_
    refine j_sipush C (v := (1000 : Int32)) dX0_goOff_88 (by decide) ?_
    refine j_isub C dX0_goOff_91 ?_
    refine j_iadd C dX0_goOff_92 ?_
    refine j_put C dX0_goOff_93 fl_RX0_119 fs_1_12 h_78 (by decide) rfl rfl rfl (fun s_93 => ?_)
    exact j_vret C dX0_goOff_96
  unfold fX0_goOff
  refine j_aload_n C dX0_goOff_0 rfl ?_
  refine j_getR C dX0_goOff_1 fl_RX0_42 h0 (by decide) rfl rfl (by decide) (fun h_1 => ?_)
  refine j_iload_n C dX0_goOff_4 rfl ?_
  refine j_sipush C (v := (300 : Int32)) dX0_goOff_5 (by decide) ?_
  refine j_iast C dX0_goOff_8 h_1 (fun s_8 => ?_)
  refine j_aload_n C dX0_goOff_9 rfl ?_
  refine j_dup C dX0_goOff_10 rfl ?_
  refine j_getI C dX0_goOff_11 fl_RX0_67 h0 (by decide) rfl ?_
  refine j_iconst C (v := (1 : Int32)) dX0_goOff_14 (by decide) ?_
  refine j_iload_n C dX0_goOff_15 rfl ?_
  refine j_ishl C dX0_goOff_16 ?_
  refine j_ior C dX0_goOff_17 ?_
  refine j_put C dX0_goOff_18 fl_RX0_67 fs_0_14 h0 (by decide) rfl rfl rfl (fun s_18 => ?_)
  refine j_aload_n C dX0_goOff_21 rfl ?_
  refine j_getR C dX0_goOff_22 fl_RX0_35 h0 (by decide) rfl rfl (by decide) (fun h_22 => ?_)
  refine j_iload_n C dX0_goOff_25 rfl ?_
  refine j_bipush C (v := (7 : Int32)) dX0_goOff_26 (by decide) ?_
  refine j_imul C dX0_goOff_28 ?_
  refine j_aload_n C dX0_goOff_29 rfl ?_
  refine j_getR C dX0_goOff_30 fl_RX0_12 h0 (by decide) rfl rfl (by decide) (fun h_30 => ?_)
  refine j_getR C dX0_goOff_33 fl_RX0_80 h_30 (by decide) rfl rfl (by decide) (fun h_33 => ?_)
  refine j_getR C dX0_goOff_36 fl_RX0_129 h_33 (by decide) rfl rfl (by decide) (fun h_36 => ?_)
  refine j_iload_n C dX0_goOff_39 rfl ?_
  refine j_iald C dX0_goOff_40 h_36 ?_
  refine j_iadd C dX0_goOff_41 ?_
  refine j_iald C dX0_goOff_42 h_22 ?_
  refine j_istore_n C (Ls' := fun v3_43 => [(3, .int v3_43), (0, .ref (adr M v0)), (1, .int v1), (2, .int v2)]) dX0_goOff_43 (by decide) (fun _ => rfl) (fun v3_43 => ?_)
  refine j_aload_n C dX0_goOff_44 rfl ?_
  refine j_getR C dX0_goOff_45 fl_RX0_12 h0 (by decide) rfl rfl (by decide) (fun h_45 => ?_)
  refine j_getR C dX0_goOff_48 fl_RX0_80 h_45 (by decide) rfl rfl (by decide) (fun h_48 => ?_)
  refine j_getR C dX0_goOff_51 fl_RX0_165 h_48 (by decide) rfl rfl (by decide) (fun h_51 => ?_)
  refine j_iload_n C dX0_goOff_54 rfl ?_
  refine j_iald C dX0_goOff_55 h_51 ?_
  refine j_iconst C (v := (3 : Int32)) dX0_goOff_56 (by decide) ?_
  refine j_icmp_ne C (tgt := 77) dX0_goOff_57 (by decide) ?_ ?_
  · refine j_sub (Ls' := [(0, .ref (adr M v0)), (2, .int v2), (3, .int v3_43)]) [1, 3, 0] rfl ?_
    exact H77 v3_43 s_18
  · refine j_iload_n C dX0_goOff_60 rfl ?_
    refine j_iload_n C dX0_goOff_61 rfl ?_
    refine j_aload_n C dX0_goOff_62 rfl ?_
    refine j_getR C dX0_goOff_63 fl_RX0_12 h0 (by decide) rfl rfl (by decide) (fun h_63 => ?_)
    refine j_getR C dX0_goOff_66 fl_RX0_80 h_63 (by decide) rfl rfl (by decide) (fun h_66 => ?_)
    refine j_getR C dX0_goOff_69 fl_RX0_144 h_66 (by decide) rfl rfl (by decide) (fun h_69 => ?_)
    refine j_iload_n C dX0_goOff_72 rfl ?_
    refine j_iald C dX0_goOff_73 h_69 ?_
    refine j_isub C dX0_goOff_74 ?_
    refine j_iadd C dX0_goOff_75 ?_
    refine j_istore_n C (Ls' := fun v3_76 => [(3, .int v3_76), (0, .ref (adr M v0)), (1, .int v1), (2, .int v2)]) dX0_goOff_76 (by decide) (fun _ => rfl) (fun v3_76 => ?_)
    refine j_sub (Ls' := [(0, .ref (adr M v0)), (2, .int v2), (3, .int v3_76)]) [1, 3, 0] rfl ?_
    exact H77 v3_76 s_18
set_option maxRecDepth 20000 in
set_option maxHeartbeats 4000000 in
theorem CX0_turnBack (l : Launch) (M : Mc) (hD : Dj M) (v0 : Nat) (h0 : isK v0 0) (v1 : Int32) (σ : Sg) : Ct l M yX0_turnBack cX0_turnBack 2 none { frames := 1, cells := 0, slots := 0, locals := 22 } vV [.ref (adr M v0), .int v1] σ (fX0_turnBack v0 v1 σ) := by
  refine ct_of (l := l) hD (by decide) (Nat.le_of_ble_eq_true rfl) ?_
  intro p e s m args below meth c C
  unfold fX0_turnBack
  refine j_aload_n C dX0_turnBack_0 rfl ?_
  refine j_getR C dX0_turnBack_1 fl_RX0_45 h0 (by decide) rfl rfl (by decide) (fun h_1 => ?_)
  refine j_iload_n C dX0_turnBack_4 rfl ?_
  refine j_iconst C (v := (1 : Int32)) dX0_turnBack_5 (by decide) ?_
  refine j_aload_n C dX0_turnBack_6 rfl ?_
  refine j_getR C dX0_turnBack_7 fl_RX0_45 h0 (by decide) rfl rfl (by decide) (fun h_7 => ?_)
  refine j_iload_n C dX0_turnBack_10 rfl ?_
  refine j_iald C dX0_turnBack_11 h_7 ?_
  refine j_isub C dX0_turnBack_12 ?_
  refine j_iast C dX0_turnBack_13 h_1 (fun s_13 => ?_)
  refine j_aload_n C dX0_turnBack_14 rfl ?_
  refine j_getR C dX0_turnBack_15 fl_RX0_48 h0 (by decide) rfl rfl (by decide) (fun h_15 => ?_)
  refine j_iload_n C dX0_turnBack_18 rfl ?_
  refine j_aload_n C dX0_turnBack_19 rfl ?_
  refine j_getR C dX0_turnBack_20 fl_RX0_12 h0 (by decide) rfl rfl (by decide) (fun h_20 => ?_)
  refine j_getR C dX0_turnBack_23 fl_RX0_80 h_20 (by decide) rfl rfl (by decide) (fun h_23 => ?_)
  refine j_iload_n C dX0_turnBack_26 rfl ?_
  refine j_aload_n C dX0_turnBack_27 rfl ?_
  refine j_getR C dX0_turnBack_28 fl_RX0_45 h0 (by decide) rfl rfl (by decide) (fun h_28 => ?_)
  refine j_iload_n C dX0_turnBack_31 rfl ?_
  refine j_iald C dX0_turnBack_32 h_28 ?_
  refine j_callVI C (As := [.int v1, .int ((s_13 (rf v0 7) (v1).toNatClampNeg))]) dX0_turnBack_33 (CX9_strength l M hD (rf (rf v0 0) 1) h_23 v1 (s_13 (rf v0 7) (v1).toNatClampNeg) s_13) vv_RX0_126 h_23 (by decide) rfl rfl ⟨rfl, rfl⟩ (by decide) (Nat.le_of_ble_eq_true rfl) ⟨Nat.zero_le _, Nat.zero_le _⟩ (fun r_33 s_33 => ?_)
  refine j_iast C dX0_turnBack_36 h_15 (fun s_36 => ?_)
  refine j_aload_n C dX0_turnBack_37 rfl ?_
  refine j_getR C dX0_turnBack_38 fl_RX0_51 h0 (by decide) rfl rfl (by decide) (fun h_38 => ?_)
  refine j_iload_n C dX0_turnBack_41 rfl ?_
  refine j_aload_n C dX0_turnBack_42 rfl ?_
  refine j_getR C dX0_turnBack_43 fl_RX0_12 h0 (by decide) rfl rfl (by decide) (fun h_43 => ?_)
  refine j_getR C dX0_turnBack_46 fl_RX0_80 h_43 (by decide) rfl rfl (by decide) (fun h_46 => ?_)
  refine j_getR C dX0_turnBack_49 fl_RX0_147 h_46 (by decide) rfl rfl (by decide) (fun h_49 => ?_)
  refine j_iload_n C dX0_turnBack_52 rfl ?_
  refine j_iald C dX0_turnBack_53 h_49 ?_
  refine j_iast C dX0_turnBack_54 h_38 (fun s_54 => ?_)
  exact j_vret C dX0_turnBack_55
set_option maxRecDepth 20000 in
set_option maxHeartbeats 4000000 in
theorem CX0_isFoul (l : Launch) (M : Mc) (hD : Dj M) (v0 : Nat) (h0 : isK v0 0) (v1 : Int32) (v2 : Int32) (σ : Sg) : Ct l M yX0_isFoul cX0_isFoul 7 (some .boolean) { frames := 0, cells := 0, slots := 0, locals := 0 } vI [.ref (adr M v0), .int v1, .int v2] σ (fX0_isFoul v0 v1 v2 σ) := by
  refine ct_of (l := l) hD (by decide) (Nat.le_of_ble_eq_true rfl) ?_
  intro p e s m args below meth c C
  have H42 : ∀ (v3 : Int32) (n : Nat) (v4 : Int32) (v5 : Int32) (v6 : Int32) (τ : Sg), J p l e { frames := 0, cells := 0, slots := 0, locals := 0 } s m args below meth c M 7 vI τ 42 [(0, .ref (adr M v0)), (1, .int v1), (2, .int v2), (3, .int v3), (4, .int v4), (5, .int v5), (6, .int v6)] [] (lq3 (fX0_isFoul_42 v0 v1 v2 v3) n v4 v5 v6 τ) := by
    intro v3
    refine j_lq3 (Ls := fun v4 v5 v6 => [(0, .ref (adr M v0)), (1, .int v1), (2, .int v2), (3, .int v3), (4, .int v4), (5, .int v5), (6, .int v6)]) (st := fun _ _ _ => []) ?_
    intro k42 hk42 v4 v5 v6 σ
    have H106 : ∀ (v4 : Int32) (v5 : Int32) (v6 : Int32) (τ : Sg), J p l e { frames := 0, cells := 0, slots := 0, locals := 0 } s m args below meth c M 7 vI τ 106 [(0, .ref (adr M v0)), (1, .int v1), (2, .int v2), (3, .int v3), (4, .int v4), (5, .int v5), (6, .int v6)] [] (fX0_isFoul_106 v0 v1 v2 v3 v4 v5 v6 k42 τ) := by
      intro v4 v5 v6 σ
      unfold fX0_isFoul_106
      refine j_iinc C (v := (1 : Int32)) (Ls' := fun v6_106 => [(6, .int v6_106), (0, .ref (adr M v0)), (1, .int v1), (2, .int v2), (3, .int v3), (4, .int v4), (5, .int v5)]) dX0_isFoul_106 6 rfl (by decide) (by decide) (fun _ => rfl) (fun v6_106 => ?_)
      refine j_goto C (tgt := 42) dX0_isFoul_109 (by decide) ?_
      refine j_sub (Ls' := [(0, .ref (adr M v0)), (1, .int v1), (2, .int v2), (3, .int v3), (4, .int v4), (5, .int v5), (6, .int v6_106)]) [1, 2, 3, 4, 5, 6, 0] rfl ?_
      exact hk42 v4 v5 v6_106 σ
    have H104 : ∀ (v4 : Int32) (v6 : Int32) (w0 : Int32) (τ : Sg), J p l e { frames := 0, cells := 0, slots := 0, locals := 0 } s m args below meth c M 7 vI τ 104 [(0, .ref (adr M v0)), (1, .int v1), (2, .int v2), (3, .int v3), (4, .int v4), (6, .int v6)] [.int w0] (fX0_isFoul_104 v0 v1 v2 v3 v4 v6 w0 k42 τ) := by
      intro v4 v6 w0 σ
      unfold fX0_isFoul_104
      refine j_istore C (Ls' := fun v5_104 => [(5, .int v5_104), (0, .ref (adr M v0)), (1, .int v1), (2, .int v2), (3, .int v3), (4, .int v4), (6, .int v6)]) dX0_isFoul_104 (by decide) (fun _ => rfl) (fun v5_104 => ?_)
      refine j_sub (Ls' := [(0, .ref (adr M v0)), (1, .int v1), (2, .int v2), (3, .int v3), (4, .int v4), (5, .int v5_104), (6, .int v6)]) [1, 2, 3, 4, 5, 0, 6] rfl ?_
      exact H106 v4 v5_104 v6 σ
    have H99 : ∀ (v4 : Int32) (v6 : Int32) (τ : Sg), J p l e { frames := 0, cells := 0, slots := 0, locals := 0 } s m args below meth c M 7 vI τ 99 [(0, .ref (adr M v0)), (1, .int v1), (2, .int v2), (3, .int v3), (4, .int v4), (6, .int v6)] [] (fX0_isFoul_99 v0 v1 v2 v3 v4 v6 k42 τ) := by
      intro v4 v6 σ
      unfold fX0_isFoul_99
      refine j_iconst C (v := (1 : Int32)) dX0_isFoul_99 (by decide) ?_
      refine j_goto C (tgt := 104) dX0_isFoul_100 (by decide) ?_
      exact H104 v4 v6 (1 : Int32) σ
    unfold fX0_isFoul_42
    refine j_iload C dX0_isFoul_42 rfl ?_
    refine j_aload_n C dX0_isFoul_44 rfl ?_
    refine j_getR C dX0_isFoul_45 fl_RX0_12 h0 (by decide) rfl rfl (by decide) (fun h_45 => ?_)
    refine j_getR C dX0_isFoul_48 fl_RX0_80 h_45 (by decide) rfl rfl (by decide) (fun h_48 => ?_)
    refine j_getI C dX0_isFoul_51 fl_RX0_84 h_48 (by decide) rfl ?_
    refine j_icmp_ge C (tgt := 112) dX0_isFoul_54 (by decide) ?_ ?_
    · refine j_iload C dX0_isFoul_112 rfl ?_
      refine j_iconst C (v := (2 : Int32)) dX0_isFoul_114 (by decide) ?_
      refine j_icmp_ge C (tgt := 129) dX0_isFoul_115 (by decide) ?_ ?_
      · refine j_iconst C (v := (1 : Int32)) dX0_isFoul_129 (by decide) ?_
        refine j_goto C (tgt := 134) dX0_isFoul_130 (by decide) ?_
        exact j_zret C dX0_isFoul_134
      · refine j_iload C dX0_isFoul_118 rfl ?_
        refine j_iconst C (v := (1 : Int32)) dX0_isFoul_120 (by decide) ?_
        refine j_icmp_ne C (tgt := 133) dX0_isFoul_121 (by decide) ?_ ?_
        · refine j_iconst C (v := (0 : Int32)) dX0_isFoul_133 (by decide) ?_
          exact j_zret C dX0_isFoul_134
        · refine j_iload C dX0_isFoul_124 rfl ?_
          refine j_if_ne C (tgt := 133) dX0_isFoul_126 (by decide) ?_ ?_
          · refine j_iconst C (v := (0 : Int32)) dX0_isFoul_133 (by decide) ?_
            exact j_zret C dX0_isFoul_134
          · refine j_iconst C (v := (1 : Int32)) dX0_isFoul_129 (by decide) ?_
            refine j_goto C (tgt := 134) dX0_isFoul_130 (by decide) ?_
            exact j_zret C dX0_isFoul_134
    · refine j_iload C dX0_isFoul_57 rfl ?_
      refine j_iload_n C dX0_isFoul_59 rfl ?_
      refine j_icmp_eq C (tgt := 106) dX0_isFoul_60 (by decide) ?_ ?_
      · exact H106 v4 v5 v6 σ
      · refine j_aload_n C dX0_isFoul_63 rfl ?_
        refine j_getR C dX0_isFoul_64 fl_RX0_42 h0 (by decide) rfl rfl (by decide) (fun h_64 => ?_)
        refine j_iload C dX0_isFoul_67 rfl ?_
        refine j_iald C dX0_isFoul_69 h_64 ?_
        refine j_iload_n C dX0_isFoul_70 rfl ?_
        refine j_icmp_ne C (tgt := 106) dX0_isFoul_71 (by decide) ?_ ?_
        · exact H106 v4 v5 v6 σ
        · refine j_iinc C (v := (1 : Int32)) (Ls' := fun v4_74 => [(4, .int v4_74), (0, .ref (adr M v0)), (1, .int v1), (2, .int v2), (3, .int v3), (5, .int v5), (6, .int v6)]) dX0_isFoul_74 4 rfl (by decide) (by decide) (fun _ => rfl) (fun v4_74 => ?_)
          refine j_iload C dX0_isFoul_77 rfl ?_
          refine j_if_ne C (tgt := 99) dX0_isFoul_79 (by decide) ?_ ?_
          · refine j_sub (Ls' := [(0, .ref (adr M v0)), (1, .int v1), (2, .int v2), (3, .int v3), (4, .int v4_74), (6, .int v6)]) [1, 2, 3, 4, 0, 6] rfl ?_
            exact H99 v4_74 v6 σ
          · refine j_aload_n C dX0_isFoul_82 rfl ?_
            refine j_getR C dX0_isFoul_83 fl_RX0_12 h0 (by decide) rfl rfl (by decide) (fun h_83 => ?_)
            refine j_getR C dX0_isFoul_86 fl_RX0_80 h_83 (by decide) rfl rfl (by decide) (fun h_86 => ?_)
            refine j_getR C dX0_isFoul_89 fl_RX0_187 h_86 (by decide) rfl rfl (by decide) (fun h_89 => ?_)
            refine j_iload C dX0_isFoul_92 rfl ?_
            refine j_iald C dX0_isFoul_94 h_89 ?_
            refine j_iload_n C dX0_isFoul_95 rfl ?_
            refine j_icmp_gt C (tgt := 103) dX0_isFoul_96 (by decide) ?_ ?_
            · refine j_iconst C (v := (0 : Int32)) dX0_isFoul_103 (by decide) ?_
              refine j_sub (Ls' := [(0, .ref (adr M v0)), (1, .int v1), (2, .int v2), (3, .int v3), (4, .int v4_74), (6, .int v6)]) [1, 2, 3, 4, 0, 6] rfl ?_
              exact H104 v4_74 v6 (0 : Int32) σ
            · refine j_sub (Ls' := [(0, .ref (adr M v0)), (1, .int v1), (2, .int v2), (3, .int v3), (4, .int v4_74), (6, .int v6)]) [1, 2, 3, 4, 0, 6] rfl ?_
              exact H99 v4_74 v6 σ
  have H37 : ∀ (v3 : Int32) (v4 : Int32) (w0 : Int32) (τ : Sg), J p l e { frames := 0, cells := 0, slots := 0, locals := 0 } s m args below meth c M 7 vI τ 37 [(0, .ref (adr M v0)), (1, .int v1), (2, .int v2), (3, .int v3), (4, .int v4)] [.int w0] (fX0_isFoul_37 v0 v1 v2 v3 v4 w0 τ) := by
    intro v3 v4 w0 σ
    unfold fX0_isFoul_37
    refine j_istore C (Ls' := fun v5_37 => [(5, .int v5_37), (0, .ref (adr M v0)), (1, .int v1), (2, .int v2), (3, .int v3), (4, .int v4)]) dX0_isFoul_37 (by decide) (fun _ => rfl) (fun v5_37 => ?_)
    refine j_iconst C (v := (0 : Int32)) dX0_isFoul_39 (by decide) ?_
    refine j_istore C (Ls' := fun v6_40 => [(6, .int v6_40), (5, .int v5_37), (0, .ref (adr M v0)), (1, .int v1), (2, .int v2), (3, .int v3), (4, .int v4)]) dX0_isFoul_40 (by decide) (fun _ => rfl) (fun v6_40 => ?_)
    refine j_sub (Ls' := [(0, .ref (adr M v0)), (1, .int v1), (2, .int v2), (3, .int v3), (4, .int v4), (5, .int v5_37), (6, .int v6_40)]) [2, 3, 4, 5, 6, 1, 0] rfl ?_
    exact H42 v3 FU v4 v5_37 v6_40 σ
  unfold fX0_isFoul
  refine j_aload_n C dX0_isFoul_0 rfl ?_
  refine j_getR C dX0_isFoul_1 fl_RX0_12 h0 (by decide) rfl rfl (by decide) (fun h_1 => ?_)
  refine j_getR C dX0_isFoul_4 fl_RX0_137 h_1 (by decide) rfl rfl (by decide) (fun h_4 => ?_)
  refine j_getR C dX0_isFoul_7 fl_RX0_184 h_4 (by decide) rfl rfl (by decide) (fun h_7 => ?_)
  refine j_iload_n C dX0_isFoul_10 rfl ?_
  refine j_iald C dX0_isFoul_11 h_7 ?_
  refine j_istore_n C (Ls' := fun v3_12 => [(3, .int v3_12), (0, .ref (adr M v0)), (1, .int v1), (2, .int v2)]) dX0_isFoul_12 (by decide) (fun _ => rfl) (fun v3_12 => ?_)
  refine j_iconst C (v := (0 : Int32)) dX0_isFoul_13 (by decide) ?_
  refine j_istore C (Ls' := fun v4_14 => [(4, .int v4_14), (3, .int v3_12), (0, .ref (adr M v0)), (1, .int v1), (2, .int v2)]) dX0_isFoul_14 (by decide) (fun _ => rfl) (fun v4_14 => ?_)
  refine j_aload_n C dX0_isFoul_16 rfl ?_
  refine j_getR C dX0_isFoul_17 fl_RX0_12 h0 (by decide) rfl rfl (by decide) (fun h_17 => ?_)
  refine j_getR C dX0_isFoul_20 fl_RX0_80 h_17 (by decide) rfl rfl (by decide) (fun h_20 => ?_)
  refine j_getR C dX0_isFoul_23 fl_RX0_187 h_20 (by decide) rfl rfl (by decide) (fun h_23 => ?_)
  refine j_iload_n C dX0_isFoul_26 rfl ?_
  refine j_iald C dX0_isFoul_27 h_23 ?_
  refine j_iload_n C dX0_isFoul_28 rfl ?_
  refine j_icmp_gt C (tgt := 36) dX0_isFoul_29 (by decide) ?_ ?_
  · refine j_iconst C (v := (0 : Int32)) dX0_isFoul_36 (by decide) ?_
    refine j_sub (Ls' := [(0, .ref (adr M v0)), (1, .int v1), (2, .int v2), (3, .int v3_12), (4, .int v4_14)]) [2, 3, 4, 1, 0] rfl ?_
    exact H37 v3_12 v4_14 (0 : Int32) σ
  · refine j_iconst C (v := (1 : Int32)) dX0_isFoul_32 (by decide) ?_
    refine j_goto C (tgt := 37) dX0_isFoul_33 (by decide) ?_
    refine j_sub (Ls' := [(0, .ref (adr M v0)), (1, .int v1), (2, .int v2), (3, .int v3_12), (4, .int v4_14)]) [2, 3, 4, 1, 0] rfl ?_
    exact H37 v3_12 v4_14 (1 : Int32) σ
set_option maxRecDepth 20000 in
set_option maxHeartbeats 4000000 in
theorem CX0_stand (l : Launch) (M : Mc) (hD : Dj M) (v0 : Nat) (h0 : isK v0 0) (v1 : Int32) (v2 : Int32) (σ : Sg) : Ct l M yX0_stand cX0_stand 3 none { frames := 0, cells := 0, slots := 0, locals := 0 } vV [.ref (adr M v0), .int v1, .int v2] σ (fX0_stand v0 v1 v2 σ) := by
  refine ct_of (l := l) hD (by decide) (Nat.le_of_ble_eq_true rfl) ?_
  intro p e s m args below meth c C
  unfold fX0_stand
  refine j_aload_n C dX0_stand_0 rfl ?_
  refine j_getR C dX0_stand_1 fl_RX0_42 h0 (by decide) rfl rfl (by decide) (fun h_1 => ?_)
  refine j_iload_n C dX0_stand_4 rfl ?_
  refine j_iload_n C dX0_stand_5 rfl ?_
  refine j_iast C dX0_stand_6 h_1 (fun s_6 => ?_)
  refine j_aload_n C dX0_stand_7 rfl ?_
  refine j_getR C dX0_stand_8 fl_RX0_57 h0 (by decide) rfl rfl (by decide) (fun h_8 => ?_)
  refine j_aload_n C dX0_stand_11 rfl ?_
  refine j_getR C dX0_stand_12 fl_RX0_45 h0 (by decide) rfl rfl (by decide) (fun h_12 => ?_)
  refine j_iload_n C dX0_stand_15 rfl ?_
  refine j_iald C dX0_stand_16 h_12 ?_
  refine j_bipush C (v := (7 : Int32)) dX0_stand_17 (by decide) ?_
  refine j_imul C dX0_stand_19 ?_
  refine j_iload_n C dX0_stand_20 rfl ?_
  refine j_iadd C dX0_stand_21 ?_
  refine j_dup2 C dX0_stand_22 rfl rfl ?_
  refine j_iald C dX0_stand_23 h_8 ?_
  refine j_iconst C (v := (1 : Int32)) dX0_stand_24 (by decide) ?_
  refine j_iload_n C dX0_stand_25 rfl ?_
  refine j_ishl C dX0_stand_26 ?_
  refine j_ior C dX0_stand_27 ?_
  refine j_iast C dX0_stand_28 h_8 (fun s_28 => ?_)
  exact j_vret C dX0_stand_29
set_option maxRecDepth 20000 in
set_option maxHeartbeats 4000000 in
theorem CX0_comeIn (l : Launch) (M : Mc) (hD : Dj M) (v0 : Nat) (h0 : isK v0 0) (v1 : Int32) (v2 : Int32) (v3 : Int32) (σ : Sg) : Ct l M yX0_comeIn cX0_comeIn 4 none { frames := 2, cells := 0, slots := 0, locals := 43 } vV [.ref (adr M v0), .int v1, .int v2, .int v3] σ (fX0_comeIn v0 v1 v2 v3 σ) := by
  refine ct_of (l := l) hD (by decide) (Nat.le_of_ble_eq_true rfl) ?_
  intro p e s m args below meth c C
  have H64 : ∀  (τ : Sg), J p l e { frames := 2, cells := 0, slots := 0, locals := 43 } s m args below meth c M 4 vV τ 64 [(0, .ref (adr M v0)), (1, .int v1), (2, .int v2)] [] (fX0_comeIn_64 v0 v1 v2 τ) := by
    intro  σ
    unfold fX0_comeIn_64
    refine j_aload_n C dX0_comeIn_64 rfl ?_
    refine j_iload_n C dX0_comeIn_65 rfl ?_
    refine j_iload_n C dX0_comeIn_66 rfl ?_
    refine j_callVI C (As := [.int v1, .int v2]) dX0_comeIn_67 (CX0_isFoul l M hD v0 h0 v1 v2 σ) vv_RX0_174 h0 (by decide) rfl rfl ⟨rfl, rfl⟩ (by decide) (Nat.le_of_ble_eq_true rfl) ⟨Nat.zero_le _, Nat.zero_le _⟩ (fun r_67 s_67 => ?_)
    refine j_if_eq C (tgt := 86) dX0_comeIn_70 (by decide) ?_ ?_
    · refine j_aload_n C dX0_comeIn_86 rfl ?_
      refine j_iload_n C dX0_comeIn_87 rfl ?_
      refine j_iload_n C dX0_comeIn_88 rfl ?_
      refine j_callVv C (As := [.int v1, .int v2]) dX0_comeIn_89 (CX0_stand l M hD v0 h0 v1 v2 s_67) vv_RX0_181 h0 (by decide) rfl rfl ⟨rfl, rfl⟩ (by decide) (Nat.le_of_ble_eq_true rfl) ⟨Nat.zero_le _, Nat.zero_le _⟩ (fun r_89 s_89 => ?_)
      exact j_vret C dX0_comeIn_92
    · refine j_aload_n C dX0_comeIn_73 rfl ?_
      refine j_getR C dX0_comeIn_74 fl_RX0_21 h0 (by decide) rfl rfl (by decide) (fun h_74 => ?_)
      refine j_dup C dX0_comeIn_77 rfl ?_
      refine j_getI C dX0_comeIn_78 fl_RX0_178 h_74 (by decide) rfl ?_
      refine j_iconst C (v := (1 : Int32)) dX0_comeIn_81 (by decide) ?_
      refine j_iadd C dX0_comeIn_82 ?_
      refine j_put C dX0_comeIn_83 fl_RX0_178 fs_1_11 h_74 (by decide) rfl rfl rfl (fun s_83 => ?_)
      refine j_aload_n C dX0_comeIn_86 rfl ?_
      refine j_iload_n C dX0_comeIn_87 rfl ?_
      refine j_iload_n C dX0_comeIn_88 rfl ?_
      refine j_callVv C (As := [.int v1, .int v2]) dX0_comeIn_89 (CX0_stand l M hD v0 h0 v1 v2 s_83) vv_RX0_181 h0 (by decide) rfl rfl ⟨rfl, rfl⟩ (by decide) (Nat.le_of_ble_eq_true rfl) ⟨Nat.zero_le _, Nat.zero_le _⟩ (fun r_89 s_89 => ?_)
      exact j_vret C dX0_comeIn_92
  unfold fX0_comeIn
  refine j_aload_n C dX0_comeIn_0 rfl ?_
  refine j_getR C dX0_comeIn_1 fl_RX0_21 h0 (by decide) rfl rfl (by decide) (fun h_1 => ?_)
  refine j_iload_n C dX0_comeIn_4 rfl ?_
  refine j_iload_n C dX0_comeIn_5 rfl ?_
  refine j_iload_n C dX0_comeIn_6 rfl ?_
  refine j_callVv C (As := [.int v1, .int v2, .int v3]) dX0_comeIn_7 (CX1_noteCame l M hD (rf v0 1) h_1 v1 v2 v3 σ) vv_RX0_162 h_1 (by decide) rfl rfl ⟨rfl, rfl⟩ (by decide) (Nat.le_of_ble_eq_true rfl) ⟨Nat.zero_le _, Nat.zero_le _⟩ (fun r_7 s_7 => ?_)
  refine j_iload_n C dX0_comeIn_10 rfl ?_
  refine j_aload_n C dX0_comeIn_11 rfl ?_
  refine j_getR C dX0_comeIn_12 fl_RX0_51 h0 (by decide) rfl rfl (by decide) (fun h_12 => ?_)
  refine j_iload_n C dX0_comeIn_15 rfl ?_
  refine j_iald C dX0_comeIn_16 h_12 ?_
  refine j_icmp_ne C (tgt := 64) dX0_comeIn_17 (by decide) ?_ ?_
  · refine j_sub (Ls' := [(0, .ref (adr M v0)), (1, .int v1), (2, .int v2)]) [0, 1, 2] rfl ?_
    exact H64 s_7
  · refine j_aload_n C dX0_comeIn_20 rfl ?_
    refine j_getR C dX0_comeIn_21 fl_RX0_12 h0 (by decide) rfl rfl (by decide) (fun h_21 => ?_)
    refine j_getR C dX0_comeIn_24 fl_RX0_80 h_21 (by decide) rfl rfl (by decide) (fun h_24 => ?_)
    refine j_getR C dX0_comeIn_27 fl_RX0_165 h_24 (by decide) rfl rfl (by decide) (fun h_27 => ?_)
    refine j_iload_n C dX0_comeIn_30 rfl ?_
    refine j_iald C dX0_comeIn_31 h_27 ?_
    refine j_iconst C (v := (3 : Int32)) dX0_comeIn_32 (by decide) ?_
    refine j_icmp_ne C (tgt := 52) dX0_comeIn_33 (by decide) ?_ ?_
    · refine j_aload_n C dX0_comeIn_52 rfl ?_
      refine j_iload_n C dX0_comeIn_53 rfl ?_
      refine j_iload_n C dX0_comeIn_54 rfl ?_
      refine j_callVv C (As := [.int v1, .int v3]) dX0_comeIn_55 (CX0_goOff l M hD v0 h0 v1 v3 s_7) vv_RX0_168 h0 (by decide) rfl rfl ⟨rfl, rfl⟩ (by decide) (Nat.le_of_ble_eq_true rfl) ⟨Nat.zero_le _, Nat.zero_le _⟩ (fun r_55 s_55 => ?_)
      exact j_vret C dX0_comeIn_58
    · refine j_iload_n C dX0_comeIn_36 rfl ?_
      refine j_aload_n C dX0_comeIn_37 rfl ?_
      refine j_getR C dX0_comeIn_38 fl_RX0_12 h0 (by decide) rfl rfl (by decide) (fun h_38 => ?_)
      refine j_getR C dX0_comeIn_41 fl_RX0_80 h_38 (by decide) rfl rfl (by decide) (fun h_41 => ?_)
      refine j_getR C dX0_comeIn_44 fl_RX0_129 h_41 (by decide) rfl rfl (by decide) (fun h_44 => ?_)
      refine j_iload_n C dX0_comeIn_47 rfl ?_
      refine j_iald C dX0_comeIn_48 h_44 ?_
      refine j_icmp_eq C (tgt := 59) dX0_comeIn_49 (by decide) ?_ ?_
      · refine j_aload_n C dX0_comeIn_59 rfl ?_
        refine j_iload_n C dX0_comeIn_60 rfl ?_
        refine j_callVv C (As := [.int v1]) dX0_comeIn_61 (CX0_turnBack l M hD v0 h0 v1 s_7) vv_RX0_171 h0 (by decide) rfl rfl ⟨rfl, rfl⟩ (by decide) (Nat.le_of_ble_eq_true rfl) ⟨Nat.zero_le _, Nat.zero_le _⟩ (fun r_61 s_61 => ?_)
        refine j_sub (Ls' := [(0, .ref (adr M v0)), (1, .int v1), (2, .int v2)]) [0, 1, 2] rfl ?_
        exact H64 s_61
      · refine j_aload_n C dX0_comeIn_52 rfl ?_
        refine j_iload_n C dX0_comeIn_53 rfl ?_
        refine j_iload_n C dX0_comeIn_54 rfl ?_
        refine j_callVv C (As := [.int v1, .int v3]) dX0_comeIn_55 (CX0_goOff l M hD v0 h0 v1 v3 s_7) vv_RX0_168 h0 (by decide) rfl rfl ⟨rfl, rfl⟩ (by decide) (Nat.le_of_ble_eq_true rfl) ⟨Nat.zero_le _, Nat.zero_le _⟩ (fun r_55 s_55 => ?_)
        exact j_vret C dX0_comeIn_58
set_option maxRecDepth 20000 in
set_option maxHeartbeats 4000000 in
theorem CX0_letComeIn (l : Launch) (M : Mc) (hD : Dj M) (v0 : Nat) (h0 : isK v0 0) (v1 : Int32) (σ : Sg) : Ct l M yX0_letComeIn cX0_letComeIn 3 none { frames := 3, cells := 0, slots := 0, locals := 66 } vV [.ref (adr M v0), .int v1] σ (fX0_letComeIn v0 v1 σ) := by
  refine ct_of (l := l) hD (by decide) (Nat.le_of_ble_eq_true rfl) ?_
  intro p e s m args below meth c C
  have H2 : ∀  (n : Nat) (v2 : Int32) (τ : Sg), J p l e { frames := 3, cells := 0, slots := 0, locals := 66 } s m args below meth c M 3 vV τ 2 [(0, .ref (adr M v0)), (1, .int v1), (2, .int v2)] [] (lq1 (fX0_letComeIn_2 v0 v1) n v2 τ) := by
    refine j_lq1 (Ls := fun v2 => [(0, .ref (adr M v0)), (1, .int v1), (2, .int v2)]) (st := fun _ => []) ?_
    intro k2 hk2 v2 σ
    have H85 : ∀ (v2 : Int32) (τ : Sg), J p l e { frames := 3, cells := 0, slots := 0, locals := 66 } s m args below meth c M 3 vV τ 85 [(0, .ref (adr M v0)), (1, .int v1), (2, .int v2)] [] (fX0_letComeIn_85 v0 v1 v2 k2 τ) := by
      intro v2 σ
      unfold fX0_letComeIn_85
      refine j_iinc C (v := (1 : Int32)) (Ls' := fun v2_85 => [(2, .int v2_85), (0, .ref (adr M v0)), (1, .int v1)]) dX0_letComeIn_85 2 rfl (by decide) (by decide) (fun _ => rfl) (fun v2_85 => ?_)
      refine j_goto C (tgt := 2) dX0_letComeIn_88 (by decide) ?_
      refine j_sub (Ls' := [(0, .ref (adr M v0)), (1, .int v1), (2, .int v2_85)]) [1, 2, 0] rfl ?_
      exact hk2 v2_85 σ
    have H80 : ∀ (v2 : Int32) (w0 : Int32) (w1 : Int32) (w2 : Int32) (w3 : Nat) (hw3 : isK w3 0) (τ : Sg), J p l e { frames := 3, cells := 0, slots := 0, locals := 66 } s m args below meth c M 3 vV τ 80 [(0, .ref (adr M v0)), (1, .int v1), (2, .int v2)] [.int w0, .int w1, .int w2, .ref (adr M w3)] (fX0_letComeIn_80 v0 v1 v2 w0 w1 w2 w3 k2 τ) := by
      intro v2 w0 w1 w2 w3 hw3 σ
      unfold fX0_letComeIn_80
      refine j_iadd C dX0_letComeIn_80 ?_
      refine j_iload_n C dX0_letComeIn_81 rfl ?_
      refine j_callVv C (As := [.int w2, .int ((w1 + w0)), .int v1]) dX0_letComeIn_82 (CX0_comeIn l M hD w3 hw3 w2 (w1 + w0) v1 σ) vv_RX0_159 hw3 (by decide) rfl rfl ⟨rfl, rfl⟩ (by decide) (Nat.le_of_ble_eq_true rfl) ⟨Nat.zero_le _, Nat.zero_le _⟩ (fun r_82 s_82 => ?_)
      exact H85 v2 s_82
    unfold fX0_letComeIn_2
    refine j_iload_n C dX0_letComeIn_2 rfl ?_
    refine j_aload_n C dX0_letComeIn_3 rfl ?_
    refine j_getR C dX0_letComeIn_4 fl_RX0_12 h0 (by decide) rfl rfl (by decide) (fun h_4 => ?_)
    refine j_getR C dX0_letComeIn_7 fl_RX0_80 h_4 (by decide) rfl rfl (by decide) (fun h_7 => ?_)
    refine j_getI C dX0_letComeIn_10 fl_RX0_84 h_7 (by decide) rfl ?_
    refine j_icmp_ge C (tgt := 91) dX0_letComeIn_13 (by decide) ?_ ?_
    · exact j_vret C dX0_letComeIn_91
    · refine j_aload_n C dX0_letComeIn_16 rfl ?_
      refine j_iload_n C dX0_letComeIn_17 rfl ?_
      refine j_callVI C (As := [.int v2]) dX0_letComeIn_18 (CX0_isInSection l M hD v0 h0 v2 σ) vv_RX0_153 h0 (by decide) rfl rfl ⟨rfl, rfl⟩ (by decide) (Nat.le_of_ble_eq_true rfl) ⟨Nat.zero_le _, Nat.zero_le _⟩ (fun r_18 s_18 => ?_)
      refine j_if_eq C (tgt := 85) dX0_letComeIn_21 (by decide) ?_ ?_
      · exact H85 v2 s_18
      · refine j_iload_n C dX0_letComeIn_24 rfl ?_
        refine j_aload_n C dX0_letComeIn_25 rfl ?_
        refine j_getR C dX0_letComeIn_26 fl_RX0_54 h0 (by decide) rfl rfl (by decide) (fun h_26 => ?_)
        refine j_iload_n C dX0_letComeIn_29 rfl ?_
        refine j_iald C dX0_letComeIn_30 h_26 ?_
        refine j_isub C dX0_letComeIn_31 ?_
        refine j_aload_n C dX0_letComeIn_32 rfl ?_
        refine j_getR C dX0_letComeIn_33 fl_RX0_12 h0 (by decide) rfl rfl (by decide) (fun h_33 => ?_)
        refine j_getR C dX0_letComeIn_36 fl_RX0_137 h_33 (by decide) rfl rfl (by decide) (fun h_36 => ?_)
        refine j_getR C dX0_letComeIn_39 fl_RX0_156 h_36 (by decide) rfl rfl (by decide) (fun h_39 => ?_)
        refine j_aload_n C dX0_letComeIn_42 rfl ?_
        refine j_getR C dX0_letComeIn_43 fl_RX0_42 h0 (by decide) rfl rfl (by decide) (fun h_43 => ?_)
        refine j_iload_n C dX0_letComeIn_46 rfl ?_
        refine j_iald C dX0_letComeIn_47 h_43 ?_
        refine j_bipush C (v := (100 : Int32)) dX0_letComeIn_48 (by decide) ?_
        refine j_isub C dX0_letComeIn_50 ?_
        refine j_iald C dX0_letComeIn_51 h_39 ?_
        refine j_icmp_lt C (tgt := 85) dX0_letComeIn_52 (by decide) ?_ ?_
        · exact H85 v2 s_18
        · refine j_aload_n C dX0_letComeIn_55 rfl ?_
          refine j_iload_n C dX0_letComeIn_56 rfl ?_
          refine j_aload_n C dX0_letComeIn_57 rfl ?_
          refine j_getR C dX0_letComeIn_58 fl_RX0_42 h0 (by decide) rfl rfl (by decide) (fun h_58 => ?_)
          refine j_iload_n C dX0_letComeIn_61 rfl ?_
          refine j_iald C dX0_letComeIn_62 h_58 ?_
          refine j_bipush C (v := (100 : Int32)) dX0_letComeIn_63 (by decide) ?_
          refine j_isub C dX0_letComeIn_65 ?_
          refine j_aload_n C dX0_letComeIn_66 rfl ?_
          refine j_getR C dX0_letComeIn_67 fl_RX0_45 h0 (by decide) rfl rfl (by decide) (fun h_67 => ?_)
          refine j_iload_n C dX0_letComeIn_70 rfl ?_
          refine j_iald C dX0_letComeIn_71 h_67 ?_
          refine j_if_ne C (tgt := 79) dX0_letComeIn_72 (by decide) ?_ ?_
          · refine j_iconst C (v := (0 : Int32)) dX0_letComeIn_79 (by decide) ?_
            exact H80 v2 (0 : Int32) ((s_18 (rf v0 6) (v2).toNatClampNeg) - (100 : Int32)) v2 v0 h0 s_18
          · refine j_iconst C (v := (1 : Int32)) dX0_letComeIn_75 (by decide) ?_
            refine j_goto C (tgt := 80) dX0_letComeIn_76 (by decide) ?_
            exact H80 v2 (1 : Int32) ((s_18 (rf v0 6) (v2).toNatClampNeg) - (100 : Int32)) v2 v0 h0 s_18
  unfold fX0_letComeIn
  refine j_iconst C (v := (0 : Int32)) dX0_letComeIn_0 (by decide) ?_
  refine j_istore_n C (Ls' := fun v2_1 => [(2, .int v2_1), (0, .ref (adr M v0)), (1, .int v1)]) dX0_letComeIn_1 (by decide) (fun _ => rfl) (fun v2_1 => ?_)
  refine j_sub (Ls' := [(0, .ref (adr M v0)), (1, .int v1), (2, .int v2_1)]) [1, 2, 0] rfl ?_
  exact H2 FU v2_1 σ
set_option maxRecDepth 20000 in
set_option maxHeartbeats 4000000 in
theorem CX0_letAppear (l : Launch) (M : Mc) (hD : Dj M) (v0 : Nat) (h0 : isK v0 0) (v1 : Int32) (σ : Sg) : Ct l M yX0_letAppear cX0_letAppear 3 none { frames := 1, cells := 0, slots := 0, locals := 24 } vV [.ref (adr M v0), .int v1] σ (fX0_letAppear v0 v1 σ) := by
  refine ct_of (l := l) hD (by decide) (Nat.le_of_ble_eq_true rfl) ?_
  intro p e s m args below meth c C
  have H2 : ∀  (n : Nat) (v2 : Int32) (τ : Sg), J p l e { frames := 1, cells := 0, slots := 0, locals := 24 } s m args below meth c M 3 vV τ 2 [(0, .ref (adr M v0)), (1, .int v1), (2, .int v2)] [] (lq1 (fX0_letAppear_2 v0 v1) n v2 τ) := by
    refine j_lq1 (Ls := fun v2 => [(0, .ref (adr M v0)), (1, .int v1), (2, .int v2)]) (st := fun _ => []) ?_
    intro k2 hk2 v2 σ
    have H82 : ∀ (v2 : Int32) (τ : Sg), J p l e { frames := 1, cells := 0, slots := 0, locals := 24 } s m args below meth c M 3 vV τ 82 [(0, .ref (adr M v0)), (1, .int v1), (2, .int v2)] [] (fX0_letAppear_82 v0 v1 v2 k2 τ) := by
      intro v2 σ
      unfold fX0_letAppear_82
      refine j_iinc C (v := (1 : Int32)) (Ls' := fun v2_82 => [(2, .int v2_82), (0, .ref (adr M v0)), (1, .int v1)]) dX0_letAppear_82 2 rfl (by decide) (by decide) (fun _ => rfl) (fun v2_82 => ?_)
      refine j_goto C (tgt := 2) dX0_letAppear_85 (by decide) ?_
      refine j_sub (Ls' := [(0, .ref (adr M v0)), (1, .int v1), (2, .int v2_82)]) [1, 2, 0] rfl ?_
      exact hk2 v2_82 σ
    unfold fX0_letAppear_2
    refine j_iload_n C dX0_letAppear_2 rfl ?_
    refine j_aload_n C dX0_letAppear_3 rfl ?_
    refine j_getR C dX0_letAppear_4 fl_RX0_12 h0 (by decide) rfl rfl (by decide) (fun h_4 => ?_)
    refine j_getR C dX0_letAppear_7 fl_RX0_80 h_4 (by decide) rfl rfl (by decide) (fun h_7 => ?_)
    refine j_getI C dX0_letAppear_10 fl_RX0_84 h_7 (by decide) rfl ?_
    refine j_icmp_ge C (tgt := 88) dX0_letAppear_13 (by decide) ?_ ?_
    · exact j_vret C dX0_letAppear_88
    · refine j_aload_n C dX0_letAppear_16 rfl ?_
      refine j_getR C dX0_letAppear_17 fl_RX0_42 h0 (by decide) rfl rfl (by decide) (fun h_17 => ?_)
      refine j_iload_n C dX0_letAppear_20 rfl ?_
      refine j_iald C dX0_letAppear_21 h_17 ?_
      refine j_sipush C (v := (200 : Int32)) dX0_letAppear_22 (by decide) ?_
      refine j_icmp_ne C (tgt := 82) dX0_letAppear_25 (by decide) ?_ ?_
      · exact H82 v2 σ
      · refine j_aload_n C dX0_letAppear_28 rfl ?_
        refine j_getR C dX0_letAppear_29 fl_RX0_12 h0 (by decide) rfl rfl (by decide) (fun h_29 => ?_)
        refine j_getR C dX0_letAppear_32 fl_RX0_80 h_29 (by decide) rfl rfl (by decide) (fun h_32 => ?_)
        refine j_getR C dX0_letAppear_35 fl_RX0_144 h_32 (by decide) rfl rfl (by decide) (fun h_35 => ?_)
        refine j_iload_n C dX0_letAppear_38 rfl ?_
        refine j_iald C dX0_letAppear_39 h_35 ?_
        refine j_iload_n C dX0_letAppear_40 rfl ?_
        refine j_icmp_ne C (tgt := 82) dX0_letAppear_41 (by decide) ?_ ?_
        · exact H82 v2 σ
        · refine j_aload_n C dX0_letAppear_44 rfl ?_
          refine j_getR C dX0_letAppear_45 fl_RX0_21 h0 (by decide) rfl rfl (by decide) (fun h_45 => ?_)
          refine j_iload_n C dX0_letAppear_48 rfl ?_
          refine j_aload_n C dX0_letAppear_49 rfl ?_
          refine j_getR C dX0_letAppear_50 fl_RX0_12 h0 (by decide) rfl rfl (by decide) (fun h_50 => ?_)
          refine j_getR C dX0_letAppear_53 fl_RX0_80 h_50 (by decide) rfl rfl (by decide) (fun h_53 => ?_)
          refine j_getR C dX0_letAppear_56 fl_RX0_147 h_53 (by decide) rfl rfl (by decide) (fun h_56 => ?_)
          refine j_iload_n C dX0_letAppear_59 rfl ?_
          refine j_iald C dX0_letAppear_60 h_56 ?_
          refine j_iload_n C dX0_letAppear_61 rfl ?_
          refine j_callVv C (As := [.int v2, .int ((σ (rf (rf (rf v0 0) 1) 2) (v2).toNatClampNeg)), .int v1]) dX0_letAppear_62 (CX1_noteCame l M hD (rf v0 1) h_45 v2 (σ (rf (rf (rf v0 0) 1) 2) (v2).toNatClampNeg) v1 σ) vv_RX0_162 h_45 (by decide) rfl rfl ⟨rfl, rfl⟩ (by decide) (Nat.le_of_ble_eq_true rfl) ⟨Nat.zero_le _, Nat.zero_le _⟩ (fun r_62 s_62 => ?_)
          refine j_aload_n C dX0_letAppear_65 rfl ?_
          refine j_iload_n C dX0_letAppear_66 rfl ?_
          refine j_aload_n C dX0_letAppear_67 rfl ?_
          refine j_getR C dX0_letAppear_68 fl_RX0_12 h0 (by decide) rfl rfl (by decide) (fun h_68 => ?_)
          refine j_getR C dX0_letAppear_71 fl_RX0_80 h_68 (by decide) rfl rfl (by decide) (fun h_71 => ?_)
          refine j_getR C dX0_letAppear_74 fl_RX0_147 h_71 (by decide) rfl rfl (by decide) (fun h_74 => ?_)
          refine j_iload_n C dX0_letAppear_77 rfl ?_
          refine j_iald C dX0_letAppear_78 h_74 ?_
          refine j_callVv C (As := [.int v2, .int ((s_62 (rf (rf (rf v0 0) 1) 2) (v2).toNatClampNeg))]) dX0_letAppear_79 (CX0_stand l M hD v0 h0 v2 (s_62 (rf (rf (rf v0 0) 1) 2) (v2).toNatClampNeg) s_62) vv_RX0_181 h0 (by decide) rfl rfl ⟨rfl, rfl⟩ (by decide) (Nat.le_of_ble_eq_true rfl) ⟨Nat.zero_le _, Nat.zero_le _⟩ (fun r_79 s_79 => ?_)
          exact H82 v2 s_79
  unfold fX0_letAppear
  refine j_iconst C (v := (0 : Int32)) dX0_letAppear_0 (by decide) ?_
  refine j_istore_n C (Ls' := fun v2_1 => [(2, .int v2_1), (0, .ref (adr M v0)), (1, .int v1)]) dX0_letAppear_1 (by decide) (fun _ => rfl) (fun v2_1 => ?_)
  refine j_sub (Ls' := [(0, .ref (adr M v0)), (1, .int v1), (2, .int v2_1)]) [1, 2, 0] rfl ?_
  exact H2 FU v2_1 σ
set_option maxRecDepth 20000 in
set_option maxHeartbeats 4000000 in
theorem CX0_isAtStation (l : Launch) (M : Mc) (hD : Dj M) (v0 : Nat) (h0 : isK v0 0) (v1 : Int32) (σ : Sg) : Ct l M yX0_isAtStation cX0_isAtStation 2 (some .boolean) { frames := 0, cells := 0, slots := 0, locals := 0 } vI [.ref (adr M v0), .int v1] σ (fX0_isAtStation v0 v1 σ) := by
  refine ct_of (l := l) hD (by decide) (Nat.le_of_ble_eq_true rfl) ?_
  intro p e s m args below meth c C
  unfold fX0_isAtStation
  refine j_aload_n C dX0_isAtStation_0 rfl ?_
  refine j_getR C dX0_isAtStation_1 fl_RX0_42 h0 (by decide) rfl rfl (by decide) (fun h_1 => ?_)
  refine j_iload_n C dX0_isAtStation_4 rfl ?_
  refine j_iald C dX0_isAtStation_5 h_1 ?_
  refine j_bipush C (v := (100 : Int32)) dX0_isAtStation_6 (by decide) ?_
  refine j_icmp_ge C (tgt := 15) dX0_isAtStation_8 (by decide) ?_ ?_
  · refine j_iconst C (v := (0 : Int32)) dX0_isAtStation_15 (by decide) ?_
    exact j_zret C dX0_isAtStation_16
  · refine j_iconst C (v := (1 : Int32)) dX0_isAtStation_11 (by decide) ?_
    refine j_goto C (tgt := 16) dX0_isAtStation_12 (by decide) ?_
    exact j_zret C dX0_isAtStation_16
set_option maxRecDepth 20000 in
set_option maxHeartbeats 4000000 in
theorem CX5_nextHanding (l : Launch) (M : Mc) (hD : Dj M) (v0 : Nat) (h0 : isK v0 5) (v1 : Int32) (v2 : Int32) (σ : Sg) : Ct l M yX5_nextHanding cX5_nextHanding 6 (some .int) { frames := 0, cells := 0, slots := 0, locals := 0 } vI [.ref (adr M v0), .int v1, .int v2] σ (fX5_nextHanding v0 v1 v2 σ) := by
  refine ct_of (l := l) hD (by decide) (Nat.le_of_ble_eq_true rfl) ?_
  intro p e s m args below meth c C
  have H7 : ∀  (n : Nat) (v3 : Int32) (v4 : Int32) (τ : Sg), J p l e { frames := 0, cells := 0, slots := 0, locals := 0 } s m args below meth c M 6 vI τ 7 [(0, .ref (adr M v0)), (1, .int v1), (2, .int v2), (3, .int v3), (4, .int v4)] [] (lq2 (fX5_nextHanding_7 v0 v1 v2) n v3 v4 τ) := by
    refine j_lq2 (Ls := fun v3 v4 => [(0, .ref (adr M v0)), (1, .int v1), (2, .int v2), (3, .int v3), (4, .int v4)]) (st := fun _ _ => []) ?_
    intro k7 hk7 v3 v4 σ
    have H44 : ∀ (v3 : Int32) (v4 : Int32) (τ : Sg), J p l e { frames := 0, cells := 0, slots := 0, locals := 0 } s m args below meth c M 6 vI τ 44 [(0, .ref (adr M v0)), (1, .int v1), (2, .int v2), (3, .int v3), (4, .int v4)] [] (fX5_nextHanding_44 v0 v1 v2 v3 v4 k7 τ) := by
      intro v3 v4 σ
      unfold fX5_nextHanding_44
      refine j_iinc C (v := (1 : Int32)) (Ls' := fun v4_44 => [(4, .int v4_44), (0, .ref (adr M v0)), (1, .int v1), (2, .int v2), (3, .int v3)]) dX5_nextHanding_44 4 rfl (by decide) (by decide) (fun _ => rfl) (fun v4_44 => ?_)
      refine j_goto C (tgt := 7) dX5_nextHanding_47 (by decide) ?_
      refine j_sub (Ls' := [(0, .ref (adr M v0)), (1, .int v1), (2, .int v2), (3, .int v3), (4, .int v4_44)]) [1, 2, 3, 4, 0] rfl ?_
      exact hk7 v3 v4_44 σ
    unfold fX5_nextHanding_7
    refine j_iload C dX5_nextHanding_7 rfl ?_
    refine j_aload_n C dX5_nextHanding_9 rfl ?_
    refine j_getI C dX5_nextHanding_10 fl_RX5_9 h0 (by decide) rfl ?_
    refine j_icmp_ge C (tgt := 50) dX5_nextHanding_13 (by decide) ?_ ?_
    · refine j_iload_n C dX5_nextHanding_50 rfl ?_
      exact j_iret C dX5_nextHanding_51
    · refine j_aload_n C dX5_nextHanding_16 rfl ?_
      refine j_getR C dX5_nextHanding_17 fl_RX5_31 h0 (by decide) rfl rfl (by decide) (fun h_17 => ?_)
      refine j_iload C dX5_nextHanding_20 rfl ?_
      refine j_iconst C (v := (5 : Int32)) dX5_nextHanding_22 (by decide) ?_
      refine j_imul C dX5_nextHanding_23 ?_
      refine j_iload_n C dX5_nextHanding_24 rfl ?_
      refine j_iadd C dX5_nextHanding_25 ?_
      refine j_iald C dX5_nextHanding_26 h_17 ?_
      refine j_istore C (Ls' := fun v5_27 => [(5, .int v5_27), (0, .ref (adr M v0)), (1, .int v1), (2, .int v2), (3, .int v3), (4, .int v4)]) dX5_nextHanding_27 (by decide) (fun _ => rfl) (fun v5_27 => ?_)
      refine j_iload C dX5_nextHanding_29 rfl ?_
      refine j_iload_n C dX5_nextHanding_31 rfl ?_
      refine j_icmp_le C (tgt := 44) dX5_nextHanding_32 (by decide) ?_ ?_
      · refine j_sub (Ls' := [(0, .ref (adr M v0)), (1, .int v1), (2, .int v2), (3, .int v3), (4, .int v4)]) [1, 2, 3, 4, 5] rfl ?_
        exact H44 v3 v4 σ
      · refine j_iload C dX5_nextHanding_35 rfl ?_
        refine j_iload_n C dX5_nextHanding_37 rfl ?_
        refine j_icmp_ge C (tgt := 44) dX5_nextHanding_38 (by decide) ?_ ?_
        · refine j_sub (Ls' := [(0, .ref (adr M v0)), (1, .int v1), (2, .int v2), (3, .int v3), (4, .int v4)]) [1, 2, 3, 4, 5] rfl ?_
          exact H44 v3 v4 σ
        · refine j_iload C dX5_nextHanding_41 rfl ?_
          refine j_istore_n C (Ls' := fun v3_43 => [(3, .int v3_43), (5, .int v5_27), (0, .ref (adr M v0)), (1, .int v1), (2, .int v2), (4, .int v4)]) dX5_nextHanding_43 (by decide) (fun _ => rfl) (fun v3_43 => ?_)
          refine j_sub (Ls' := [(0, .ref (adr M v0)), (1, .int v1), (2, .int v2), (3, .int v3_43), (4, .int v4)]) [2, 3, 4, 0, 5] rfl ?_
          exact H44 v3_43 v4 σ
  unfold fX5_nextHanding
  refine j_sipush C (v := (501 : Int32)) dX5_nextHanding_0 (by decide) ?_
  refine j_istore_n C (Ls' := fun v3_3 => [(3, .int v3_3), (0, .ref (adr M v0)), (1, .int v1), (2, .int v2)]) dX5_nextHanding_3 (by decide) (fun _ => rfl) (fun v3_3 => ?_)
  refine j_iconst C (v := (0 : Int32)) dX5_nextHanding_4 (by decide) ?_
  refine j_istore C (Ls' := fun v4_5 => [(4, .int v4_5), (3, .int v3_3), (0, .ref (adr M v0)), (1, .int v1), (2, .int v2)]) dX5_nextHanding_5 (by decide) (fun _ => rfl) (fun v4_5 => ?_)
  refine j_sub (Ls' := [(0, .ref (adr M v0)), (1, .int v1), (2, .int v2), (3, .int v3_3), (4, .int v4_5)]) [2, 3, 4, 1, 0] rfl ?_
  exact H7 FU v3_3 v4_5 σ
set_option maxRecDepth 20000 in
set_option maxHeartbeats 4000000 in
theorem CX6_take (l : Launch) (M : Mc) (hD : Dj M) (v0 : Nat) (h0 : isK v0 6) (v1 : Nat) (h1 : isK v1 5) (v2 : Int32) (σ : Sg) : Ct l M yX6_take cX6_take 7 none { frames := 0, cells := 0, slots := 0, locals := 0 } vV [.ref (adr M v0), .ref (adr M v1), .int v2] σ (fX6_take v0 v1 v2 σ) := by
  refine ct_of (l := l) hD (by decide) (Nat.le_of_ble_eq_true rfl) ?_
  intro p e s m args below meth c C
  have H36 : ∀ (v3 : Int32) (v4 : Int32) (v5 : Int32) (w0 : Int32) (τ : Sg), J p l e { frames := 0, cells := 0, slots := 0, locals := 0 } s m args below meth c M 7 vV τ 36 [(0, .ref (adr M v0)), (1, .ref (adr M v1)), (2, .int v2), (3, .int v3), (4, .int v4), (5, .int v5)] [.int w0] (fX6_take_36 v0 v1 v2 v3 v4 v5 w0 τ) := by
    intro v3 v4 v5 w0 σ
    unfold fX6_take_36
    refine j_istore C (Ls' := fun v6_36 => [(6, .int v6_36), (0, .ref (adr M v0)), (1, .ref (adr M v1)), (2, .int v2), (3, .int v3), (4, .int v4), (5, .int v5)]) dX6_take_36 (by decide) (fun _ => rfl) (fun v6_36 => ?_)
    refine j_aload_n C dX6_take_38 rfl ?_
    refine j_getR C dX6_take_39 fl_RX6_68 h1 (by decide) rfl rfl (by decide) (fun h_39 => ?_)
    refine j_iload_n C dX6_take_42 rfl ?_
    refine j_iald C dX6_take_43 h_39 ?_
    refine j_cases (fun hq44_0 => ?_) (fun hq44_0 => ?_)
    · refine j_tabIn C dX6_take_44 (tgt := 76) hq44_0 (by decide) (by decide) rfl (by decide) ?_
      refine j_iload C dX6_take_76 rfl ?_
      refine j_if_eq C (tgt := 102) dX6_take_78 (by decide) ?_ ?_
      · refine j_aload_n C dX6_take_102 rfl ?_
        refine j_getR C dX6_take_103 fl_RX6_71 h1 (by decide) rfl rfl (by decide) (fun h_103 => ?_)
        refine j_iload_n C dX6_take_106 rfl ?_
        refine j_iald C dX6_take_107 h_103 ?_
        refine j_aload_n C dX6_take_108 rfl ?_
        refine j_getI C dX6_take_109 fl_RX6_34 h0 (by decide) rfl ?_
        refine j_icmp_ne C (tgt := 214) dX6_take_112 (by decide) ?_ ?_
        · exact j_vret C dX6_take_214
        · refine j_aload_n C dX6_take_115 rfl ?_
          refine j_getR C dX6_take_116 fl_RX6_31 h0 (by decide) rfl rfl (by decide) (fun h_116 => ?_)
          refine j_iload C dX6_take_119 rfl ?_
          refine j_dup2 C dX6_take_121 rfl rfl ?_
          refine j_iald C dX6_take_122 h_116 ?_
          refine j_iconst C (v := (1 : Int32)) dX6_take_123 (by decide) ?_
          refine j_iload_n C dX6_take_124 rfl ?_
          refine j_ishl C dX6_take_125 ?_
          refine j_ior C dX6_take_126 ?_
          refine j_iast C dX6_take_127 h_116 (fun s_127 => ?_)
          refine j_goto C (tgt := 214) dX6_take_128 (by decide) ?_
          exact j_vret C dX6_take_214
      · refine j_aload_n C dX6_take_81 rfl ?_
        refine j_getR C dX6_take_82 fl_RX6_31 h0 (by decide) rfl rfl (by decide) (fun h_82 => ?_)
        refine j_iload C dX6_take_85 rfl ?_
        refine j_dup2 C dX6_take_87 rfl rfl ?_
        refine j_iald C dX6_take_88 h_82 ?_
        refine j_iconst C (v := (1 : Int32)) dX6_take_89 (by decide) ?_
        refine j_aload_n C dX6_take_90 rfl ?_
        refine j_getR C dX6_take_91 fl_RX6_71 h1 (by decide) rfl rfl (by decide) (fun h_91 => ?_)
        refine j_iload_n C dX6_take_94 rfl ?_
        refine j_iald C dX6_take_95 h_91 ?_
        refine j_ishl C dX6_take_96 ?_
        refine j_ior C dX6_take_97 ?_
        refine j_iast C dX6_take_98 h_82 (fun s_98 => ?_)
        refine j_goto C (tgt := 214) dX6_take_99 (by decide) ?_
        exact j_vret C dX6_take_214
    · refine j_cases (fun hq44_1 => ?_) (fun hq44_1 => ?_)
      · refine j_tabIn C dX6_take_44 (tgt := 131) hq44_1 (by decide) (by decide) rfl (by decide) ?_
        refine j_aload_n C dX6_take_131 rfl ?_
        refine j_getR C dX6_take_132 fl_RX6_24 h0 (by decide) rfl rfl (by decide) (fun h_132 => ?_)
        refine j_iload_n C dX6_take_135 rfl ?_
        refine j_dup2 C dX6_take_136 rfl rfl ?_
        refine j_iald C dX6_take_137 h_132 ?_
        refine j_iload C dX6_take_138 rfl ?_
        refine j_iadd C dX6_take_140 ?_
        refine j_iast C dX6_take_141 h_132 (fun s_141 => ?_)
        refine j_goto C (tgt := 214) dX6_take_142 (by decide) ?_
        exact j_vret C dX6_take_214
      · refine j_cases (fun hq44_2 => ?_) (fun hq44_2 => ?_)
        · refine j_tabIn C dX6_take_44 (tgt := 145) hq44_2 (by decide) (by decide) rfl (by decide) ?_
          refine j_aload_n C dX6_take_145 rfl ?_
          refine j_getR C dX6_take_146 fl_RX6_28 h0 (by decide) rfl rfl (by decide) (fun h_146 => ?_)
          refine j_iload C dX6_take_149 rfl ?_
          refine j_iload C dX6_take_151 rfl ?_
          refine j_if_eq C (tgt := 173) dX6_take_153 (by decide) ?_ ?_
          · refine j_aload_n C dX6_take_173 rfl ?_
            refine j_getR C dX6_take_174 fl_RX6_28 h0 (by decide) rfl rfl (by decide) (fun h_174 => ?_)
            refine j_iload C dX6_take_177 rfl ?_
            refine j_iald C dX6_take_179 h_174 ?_
            refine j_iast C dX6_take_180 h_146 (fun s_180 => ?_)
            refine j_goto C (tgt := 214) dX6_take_181 (by decide) ?_
            exact j_vret C dX6_take_214
          · refine j_iload C dX6_take_156 rfl ?_
            refine j_aload_n C dX6_take_158 rfl ?_
            refine j_getR C dX6_take_159 fl_RX6_28 h0 (by decide) rfl rfl (by decide) (fun h_159 => ?_)
            refine j_iload C dX6_take_162 rfl ?_
            refine j_iald C dX6_take_164 h_159 ?_
            refine j_icmp_le C (tgt := 173) dX6_take_165 (by decide) ?_ ?_
            · refine j_aload_n C dX6_take_173 rfl ?_
              refine j_getR C dX6_take_174 fl_RX6_28 h0 (by decide) rfl rfl (by decide) (fun h_174 => ?_)
              refine j_iload C dX6_take_177 rfl ?_
              refine j_iald C dX6_take_179 h_174 ?_
              refine j_iast C dX6_take_180 h_146 (fun s_180 => ?_)
              refine j_goto C (tgt := 214) dX6_take_181 (by decide) ?_
              exact j_vret C dX6_take_214
            · refine j_iload C dX6_take_168 rfl ?_
              refine j_goto C (tgt := 180) dX6_take_170 (by decide) ?_
              refine j_iast C dX6_take_180 h_146 (fun s_180 => ?_)
              refine j_goto C (tgt := 214) dX6_take_181 (by decide) ?_
              exact j_vret C dX6_take_214
        · refine j_cases (fun hq44_3 => ?_) (fun hq44_3 => ?_)
          · refine j_tabIn C dX6_take_44 (tgt := 184) hq44_3 (by decide) (by decide) rfl (by decide) ?_
            refine j_aload_n C dX6_take_184 rfl ?_
            refine j_iload C dX6_take_185 rfl ?_
            refine j_if_eq C (tgt := 204) dX6_take_187 (by decide) ?_ ?_
            · refine j_aload_n C dX6_take_204 rfl ?_
              refine j_getI C dX6_take_205 fl_RX6_21 h0 (by decide) rfl ?_
              refine j_put C dX6_take_208 fl_RX6_21 fs_6_4 h0 (by decide) rfl rfl rfl (fun s_208 => ?_)
              refine j_goto C (tgt := 214) dX6_take_211 (by decide) ?_
              exact j_vret C dX6_take_214
            · refine j_iload C dX6_take_190 rfl ?_
              refine j_aload_n C dX6_take_192 rfl ?_
              refine j_getI C dX6_take_193 fl_RX6_21 h0 (by decide) rfl ?_
              refine j_icmp_ge C (tgt := 204) dX6_take_196 (by decide) ?_ ?_
              · refine j_aload_n C dX6_take_204 rfl ?_
                refine j_getI C dX6_take_205 fl_RX6_21 h0 (by decide) rfl ?_
                refine j_put C dX6_take_208 fl_RX6_21 fs_6_4 h0 (by decide) rfl rfl rfl (fun s_208 => ?_)
                refine j_goto C (tgt := 214) dX6_take_211 (by decide) ?_
                exact j_vret C dX6_take_214
              · refine j_iload C dX6_take_199 rfl ?_
                refine j_goto C (tgt := 208) dX6_take_201 (by decide) ?_
                refine j_put C dX6_take_208 fl_RX6_21 fs_6_4 h0 (by decide) rfl rfl rfl (fun s_208 => ?_)
                refine j_goto C (tgt := 214) dX6_take_211 (by decide) ?_
                exact j_vret C dX6_take_214
          · refine j_tabOut C dX6_take_44 (tgt := 214) (by have hq44_0 := i_ne hq44_0; have hq44_1 := i_ne hq44_1; have hq44_2 := i_ne hq44_2; have hq44_3 := i_ne hq44_3; simp only [show ((0 : Int32)).toInt = 0 from rfl, show ((1 : Int32)).toInt = 1 from rfl, show ((2 : Int32)).toInt = 2 from rfl, show ((3 : Int32)).toInt = 3 from rfl] at *; omega) (by decide) ?_
            exact j_vret C dX6_take_214
  unfold fX6_take
  refine j_aload_n C dX6_take_0 rfl ?_
  refine j_getR C dX6_take_1 fl_RX6_59 h1 (by decide) rfl rfl (by decide) (fun h_1 => ?_)
  refine j_iload_n C dX6_take_4 rfl ?_
  refine j_iald C dX6_take_5 h_1 ?_
  refine j_istore_n C (Ls' := fun v3_6 => [(3, .int v3_6), (0, .ref (adr M v0)), (1, .ref (adr M v1)), (2, .int v2)]) dX6_take_6 (by decide) (fun _ => rfl) (fun v3_6 => ?_)
  refine j_aload_n C dX6_take_7 rfl ?_
  refine j_getR C dX6_take_8 fl_RX6_62 h1 (by decide) rfl rfl (by decide) (fun h_8 => ?_)
  refine j_iload_n C dX6_take_11 rfl ?_
  refine j_iald C dX6_take_12 h_8 ?_
  refine j_istore C (Ls' := fun v4_13 => [(4, .int v4_13), (3, .int v3_6), (0, .ref (adr M v0)), (1, .ref (adr M v1)), (2, .int v2)]) dX6_take_13 (by decide) (fun _ => rfl) (fun v4_13 => ?_)
  refine j_aload_n C dX6_take_15 rfl ?_
  refine j_getR C dX6_take_16 fl_RX6_65 h1 (by decide) rfl rfl (by decide) (fun h_16 => ?_)
  refine j_iload_n C dX6_take_19 rfl ?_
  refine j_iald C dX6_take_20 h_16 ?_
  refine j_istore C (Ls' := fun v5_21 => [(5, .int v5_21), (4, .int v4_13), (3, .int v3_6), (0, .ref (adr M v0)), (1, .ref (adr M v1)), (2, .int v2)]) dX6_take_21 (by decide) (fun _ => rfl) (fun v5_21 => ?_)
  refine j_iload_n C dX6_take_23 rfl ?_
  refine j_aload_n C dX6_take_24 rfl ?_
  refine j_getI C dX6_take_25 fl_RX6_34 h0 (by decide) rfl ?_
  refine j_icmp_ne C (tgt := 35) dX6_take_28 (by decide) ?_ ?_
  · refine j_iconst C (v := (0 : Int32)) dX6_take_35 (by decide) ?_
    refine j_sub (Ls' := [(0, .ref (adr M v0)), (1, .ref (adr M v1)), (2, .int v2), (3, .int v3_6), (4, .int v4_13), (5, .int v5_21)]) [3, 4, 5, 2, 1, 0] rfl ?_
    exact H36 v3_6 v4_13 v5_21 (0 : Int32) σ
  · refine j_iconst C (v := (1 : Int32)) dX6_take_31 (by decide) ?_
    refine j_goto C (tgt := 36) dX6_take_32 (by decide) ?_
    refine j_sub (Ls' := [(0, .ref (adr M v0)), (1, .ref (adr M v1)), (2, .int v2), (3, .int v3_6), (4, .int v4_13), (5, .int v5_21)]) [3, 4, 5, 2, 1, 0] rfl ?_
    exact H36 v3_6 v4_13 v5_21 (1 : Int32) σ
