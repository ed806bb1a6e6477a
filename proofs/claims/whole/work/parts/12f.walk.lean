set_option maxRecDepth 20000 in
set_option maxHeartbeats 4000000 in
theorem CX1_noteHead (l : Launch) (M : Mc) (hD : Dj M) (v0 : Nat) (h0 : isK v0 1) (v1 : Int32) (v2 : Int32) (v3 : Int32) (v4 : Int32) (σ : Sg) : Ct l M yX1_noteHead cX1_noteHead 6 none { frames := 0, cells := 0, slots := 0, locals := 0 } vV [.ref (adr M v0), .int v1, .int v2, .int v3, .int v4] σ (fX1_noteHead v0 v1 v2 v3 v4 σ) := by
  refine ct_of (l := l) hD (by decide) (Nat.le_of_ble_eq_true rfl) ?_
  intro p e s m args below meth c C
  unfold fX1_noteHead
  refine j_iconst C (v := (1 : Int32)) dX1_noteHead_0 (by decide) ?_
  refine j_iload_n C dX1_noteHead_1 rfl ?_
  refine j_iconst C (v := (5 : Int32)) dX1_noteHead_2 (by decide) ?_
  refine j_imul C dX1_noteHead_3 ?_
  refine j_iload C dX1_noteHead_4 rfl ?_
  refine j_iadd C dX1_noteHead_6 ?_
  refine j_ishl C dX1_noteHead_7 ?_
  refine j_istore C (Ls' := fun v5_8 => [(5, .int v5_8), (0, .ref (adr M v0)), (1, .int v1), (2, .int v2), (3, .int v3), (4, .int v4)]) dX1_noteHead_8 (by decide) (fun _ => rfl) (fun v5_8 => ?_)
  refine j_aload_n C dX1_noteHead_10 rfl ?_
  refine j_getI C dX1_noteHead_11 fl_RX1_30 h0 (by decide) rfl ?_
  refine j_iload C dX1_noteHead_14 rfl ?_
  refine j_iand C dX1_noteHead_16 ?_
  refine j_if_eq C (tgt := 21) dX1_noteHead_17 (by decide) ?_ ?_
  · refine j_aload_n C dX1_noteHead_21 rfl ?_
    refine j_dup C dX1_noteHead_22 rfl ?_
    refine j_getI C dX1_noteHead_23 fl_RX1_30 h0 (by decide) rfl ?_
    refine j_iload C dX1_noteHead_26 rfl ?_
    refine j_ior C dX1_noteHead_28 ?_
    refine j_put C dX1_noteHead_29 fl_RX1_30 fs_1_5 h0 (by decide) rfl rfl rfl (fun s_29 => ?_)
    refine j_aload_n C dX1_noteHead_32 rfl ?_
    refine j_getI C dX1_noteHead_33 fl_RX1_33 h0 (by decide) rfl ?_
    refine j_if_ne C (tgt := 60) dX1_noteHead_36 (by decide) ?_ ?_
    · refine j_aload_n C dX1_noteHead_60 rfl ?_
      refine j_dup C dX1_noteHead_61 rfl ?_
      refine j_getI C dX1_noteHead_62 fl_RX1_33 h0 (by decide) rfl ?_
      refine j_iconst C (v := (1 : Int32)) dX1_noteHead_65 (by decide) ?_
      refine j_iadd C dX1_noteHead_66 ?_
      refine j_put C dX1_noteHead_67 fl_RX1_33 fs_1_6 h0 (by decide) rfl rfl rfl (fun s_67 => ?_)
      exact j_vret C dX1_noteHead_70
    · refine j_aload_n C dX1_noteHead_39 rfl ?_
      refine j_iload_n C dX1_noteHead_40 rfl ?_
      refine j_put C dX1_noteHead_41 fl_RX1_36 fs_1_7 h0 (by decide) rfl rfl rfl (fun s_41 => ?_)
      refine j_aload_n C dX1_noteHead_44 rfl ?_
      refine j_iload_n C dX1_noteHead_45 rfl ?_
      refine j_put C dX1_noteHead_46 fl_RX1_39 fs_1_8 h0 (by decide) rfl rfl rfl (fun s_46 => ?_)
      refine j_aload_n C dX1_noteHead_49 rfl ?_
      refine j_iload_n C dX1_noteHead_50 rfl ?_
      refine j_put C dX1_noteHead_51 fl_RX1_42 fs_1_9 h0 (by decide) rfl rfl rfl (fun s_51 => ?_)
      refine j_aload_n C dX1_noteHead_54 rfl ?_
      refine j_iload C dX1_noteHead_55 rfl ?_
      refine j_put C dX1_noteHead_57 fl_RX1_45 fs_1_10 h0 (by decide) rfl rfl rfl (fun s_57 => ?_)
      refine j_aload_n C dX1_noteHead_60 rfl ?_
      refine j_dup C dX1_noteHead_61 rfl ?_
      refine j_getI C dX1_noteHead_62 fl_RX1_33 h0 (by decide) rfl ?_
      refine j_iconst C (v := (1 : Int32)) dX1_noteHead_65 (by decide) ?_
      refine j_iadd C dX1_noteHead_66 ?_
      refine j_put C dX1_noteHead_67 fl_RX1_33 fs_1_6 h0 (by decide) rfl rfl rfl (fun s_67 => ?_)
      exact j_vret C dX1_noteHead_70
  · exact j_vret C dX1_noteHead_20
set_option maxRecDepth 20000 in
set_option maxHeartbeats 4000000 in
theorem CX0_noteHeads (l : Launch) (M : Mc) (hD : Dj M) (v0 : Nat) (h0 : isK v0 0) (v1 : Int32) (σ : Sg) : Ct l M yX0_noteHeads cX0_noteHeads 4 none { frames := 1, cells := 0, slots := 0, locals := 25 } vV [.ref (adr M v0), .int v1] σ (fX0_noteHeads v0 v1 σ) := by
  refine ct_of (l := l) hD (by decide) (Nat.le_of_ble_eq_true rfl) ?_
  intro p e s m args below meth c C
  have H2 : ∀  (n : Nat) (v2 : Int32) (τ : Sg), J p l e { frames := 1, cells := 0, slots := 0, locals := 25 } s m args below meth c M 4 vV τ 2 [(0, .ref (adr M v0)), (1, .int v1), (2, .int v2)] [] (lq1 (fX0_noteHeads_2 v0 v1) n v2 τ) := by
    refine j_lq1 (Ls := fun v2 => [(0, .ref (adr M v0)), (1, .int v1), (2, .int v2)]) (st := fun _ => []) ?_
    intro k2 hk2 v2 σ
    have H20 : ∀ (v2 : Int32) (n : Nat) (v3 : Int32) (τ : Sg), J p l e { frames := 1, cells := 0, slots := 0, locals := 25 } s m args below meth c M 4 vV τ 20 [(0, .ref (adr M v0)), (1, .int v1), (2, .int v2), (3, .int v3)] [] (lq1 (fX0_noteHeads_20 v0 v1 v2 k2) n v3 τ) := by
      intro v2
      refine j_lq1 (Ls := fun v3 => [(0, .ref (adr M v0)), (1, .int v1), (2, .int v2), (3, .int v3)]) (st := fun _ => []) ?_
      intro k20 hk20 v3 σ
      have H91 : ∀ (v3 : Int32) (τ : Sg), J p l e { frames := 1, cells := 0, slots := 0, locals := 25 } s m args below meth c M 4 vV τ 91 [(0, .ref (adr M v0)), (1, .int v1), (2, .int v2), (3, .int v3)] [] (fX0_noteHeads_91 v0 v1 v2 v3 k2 k20 τ) := by
        intro v3 σ
        unfold fX0_noteHeads_91
        refine j_iinc C (v := (1 : Int32)) (Ls' := fun v3_91 => [(3, .int v3_91), (0, .ref (adr M v0)), (1, .int v1), (2, .int v2)]) dX0_noteHeads_91 3 rfl (by decide) (by decide) (fun _ => rfl) (fun v3_91 => ?_)
        refine j_goto C (tgt := 20) dX0_noteHeads_94 (by decide) ?_
        refine j_sub (Ls' := [(0, .ref (adr M v0)), (1, .int v1), (2, .int v2), (3, .int v3_91)]) [1, 2, 3, 0] rfl ?_
        exact hk20 v3_91 σ
      unfold fX0_noteHeads_20
      refine j_iload_n C dX0_noteHeads_20 rfl ?_
      refine j_aload_n C dX0_noteHeads_21 rfl ?_
      refine j_getR C dX0_noteHeads_22 fl_RX0_12 h0 (by decide) rfl rfl (by decide) (fun h_22 => ?_)
      refine j_getR C dX0_noteHeads_25 fl_RX0_80 h_22 (by decide) rfl rfl (by decide) (fun h_25 => ?_)
      refine j_getI C dX0_noteHeads_28 fl_RX0_84 h_25 (by decide) rfl ?_
      refine j_icmp_ge C (tgt := 97) dX0_noteHeads_31 (by decide) ?_ ?_
      · refine j_iinc C (v := (1 : Int32)) (Ls' := fun v2_97 => [(2, .int v2_97), (0, .ref (adr M v0)), (1, .int v1), (3, .int v3)]) dX0_noteHeads_97 2 rfl (by decide) (by decide) (fun _ => rfl) (fun v2_97 => ?_)
        refine j_goto C (tgt := 2) dX0_noteHeads_100 (by decide) ?_
        refine j_sub (Ls' := [(0, .ref (adr M v0)), (1, .int v1), (2, .int v2_97)]) [1, 2, 0] rfl ?_
        exact hk2 v2_97 σ
      · refine j_aload_n C dX0_noteHeads_34 rfl ?_
        refine j_iload_n C dX0_noteHeads_35 rfl ?_
        refine j_callVI C (As := [.int v2]) dX0_noteHeads_36 (CX0_isInSection l M hD v0 h0 v2 σ) vv_RX0_153 h0 (by decide) rfl rfl ⟨rfl, rfl⟩ (by decide) (Nat.le_of_ble_eq_true rfl) ⟨Nat.zero_le _, Nat.zero_le _⟩ (fun r_36 s_36 => ?_)
        refine j_if_eq C (tgt := 91) dX0_noteHeads_39 (by decide) ?_ ?_
        · exact H91 v3 s_36
        · refine j_aload_n C dX0_noteHeads_42 rfl ?_
          refine j_getR C dX0_noteHeads_43 fl_RX0_42 h0 (by decide) rfl rfl (by decide) (fun h_43 => ?_)
          refine j_iload_n C dX0_noteHeads_46 rfl ?_
          refine j_iald C dX0_noteHeads_47 h_43 ?_
          refine j_aload_n C dX0_noteHeads_48 rfl ?_
          refine j_getR C dX0_noteHeads_49 fl_RX0_42 h0 (by decide) rfl rfl (by decide) (fun h_49 => ?_)
          refine j_iload_n C dX0_noteHeads_52 rfl ?_
          refine j_iald C dX0_noteHeads_53 h_49 ?_
          refine j_icmp_ne C (tgt := 91) dX0_noteHeads_54 (by decide) ?_ ?_
          · exact H91 v3 s_36
          · refine j_aload_n C dX0_noteHeads_57 rfl ?_
            refine j_getR C dX0_noteHeads_58 fl_RX0_45 h0 (by decide) rfl rfl (by decide) (fun h_58 => ?_)
            refine j_iload_n C dX0_noteHeads_61 rfl ?_
            refine j_iald C dX0_noteHeads_62 h_58 ?_
            refine j_aload_n C dX0_noteHeads_63 rfl ?_
            refine j_getR C dX0_noteHeads_64 fl_RX0_45 h0 (by decide) rfl rfl (by decide) (fun h_64 => ?_)
            refine j_iload_n C dX0_noteHeads_67 rfl ?_
            refine j_iald C dX0_noteHeads_68 h_64 ?_
            refine j_icmp_eq C (tgt := 91) dX0_noteHeads_69 (by decide) ?_ ?_
            · exact H91 v3 s_36
            · refine j_aload_n C dX0_noteHeads_72 rfl ?_
              refine j_getR C dX0_noteHeads_73 fl_RX0_21 h0 (by decide) rfl rfl (by decide) (fun h_73 => ?_)
              refine j_iload_n C dX0_noteHeads_76 rfl ?_
              refine j_aload_n C dX0_noteHeads_77 rfl ?_
              refine j_getR C dX0_noteHeads_78 fl_RX0_42 h0 (by decide) rfl rfl (by decide) (fun h_78 => ?_)
              refine j_iload_n C dX0_noteHeads_81 rfl ?_
              refine j_iald C dX0_noteHeads_82 h_78 ?_
              refine j_bipush C (v := (100 : Int32)) dX0_noteHeads_83 (by decide) ?_
              refine j_isub C dX0_noteHeads_85 ?_
              refine j_iload_n C dX0_noteHeads_86 rfl ?_
              refine j_iload_n C dX0_noteHeads_87 rfl ?_
              refine j_callVv C (As := [.int v1, .int (((s_36 (rf v0 6) (v2).toNatClampNeg) - (100 : Int32))), .int v2, .int v3]) dX0_noteHeads_88 (CX1_noteHead l M hD (rf v0 1) h_73 v1 ((s_36 (rf v0 6) (v2).toNatClampNeg) - (100 : Int32)) v2 v3 s_36) vv_RX0_238 h_73 (by decide) rfl rfl ⟨rfl, rfl⟩ (by decide) (Nat.le_of_ble_eq_true rfl) ⟨Nat.zero_le _, Nat.zero_le _⟩ (fun r_88 s_88 => ?_)
              exact H91 v3 s_88
    unfold fX0_noteHeads_2
    refine j_iload_n C dX0_noteHeads_2 rfl ?_
    refine j_aload_n C dX0_noteHeads_3 rfl ?_
    refine j_getR C dX0_noteHeads_4 fl_RX0_12 h0 (by decide) rfl rfl (by decide) (fun h_4 => ?_)
    refine j_getR C dX0_noteHeads_7 fl_RX0_80 h_4 (by decide) rfl rfl (by decide) (fun h_7 => ?_)
    refine j_getI C dX0_noteHeads_10 fl_RX0_84 h_7 (by decide) rfl ?_
    refine j_icmp_ge C (tgt := 103) dX0_noteHeads_13 (by decide) ?_ ?_
    · exact j_vret C dX0_noteHeads_103
    · refine j_iload_n C dX0_noteHeads_16 rfl ?_
      refine j_iconst C (v := (1 : Int32)) dX0_noteHeads_17 (by decide) ?_
      refine j_iadd C dX0_noteHeads_18 ?_
      refine j_istore_n C (Ls' := fun v3_19 => [(3, .int v3_19), (0, .ref (adr M v0)), (1, .int v1), (2, .int v2)]) dX0_noteHeads_19 (by decide) (fun _ => rfl) (fun v3_19 => ?_)
      refine j_sub (Ls' := [(0, .ref (adr M v0)), (1, .int v1), (2, .int v2), (3, .int v3_19)]) [1, 2, 3, 0] rfl ?_
      exact H20 v2 FU v3_19 σ
  unfold fX0_noteHeads
  refine j_iconst C (v := (0 : Int32)) dX0_noteHeads_0 (by decide) ?_
  refine j_istore_n C (Ls' := fun v2_1 => [(2, .int v2_1), (0, .ref (adr M v0)), (1, .int v1)]) dX0_noteHeads_1 (by decide) (fun _ => rfl) (fun v2_1 => ?_)
  refine j_sub (Ls' := [(0, .ref (adr M v0)), (1, .int v1), (2, .int v2_1)]) [1, 2, 0] rfl ?_
  exact H2 FU v2_1 σ
set_option maxRecDepth 20000 in
set_option maxHeartbeats 4000000 in
theorem CX1_notePlace (l : Launch) (M : Mc) (hD : Dj M) (v0 : Nat) (h0 : isK v0 1) (v1 : Int32) (v2 : Int32) (v3 : Int32) (σ : Sg) : Ct l M yX1_notePlace cX1_notePlace 4 none { frames := 0, cells := 0, slots := 0, locals := 0 } vV [.ref (adr M v0), .int v1, .int v2, .int v3] σ (fX1_notePlace v0 v1 v2 v3 σ) := by
  refine ct_of (l := l) hD (by decide) (Nat.le_of_ble_eq_true rfl) ?_
  intro p e s m args below meth c C
  unfold fX1_notePlace
  refine j_aload_n C dX1_notePlace_0 rfl ?_
  refine j_getR C dX1_notePlace_1 fl_RX1_15 h0 (by decide) rfl rfl (by decide) (fun h_1 => ?_)
  refine j_iload_n C dX1_notePlace_4 rfl ?_
  refine j_sipush C (v := (501 : Int32)) dX1_notePlace_5 (by decide) ?_
  refine j_imul C dX1_notePlace_8 ?_
  refine j_iload_n C dX1_notePlace_9 rfl ?_
  refine j_iadd C dX1_notePlace_10 ?_
  refine j_iload_n C dX1_notePlace_11 rfl ?_
  refine j_i2s C dX1_notePlace_12 ?_
  refine j_sast C dX1_notePlace_13 h_1 (fun s_13 => ?_)
  refine j_aload_n C dX1_notePlace_14 rfl ?_
  refine j_iload_n C dX1_notePlace_15 rfl ?_
  refine j_iconst C (v := (1 : Int32)) dX1_notePlace_16 (by decide) ?_
  refine j_iadd C dX1_notePlace_17 ?_
  refine j_put C dX1_notePlace_18 fl_RX1_9 fs_1_0 h0 (by decide) rfl rfl rfl (fun s_18 => ?_)
  exact j_vret C dX1_notePlace_21
set_option maxRecDepth 20000 in
set_option maxHeartbeats 4000000 in
theorem CX0_play (l : Launch) (M : Mc) (hD : Dj M) (v0 : Nat) (h0 : isK v0 0) (v1 : Int32) (v2 : Int32) (v3 : Int32) (σ : Sg) : Ct l M yX0_play cX0_play 7 none { frames := 4, cells := 0, slots := 0, locals := 118 } vV [.ref (adr M v0), .int v1, .int v2, .int v3] σ (fX0_play v0 v1 v2 v3 σ) := by
  refine ct_of (l := l) hD (by decide) (Nat.le_of_ble_eq_true rfl) ?_
  intro p e s m args below meth c C
  have H31 : ∀ (v4 : Int32) (n : Nat) (v5 : Int32) (τ : Sg), J p l e { frames := 4, cells := 0, slots := 0, locals := 118 } s m args below meth c M 7 vV τ 31 [(0, .ref (adr M v0)), (4, .int v4), (5, .int v5)] [] (lq1 (fX0_play_31 v0 v4) n v5 τ) := by
    intro v4
    refine j_lq1 (Ls := fun v5 => [(0, .ref (adr M v0)), (4, .int v4), (5, .int v5)]) (st := fun _ => []) ?_
    intro k31 hk31 v5 σ
    have H78 : ∀ (v5 : Int32) (n : Nat) (v6 : Int32) (τ : Sg), J p l e { frames := 4, cells := 0, slots := 0, locals := 118 } s m args below meth c M 7 vV τ 78 [(0, .ref (adr M v0)), (4, .int v4), (5, .int v5), (6, .int v6)] [] (lq1 (fX0_play_78 v0 v4 v5 k31) n v6 τ) := by
      intro v5
      refine j_lq1 (Ls := fun v6 => [(0, .ref (adr M v0)), (4, .int v4), (5, .int v5), (6, .int v6)]) (st := fun _ => []) ?_
      intro k78 hk78 v6 σ
      unfold fX0_play_78
      refine j_iload C dX0_play_78 rfl ?_
      refine j_aload_n C dX0_play_80 rfl ?_
      refine j_getR C dX0_play_81 fl_RX0_12 h0 (by decide) rfl rfl (by decide) (fun h_81 => ?_)
      refine j_getR C dX0_play_84 fl_RX0_80 h_81 (by decide) rfl rfl (by decide) (fun h_84 => ?_)
      refine j_getI C dX0_play_87 fl_RX0_84 h_84 (by decide) rfl ?_
      refine j_icmp_ge C (tgt := 117) dX0_play_90 (by decide) ?_ ?_
      · refine j_iinc C (v := (1 : Int32)) (Ls' := fun v5_117 => [(5, .int v5_117), (0, .ref (adr M v0)), (4, .int v4), (6, .int v6)]) dX0_play_117 2 rfl (by decide) (by decide) (fun _ => rfl) (fun v5_117 => ?_)
        refine j_goto C (tgt := 31) dX0_play_120 (by decide) ?_
        refine j_sub (Ls' := [(0, .ref (adr M v0)), (4, .int v4), (5, .int v5_117)]) [1, 2, 0] rfl ?_
        exact hk31 v5_117 σ
      · refine j_aload_n C dX0_play_93 rfl ?_
        refine j_getR C dX0_play_94 fl_RX0_21 h0 (by decide) rfl rfl (by decide) (fun h_94 => ?_)
        refine j_iload C dX0_play_97 rfl ?_
        refine j_iload C dX0_play_99 rfl ?_
        refine j_aload_n C dX0_play_101 rfl ?_
        refine j_getR C dX0_play_102 fl_RX0_42 h0 (by decide) rfl rfl (by decide) (fun h_102 => ?_)
        refine j_iload C dX0_play_105 rfl ?_
        refine j_iald C dX0_play_107 h_102 ?_
        refine j_callVv C (As := [.int v6, .int v5, .int ((σ (rf v0 6) (v6).toNatClampNeg))]) dX0_play_108 (CX1_notePlace l M hD (rf v0 1) h_94 v6 v5 (σ (rf v0 6) (v6).toNatClampNeg) σ) vv_RX0_102 h_94 (by decide) rfl rfl ⟨rfl, rfl⟩ (by decide) (Nat.le_of_ble_eq_true rfl) ⟨Nat.zero_le _, Nat.zero_le _⟩ (fun r_108 s_108 => ?_)
        refine j_iinc C (v := (1 : Int32)) (Ls' := fun v6_111 => [(6, .int v6_111), (0, .ref (adr M v0)), (4, .int v4), (5, .int v5)]) dX0_play_111 3 rfl (by decide) (by decide) (fun _ => rfl) (fun v6_111 => ?_)
        refine j_goto C (tgt := 78) dX0_play_114 (by decide) ?_
        refine j_sub (Ls' := [(0, .ref (adr M v0)), (4, .int v4), (5, .int v5), (6, .int v6_111)]) [1, 2, 3, 0] rfl ?_
        exact hk78 v6_111 s_108
    have H75 : ∀ (v5 : Int32) (τ : Sg), J p l e { frames := 4, cells := 0, slots := 0, locals := 118 } s m args below meth c M 7 vV τ 75 [(0, .ref (adr M v0)), (4, .int v4), (5, .int v5)] [] (fX0_play_75 v0 v4 v5 k31 τ) := by
      intro v5 σ
      unfold fX0_play_75
      refine j_iconst C (v := (0 : Int32)) dX0_play_75 (by decide) ?_
      refine j_istore C (Ls' := fun v6_76 => [(6, .int v6_76), (0, .ref (adr M v0)), (4, .int v4), (5, .int v5)]) dX0_play_76 (by decide) (fun _ => rfl) (fun v6_76 => ?_)
      refine j_sub (Ls' := [(0, .ref (adr M v0)), (4, .int v4), (5, .int v5), (6, .int v6_76)]) [1, 2, 3, 0] rfl ?_
      exact H78 v5 FU v6_76 σ
    unfold fX0_play_31
    refine j_iload C dX0_play_31 rfl ?_
    refine j_sipush C (v := (500 : Int32)) dX0_play_33 (by decide) ?_
    refine j_icmp_gt C (tgt := 123) dX0_play_36 (by decide) ?_ ?_
    · exact j_vret C dX0_play_123
    · refine j_aload_n C dX0_play_39 rfl ?_
      refine j_getI C dX0_play_40 fl_RX0_67 h0 (by decide) rfl ?_
      refine j_iload C dX0_play_43 rfl ?_
      refine j_icmp_eq C (tgt := 123) dX0_play_45 (by decide) ?_ ?_
      · exact j_vret C dX0_play_123
      · refine j_aload_n C dX0_play_48 rfl ?_
        refine j_iload C dX0_play_49 rfl ?_
        refine j_callVv C (As := [.int v5]) dX0_play_51 (CX0_letComeIn l M hD v0 h0 v5 σ) vv_RX0_89 h0 (by decide) rfl rfl ⟨rfl, rfl⟩ (by decide) (Nat.le_of_ble_eq_true rfl) ⟨Nat.zero_le _, Nat.zero_le _⟩ (fun r_51 s_51 => ?_)
        refine j_aload_n C dX0_play_54 rfl ?_
        refine j_iload C dX0_play_55 rfl ?_
        refine j_callVv C (As := [.int v5]) dX0_play_57 (CX0_letAppear l M hD v0 h0 v5 s_51) vv_RX0_92 h0 (by decide) rfl rfl ⟨rfl, rfl⟩ (by decide) (Nat.le_of_ble_eq_true rfl) ⟨Nat.zero_le _, Nat.zero_le _⟩ (fun r_57 s_57 => ?_)
        refine j_aload_n C dX0_play_60 rfl ?_
        refine j_iload C dX0_play_61 rfl ?_
        refine j_callVI C (As := [.int v5]) dX0_play_63 (CX0_letLeave l M hD v0 h0 v5 s_57) vv_RX0_95 h0 (by decide) rfl rfl ⟨rfl, rfl⟩ (by decide) (Nat.le_of_ble_eq_true rfl) ⟨Nat.zero_le _, Nat.zero_le _⟩ (fun r_63 s_63 => ?_)
        refine j_if_eq C (tgt := 75) dX0_play_66 (by decide) ?_ ?_
        · exact H75 v5 s_63
        · refine j_aload_n C dX0_play_69 rfl ?_
          refine j_iload C dX0_play_70 rfl ?_
          refine j_callVv C (As := [.int v5]) dX0_play_72 (CX0_noteHeads l M hD v0 h0 v5 s_63) vv_RX0_99 h0 (by decide) rfl rfl ⟨rfl, rfl⟩ (by decide) (Nat.le_of_ble_eq_true rfl) ⟨Nat.zero_le _, Nat.zero_le _⟩ (fun r_72 s_72 => ?_)
          exact H75 v5 s_72
  unfold fX0_play
  refine j_aload_n C dX0_play_0 rfl ?_
  refine j_iconst C (v := (0 : Int32)) dX0_play_1 (by decide) ?_
  refine j_put C dX0_play_2 fl_RX0_25 fs_0_2 h0 (by decide) rfl rfl rfl (fun s_2 => ?_)
  refine j_aload_n C dX0_play_5 rfl ?_
  refine j_iload_n C dX0_play_6 rfl ?_
  refine j_iload_n C dX0_play_7 rfl ?_
  refine j_iload_n C dX0_play_8 rfl ?_
  refine j_callVv C (As := [.int v1, .int v2, .int v3]) dX0_play_9 (CX0_begin l M hD v0 h0 v1 v2 v3 s_2) vv_RX0_77 h0 (by decide) rfl rfl ⟨rfl, rfl⟩ (by decide) (Nat.le_of_ble_eq_true rfl) ⟨Nat.zero_le _, Nat.zero_le _⟩ (fun r_9 s_9 => ?_)
  refine j_iconst C (v := (1 : Int32)) dX0_play_12 (by decide) ?_
  refine j_aload_n C dX0_play_13 rfl ?_
  refine j_getR C dX0_play_14 fl_RX0_12 h0 (by decide) rfl rfl (by decide) (fun h_14 => ?_)
  refine j_getR C dX0_play_17 fl_RX0_80 h_14 (by decide) rfl rfl (by decide) (fun h_17 => ?_)
  refine j_getI C dX0_play_20 fl_RX0_84 h_17 (by decide) rfl ?_
  refine j_ishl C dX0_play_23 ?_
  refine j_iconst C (v := (1 : Int32)) dX0_play_24 (by decide) ?_
  refine j_isub C dX0_play_25 ?_
  refine j_istore C (Ls' := fun v4_26 => [(4, .int v4_26), (0, .ref (adr M v0)), (1, .int v1), (2, .int v2), (3, .int v3)]) dX0_play_26 (by decide) (fun _ => rfl) (fun v4_26 => ?_)
  refine j_iconst C (v := (0 : Int32)) dX0_play_28 (by decide) ?_
  refine j_istore C (Ls' := fun v5_29 => [(5, .int v5_29), (4, .int v4_26), (0, .ref (adr M v0)), (1, .int v1), (2, .int v2), (3, .int v3)]) dX0_play_29 (by decide) (fun _ => rfl) (fun v5_29 => ?_)
  refine j_sub (Ls' := [(0, .ref (adr M v0)), (4, .int v4_26), (5, .int v5_29)]) [2, 1, 0] rfl ?_
  exact H31 v4_26 FU v5_29 s_9
set_option maxRecDepth 20000 in
set_option maxHeartbeats 4000000 in
theorem CX0_played (l : Launch) (M : Mc) (hD : Dj M) (v0 : Nat) (h0 : isK v0 0) (σ : Sg) : Ct l M yX0_played cX0_played 1 (some (.object "SidingLine$DayBook")) { frames := 5, cells := 0, slots := 0, locals := 144 } (vR M) [.ref (adr M v0)] σ (fX0_played v0 σ) := by
  refine ct_of (l := l) hD (by decide) (Nat.le_of_ble_eq_true rfl) ?_
  intro p e s m args below meth c C
  unfold fX0_played
  refine j_aload_n C dX0_played_0 rfl ?_
  refine j_getI C dX0_played_1 fl_RX0_25 h0 (by decide) rfl ?_
  refine j_if_ne C (tgt := 19) dX0_played_4 (by decide) ?_ ?_
  · refine j_aload_n C dX0_played_19 rfl ?_
    refine j_getR C dX0_played_20 fl_RX0_21 h0 (by decide) rfl rfl (by decide) (fun h_20 => ?_)
    exact j_aret C dX0_played_23
  · refine j_aload_n C dX0_played_7 rfl ?_
    refine j_iconst C (v := (-1 : Int32)) dX0_played_8 (by decide) ?_
    refine j_iconst C (v := (-1 : Int32)) dX0_played_9 (by decide) ?_
    refine j_iconst C (v := (-1 : Int32)) dX0_played_10 (by decide) ?_
    refine j_callVv C (As := [.int ((-1 : Int32)), .int ((-1 : Int32)), .int ((-1 : Int32))]) dX0_played_11 (CX0_play l M hD v0 h0 (-1 : Int32) (-1 : Int32) (-1 : Int32) σ) vv_RX0_73 h0 (by decide) rfl rfl ⟨rfl, rfl⟩ (by decide) (Nat.le_of_ble_eq_true rfl) ⟨Nat.zero_le _, Nat.zero_le _⟩ (fun r_11 s_11 => ?_)
    refine j_aload_n C dX0_played_14 rfl ?_
    refine j_iconst C (v := (1 : Int32)) dX0_played_15 (by decide) ?_
    refine j_put C dX0_played_16 fl_RX0_25 fs_0_2 h0 (by decide) rfl rfl rfl (fun s_16 => ?_)
    refine j_aload_n C dX0_played_19 rfl ?_
    refine j_getR C dX0_played_20 fl_RX0_21 h0 (by decide) rfl rfl (by decide) (fun h_20 => ?_)
    exact j_aret C dX0_played_23
theorem CX0_played_k {v0 r : Nat} {σ τ : Sg} (h0 : isK v0 0) (h : fX0_played v0 σ = some (r, τ)) : isK r 1 := by
  have key : r = rf v0 1 := by
    unfold fX0_played at h
    split at h
    · obtain ⟨r1, s1, -, h⟩ := bd_some h
      cases h
      rfl
    · cases h
      rfl
  rw [key]
  exact rf_ok h0 (by decide) rfl
set_option maxRecDepth 20000 in
set_option maxHeartbeats 4000000 in
theorem CX1_placeBehind (l : Launch) (M : Mc) (hD : Dj M) (v0 : Nat) (h0 : isK v0 1) (v1 : Int32) (v2 : Int32) (σ : Sg) : Ct l M yX1_placeBehind cX1_placeBehind 3 (some .int) { frames := 0, cells := 0, slots := 0, locals := 0 } vI [.ref (adr M v0), .int v1, .int v2] σ (fX1_placeBehind v0 v1 v2 σ) := by
  refine ct_of (l := l) hD (by decide) (Nat.le_of_ble_eq_true rfl) ?_
  intro p e s m args below meth c C
  unfold fX1_placeBehind
  refine j_iload_n C dX1_placeBehind_0 rfl ?_
  refine j_aload_n C dX1_placeBehind_1 rfl ?_
  refine j_getI C dX1_placeBehind_2 fl_RX1_9 h0 (by decide) rfl ?_
  refine j_icmp_ge C (tgt := 23) dX1_placeBehind_5 (by decide) ?_ ?_
  · refine j_sipush C (v := (300 : Int32)) dX1_placeBehind_23 (by decide) ?_
    exact j_iret C dX1_placeBehind_26
  · refine j_aload_n C dX1_placeBehind_8 rfl ?_
    refine j_getR C dX1_placeBehind_9 fl_RX1_15 h0 (by decide) rfl rfl (by decide) (fun h_9 => ?_)
    refine j_iload_n C dX1_placeBehind_12 rfl ?_
    refine j_sipush C (v := (501 : Int32)) dX1_placeBehind_13 (by decide) ?_
    refine j_imul C dX1_placeBehind_16 ?_
    refine j_iload_n C dX1_placeBehind_17 rfl ?_
    refine j_iadd C dX1_placeBehind_18 ?_
    refine j_sald C dX1_placeBehind_19 h_9 ?_
    refine j_goto C (tgt := 26) dX1_placeBehind_20 (by decide) ?_
    exact j_iret C dX1_placeBehind_26
set_option maxRecDepth 20000 in
set_option maxHeartbeats 4000000 in
theorem CX10_where (l : Launch) (M : Mc) (hD : Dj M) (v0 : Nat) (h0 : isK v0 10) (v1 : Int32) (v2 : Int32) (σ : Sg) : Ct l M yX10_where cX10_where 3 (some .int) { frames := 6, cells := 0, slots := 0, locals := 164 } vI [.ref (adr M v0), .int v1, .int v2] σ (fX10_where v0 v1 v2 σ) := by
  refine ct_of (l := l) hD (by decide) (Nat.le_of_ble_eq_true rfl) ?_
  intro p e s m args below meth c C
  unfold fX10_where
  refine j_aload_n C dX10_where_0 rfl ?_
  refine j_getR C dX10_where_1 fl_RX10_27 h0 (by decide) rfl rfl (by decide) (fun h_1 => ?_)
  refine j_getR C dX10_where_4 fl_RX10_91 h_1 (by decide) rfl rfl (by decide) (fun h_4 => ?_)
  refine j_iload_n C dX10_where_7 rfl ?_
  refine j_callVI C (As := [.int v1]) dX10_where_8 (CX9_has l M hD (rf (rf v0 2) 1) h_4 v1 σ) vv_RX10_103 h_4 (by decide) rfl rfl ⟨rfl, rfl⟩ (by decide) (Nat.le_of_ble_eq_true rfl) ⟨Nat.zero_le _, Nat.zero_le _⟩ (fun r_8 s_8 => ?_)
  refine j_if_eq C (tgt := 25) dX10_where_11 (by decide) ?_ ?_
  · refine j_aload_n C dX10_where_25 rfl ?_
    refine j_ldc C dX10_where_26 lc_RX10_50 ?_
    refine j_callVI C (As := [.int ((-100001 : Int32))]) dX10_where_28 (CX10_finding l M hD v0 h0 (-100001 : Int32) s_8) vv_RX10_51 h0 (by decide) rfl rfl ⟨rfl, rfl⟩ (by decide) (Nat.le_of_ble_eq_true rfl) ⟨Nat.zero_le _, Nat.zero_le _⟩ (fun r_28 s_28 => ?_)
    exact j_iret C dX10_where_31
  · refine j_iload_n C dX10_where_14 rfl ?_
    refine j_iconst C (v := (0 : Int32)) dX10_where_15 (by decide) ?_
    refine j_sipush C (v := (500 : Int32)) dX10_where_16 (by decide) ?_
    refine j_callSI C (As := [.int v2, .int ((0 : Int32)), .int ((500 : Int32))]) dX10_where_19 (CX10_isWithin l M hD v2 (0 : Int32) (500 : Int32) s_8) vs_RX10_46 rfl rfl ⟨rfl, rfl⟩ (by decide) (Nat.le_of_ble_eq_true rfl) ⟨Nat.zero_le _, Nat.zero_le _⟩ (fun r_19 s_19 => ?_)
    refine j_if_ne C (tgt := 32) dX10_where_22 (by decide) ?_ ?_
    · refine j_aload_n C dX10_where_32 rfl ?_
      refine j_getR C dX10_where_33 fl_RX10_20 h0 (by decide) rfl rfl (by decide) (fun h_33 => ?_)
      refine j_callVR C (As := []) dX10_where_36 (fun _ _ hG => CX0_played_k h_33 hG) (CX0_played l M hD (rf v0 1) h_33 s_19) vv_RX10_161 h_33 (by decide) rfl rfl ⟨rfl, rfl⟩ (by decide) (Nat.le_of_ble_eq_true rfl) ⟨Nat.zero_le _, Nat.zero_le _⟩ (fun r_36 s_36 h_36 => ?_)
      refine j_iload_n C dX10_where_39 rfl ?_
      refine j_iload_n C dX10_where_40 rfl ?_
      refine j_callVI C (As := [.int v1, .int v2]) dX10_where_41 (CX1_placeBehind l M hD r_36 h_36 v1 v2 s_36) vv_RX10_165 h_36 (by decide) rfl rfl ⟨rfl, rfl⟩ (by decide) (Nat.le_of_ble_eq_true rfl) ⟨Nat.zero_le _, Nat.zero_le _⟩ (fun r_41 s_41 => ?_)
      exact j_iret C dX10_where_44
    · refine j_aload_n C dX10_where_25 rfl ?_
      refine j_ldc C dX10_where_26 lc_RX10_50 ?_
      refine j_callVI C (As := [.int ((-100001 : Int32))]) dX10_where_28 (CX10_finding l M hD v0 h0 (-100001 : Int32) s_19) vv_RX10_51 h0 (by decide) rfl rfl ⟨rfl, rfl⟩ (by decide) (Nat.le_of_ble_eq_true rfl) ⟨Nat.zero_le _, Nat.zero_le _⟩ (fun r_28 s_28 => ?_)
      exact j_iret C dX10_where_31
set_option maxRecDepth 20000 in
set_option maxHeartbeats 4000000 in
theorem CX10_came (l : Launch) (M : Mc) (hD : Dj M) (v0 : Nat) (h0 : isK v0 10) (v1 : Int32) (v2 : Int32) (σ : Sg) : Ct l M yX10_came cX10_came 4 (some .int) { frames := 6, cells := 0, slots := 0, locals := 164 } vI [.ref (adr M v0), .int v1, .int v2] σ (fX10_came v0 v1 v2 σ) := by
  refine ct_of (l := l) hD (by decide) (Nat.le_of_ble_eq_true rfl) ?_
  intro p e s m args below meth c C
  unfold fX10_came
  refine j_aload_n C dX10_came_0 rfl ?_
  refine j_getR C dX10_came_1 fl_RX10_27 h0 (by decide) rfl rfl (by decide) (fun h_1 => ?_)
  refine j_getR C dX10_came_4 fl_RX10_91 h_1 (by decide) rfl rfl (by decide) (fun h_4 => ?_)
  refine j_iload_n C dX10_came_7 rfl ?_
  refine j_callVI C (As := [.int v1]) dX10_came_8 (CX9_has l M hD (rf (rf v0 2) 1) h_4 v1 σ) vv_RX10_103 h_4 (by decide) rfl rfl ⟨rfl, rfl⟩ (by decide) (Nat.le_of_ble_eq_true rfl) ⟨Nat.zero_le _, Nat.zero_le _⟩ (fun r_8 s_8 => ?_)
  refine j_if_eq C (tgt := 28) dX10_came_11 (by decide) ?_ ?_
  · refine j_aload_n C dX10_came_28 rfl ?_
    refine j_ldc C dX10_came_29 lc_RX10_50 ?_
    refine j_callVI C (As := [.int ((-100001 : Int32))]) dX10_came_31 (CX10_finding l M hD v0 h0 (-100001 : Int32) s_8) vv_RX10_51 h0 (by decide) rfl rfl ⟨rfl, rfl⟩ (by decide) (Nat.le_of_ble_eq_true rfl) ⟨Nat.zero_le _, Nat.zero_le _⟩ (fun r_31 s_31 => ?_)
    exact j_iret C dX10_came_34
  · refine j_aload_n C dX10_came_14 rfl ?_
    refine j_getR C dX10_came_15 fl_RX10_27 h0 (by decide) rfl rfl (by decide) (fun h_15 => ?_)
    refine j_getR C dX10_came_18 fl_RX10_65 h_15 (by decide) rfl rfl (by decide) (fun h_18 => ?_)
    refine j_iload_n C dX10_came_21 rfl ?_
    refine j_callVI C (As := [.int v2]) dX10_came_22 (CX8_hasStation l M hD (rf (rf v0 2) 0) h_18 v2 s_8) vv_RX10_74 h_18 (by decide) rfl rfl ⟨rfl, rfl⟩ (by decide) (Nat.le_of_ble_eq_true rfl) ⟨Nat.zero_le _, Nat.zero_le _⟩ (fun r_22 s_22 => ?_)
    refine j_if_ne C (tgt := 35) dX10_came_25 (by decide) ?_ ?_
    · refine j_aload_n C dX10_came_35 rfl ?_
      refine j_getR C dX10_came_36 fl_RX10_20 h0 (by decide) rfl rfl (by decide) (fun h_36 => ?_)
      refine j_callVR C (As := []) dX10_came_39 (fun _ _ hG => CX0_played_k h_36 hG) (CX0_played l M hD (rf v0 1) h_36 s_22) vv_RX10_161 h_36 (by decide) rfl rfl ⟨rfl, rfl⟩ (by decide) (Nat.le_of_ble_eq_true rfl) ⟨Nat.zero_le _, Nat.zero_le _⟩ (fun r_39 s_39 h_39 => ?_)
      refine j_getR C dX10_came_42 fl_RX10_170 h_39 (by decide) rfl rfl (by decide) (fun h_42 => ?_)
      refine j_iload_n C dX10_came_45 rfl ?_
      refine j_bipush C (v := (7 : Int32)) dX10_came_46 (by decide) ?_
      refine j_imul C dX10_came_48 ?_
      refine j_iload_n C dX10_came_49 rfl ?_
      refine j_iadd C dX10_came_50 ?_
      refine j_iald C dX10_came_51 h_42 ?_
      refine j_istore_n C (Ls' := fun v3_52 => [(3, .int v3_52), (0, .ref (adr M v0)), (1, .int v1), (2, .int v2)]) dX10_came_52 (by decide) (fun _ => rfl) (fun v3_52 => ?_)
      refine j_iload_n C dX10_came_53 rfl ?_
      refine j_iconst C (v := (-1 : Int32)) dX10_came_54 (by decide) ?_
      refine j_icmp_ne C (tgt := 67) dX10_came_55 (by decide) ?_ ?_
      · refine j_iload_n C dX10_came_67 rfl ?_
        exact j_iret C dX10_came_68
      · refine j_aload_n C dX10_came_58 rfl ?_
        refine j_ldc C dX10_came_59 lc_RX10_121 ?_
        refine j_callVI C (As := [.int ((-100006 : Int32))]) dX10_came_61 (CX10_finding l M hD v0 h0 (-100006 : Int32) s_39) vv_RX10_51 h0 (by decide) rfl rfl ⟨rfl, rfl⟩ (by decide) (Nat.le_of_ble_eq_true rfl) ⟨Nat.zero_le _, Nat.zero_le _⟩ (fun r_61 s_61 => ?_)
        refine j_goto C (tgt := 68) dX10_came_64 (by decide) ?_
        exact j_iret C dX10_came_68
    · refine j_aload_n C dX10_came_28 rfl ?_
      refine j_ldc C dX10_came_29 lc_RX10_50 ?_
      refine j_callVI C (As := [.int ((-100001 : Int32))]) dX10_came_31 (CX10_finding l M hD v0 h0 (-100001 : Int32) s_22) vv_RX10_51 h0 (by decide) rfl rfl ⟨rfl, rfl⟩ (by decide) (Nat.le_of_ble_eq_true rfl) ⟨Nat.zero_le _, Nat.zero_le _⟩ (fun r_31 s_31 => ?_)
      exact j_iret C dX10_came_34
set_option maxRecDepth 20000 in
set_option maxHeartbeats 4000000 in
theorem CX10_left (l : Launch) (M : Mc) (hD : Dj M) (v0 : Nat) (h0 : isK v0 10) (v1 : Int32) (v2 : Int32) (σ : Sg) : Ct l M yX10_left cX10_left 4 (some .int) { frames := 6, cells := 0, slots := 0, locals := 164 } vI [.ref (adr M v0), .int v1, .int v2] σ (fX10_left v0 v1 v2 σ) := by
  refine ct_of (l := l) hD (by decide) (Nat.le_of_ble_eq_true rfl) ?_
  intro p e s m args below meth c C
  unfold fX10_left
  refine j_aload_n C dX10_left_0 rfl ?_
  refine j_getR C dX10_left_1 fl_RX10_27 h0 (by decide) rfl rfl (by decide) (fun h_1 => ?_)
  refine j_getR C dX10_left_4 fl_RX10_91 h_1 (by decide) rfl rfl (by decide) (fun h_4 => ?_)
  refine j_iload_n C dX10_left_7 rfl ?_
  refine j_callVI C (As := [.int v1]) dX10_left_8 (CX9_has l M hD (rf (rf v0 2) 1) h_4 v1 σ) vv_RX10_103 h_4 (by decide) rfl rfl ⟨rfl, rfl⟩ (by decide) (Nat.le_of_ble_eq_true rfl) ⟨Nat.zero_le _, Nat.zero_le _⟩ (fun r_8 s_8 => ?_)
  refine j_if_eq C (tgt := 28) dX10_left_11 (by decide) ?_ ?_
  · refine j_aload_n C dX10_left_28 rfl ?_
    refine j_ldc C dX10_left_29 lc_RX10_50 ?_
    refine j_callVI C (As := [.int ((-100001 : Int32))]) dX10_left_31 (CX10_finding l M hD v0 h0 (-100001 : Int32) s_8) vv_RX10_51 h0 (by decide) rfl rfl ⟨rfl, rfl⟩ (by decide) (Nat.le_of_ble_eq_true rfl) ⟨Nat.zero_le _, Nat.zero_le _⟩ (fun r_31 s_31 => ?_)
    exact j_iret C dX10_left_34
  · refine j_aload_n C dX10_left_14 rfl ?_
    refine j_getR C dX10_left_15 fl_RX10_27 h0 (by decide) rfl rfl (by decide) (fun h_15 => ?_)
    refine j_getR C dX10_left_18 fl_RX10_65 h_15 (by decide) rfl rfl (by decide) (fun h_18 => ?_)
    refine j_iload_n C dX10_left_21 rfl ?_
    refine j_callVI C (As := [.int v2]) dX10_left_22 (CX8_hasStation l M hD (rf (rf v0 2) 0) h_18 v2 s_8) vv_RX10_74 h_18 (by decide) rfl rfl ⟨rfl, rfl⟩ (by decide) (Nat.le_of_ble_eq_true rfl) ⟨Nat.zero_le _, Nat.zero_le _⟩ (fun r_22 s_22 => ?_)
    refine j_if_ne C (tgt := 35) dX10_left_25 (by decide) ?_ ?_
    · refine j_aload_n C dX10_left_35 rfl ?_
      refine j_getR C dX10_left_36 fl_RX10_20 h0 (by decide) rfl rfl (by decide) (fun h_36 => ?_)
      refine j_callVR C (As := []) dX10_left_39 (fun _ _ hG => CX0_played_k h_36 hG) (CX0_played l M hD (rf v0 1) h_36 s_22) vv_RX10_161 h_36 (by decide) rfl rfl ⟨rfl, rfl⟩ (by decide) (Nat.le_of_ble_eq_true rfl) ⟨Nat.zero_le _, Nat.zero_le _⟩ (fun r_39 s_39 h_39 => ?_)
      refine j_getR C dX10_left_42 fl_RX10_173 h_39 (by decide) rfl rfl (by decide) (fun h_42 => ?_)
      refine j_iload_n C dX10_left_45 rfl ?_
      refine j_bipush C (v := (7 : Int32)) dX10_left_46 (by decide) ?_
      refine j_imul C dX10_left_48 ?_
      refine j_iload_n C dX10_left_49 rfl ?_
      refine j_iadd C dX10_left_50 ?_
      refine j_iald C dX10_left_51 h_42 ?_
      refine j_istore_n C (Ls' := fun v3_52 => [(3, .int v3_52), (0, .ref (adr M v0)), (1, .int v1), (2, .int v2)]) dX10_left_52 (by decide) (fun _ => rfl) (fun v3_52 => ?_)
      refine j_iload_n C dX10_left_53 rfl ?_
      refine j_iconst C (v := (-1 : Int32)) dX10_left_54 (by decide) ?_
      refine j_icmp_ne C (tgt := 67) dX10_left_55 (by decide) ?_ ?_
      · refine j_iload_n C dX10_left_67 rfl ?_
        exact j_iret C dX10_left_68
      · refine j_aload_n C dX10_left_58 rfl ?_
        refine j_ldc C dX10_left_59 lc_RX10_121 ?_
        refine j_callVI C (As := [.int ((-100006 : Int32))]) dX10_left_61 (CX10_finding l M hD v0 h0 (-100006 : Int32) s_39) vv_RX10_51 h0 (by decide) rfl rfl ⟨rfl, rfl⟩ (by decide) (Nat.le_of_ble_eq_true rfl) ⟨Nat.zero_le _, Nat.zero_le _⟩ (fun r_61 s_61 => ?_)
        refine j_goto C (tgt := 68) dX10_left_64 (by decide) ?_
        exact j_iret C dX10_left_68
    · refine j_aload_n C dX10_left_28 rfl ?_
      refine j_ldc C dX10_left_29 lc_RX10_50 ?_
      refine j_callVI C (As := [.int ((-100001 : Int32))]) dX10_left_31 (CX10_finding l M hD v0 h0 (-100001 : Int32) s_22) vv_RX10_51 h0 (by decide) rfl rfl ⟨rfl, rfl⟩ (by decide) (Nat.le_of_ble_eq_true rfl) ⟨Nat.zero_le _, Nat.zero_le _⟩ (fun r_31 s_31 => ?_)
      exact j_iret C dX10_left_34
set_option maxRecDepth 20000 in
set_option maxHeartbeats 4000000 in
theorem CX1_reasonIn (l : Launch) (M : Mc) (hD : Dj M) (v0 : Nat) (h0 : isK v0 1) (v1 : Int32) (v2 : Int32) (σ : Sg) : Ct l M yX1_reasonIn cX1_reasonIn 3 (some .int) { frames := 0, cells := 0, slots := 0, locals := 0 } vI [.ref (adr M v0), .int v1, .int v2] σ (fX1_reasonIn v0 v1 v2 σ) := by
  refine ct_of (l := l) hD (by decide) (Nat.le_of_ble_eq_true rfl) ?_
  intro p e s m args below meth c C
  unfold fX1_reasonIn
  refine j_iload_n C dX1_reasonIn_0 rfl ?_
  refine j_aload_n C dX1_reasonIn_1 rfl ?_
  refine j_getI C dX1_reasonIn_2 fl_RX1_9 h0 (by decide) rfl ?_
  refine j_icmp_ge C (tgt := 23) dX1_reasonIn_5 (by decide) ?_ ?_
  · refine j_iconst C (v := (-1 : Int32)) dX1_reasonIn_23 (by decide) ?_
    exact j_iret C dX1_reasonIn_24
  · refine j_aload_n C dX1_reasonIn_8 rfl ?_
    refine j_getR C dX1_reasonIn_9 fl_RX1_19 h0 (by decide) rfl rfl (by decide) (fun h_9 => ?_)
    refine j_iload_n C dX1_reasonIn_12 rfl ?_
    refine j_sipush C (v := (501 : Int32)) dX1_reasonIn_13 (by decide) ?_
    refine j_imul C dX1_reasonIn_16 ?_
    refine j_iload_n C dX1_reasonIn_17 rfl ?_
    refine j_iadd C dX1_reasonIn_18 ?_
    refine j_bald C dX1_reasonIn_19 h_9 ?_
    refine j_goto C (tgt := 24) dX1_reasonIn_20 (by decide) ?_
    exact j_iret C dX1_reasonIn_24
set_option maxRecDepth 20000 in
set_option maxHeartbeats 4000000 in
theorem CX10_why (l : Launch) (M : Mc) (hD : Dj M) (v0 : Nat) (h0 : isK v0 10) (v1 : Int32) (v2 : Int32) (σ : Sg) : Ct l M yX10_why cX10_why 4 (some .int) { frames := 6, cells := 0, slots := 0, locals := 164 } vI [.ref (adr M v0), .int v1, .int v2] σ (fX10_why v0 v1 v2 σ) := by
  refine ct_of (l := l) hD (by decide) (Nat.le_of_ble_eq_true rfl) ?_
  intro p e s m args below meth c C
  unfold fX10_why
  refine j_aload_n C dX10_why_0 rfl ?_
  refine j_getR C dX10_why_1 fl_RX10_27 h0 (by decide) rfl rfl (by decide) (fun h_1 => ?_)
  refine j_getR C dX10_why_4 fl_RX10_91 h_1 (by decide) rfl rfl (by decide) (fun h_4 => ?_)
  refine j_iload_n C dX10_why_7 rfl ?_
  refine j_callVI C (As := [.int v1]) dX10_why_8 (CX9_has l M hD (rf (rf v0 2) 1) h_4 v1 σ) vv_RX10_103 h_4 (by decide) rfl rfl ⟨rfl, rfl⟩ (by decide) (Nat.le_of_ble_eq_true rfl) ⟨Nat.zero_le _, Nat.zero_le _⟩ (fun r_8 s_8 => ?_)
  refine j_if_eq C (tgt := 25) dX10_why_11 (by decide) ?_ ?_
  · refine j_aload_n C dX10_why_25 rfl ?_
    refine j_ldc C dX10_why_26 lc_RX10_50 ?_
    refine j_callVI C (As := [.int ((-100001 : Int32))]) dX10_why_28 (CX10_finding l M hD v0 h0 (-100001 : Int32) s_8) vv_RX10_51 h0 (by decide) rfl rfl ⟨rfl, rfl⟩ (by decide) (Nat.le_of_ble_eq_true rfl) ⟨Nat.zero_le _, Nat.zero_le _⟩ (fun r_28 s_28 => ?_)
    exact j_iret C dX10_why_31
  · refine j_iload_n C dX10_why_14 rfl ?_
    refine j_iconst C (v := (0 : Int32)) dX10_why_15 (by decide) ?_
    refine j_sipush C (v := (500 : Int32)) dX10_why_16 (by decide) ?_
    refine j_callSI C (As := [.int v2, .int ((0 : Int32)), .int ((500 : Int32))]) dX10_why_19 (CX10_isWithin l M hD v2 (0 : Int32) (500 : Int32) s_8) vs_RX10_46 rfl rfl ⟨rfl, rfl⟩ (by decide) (Nat.le_of_ble_eq_true rfl) ⟨Nat.zero_le _, Nat.zero_le _⟩ (fun r_19 s_19 => ?_)
    refine j_if_ne C (tgt := 32) dX10_why_22 (by decide) ?_ ?_
    · refine j_aload_n C dX10_why_32 rfl ?_
      refine j_getR C dX10_why_33 fl_RX10_20 h0 (by decide) rfl rfl (by decide) (fun h_33 => ?_)
      refine j_callVR C (As := []) dX10_why_36 (fun _ _ hG => CX0_played_k h_33 hG) (CX0_played l M hD (rf v0 1) h_33 s_19) vv_RX10_161 h_33 (by decide) rfl rfl ⟨rfl, rfl⟩ (by decide) (Nat.le_of_ble_eq_true rfl) ⟨Nat.zero_le _, Nat.zero_le _⟩ (fun r_36 s_36 h_36 => ?_)
      refine j_iload_n C dX10_why_39 rfl ?_
      refine j_iload_n C dX10_why_40 rfl ?_
      refine j_callVI C (As := [.int v1, .int v2]) dX10_why_41 (CX1_reasonIn l M hD r_36 h_36 v1 v2 s_36) vv_RX10_176 h_36 (by decide) rfl rfl ⟨rfl, rfl⟩ (by decide) (Nat.le_of_ble_eq_true rfl) ⟨Nat.zero_le _, Nat.zero_le _⟩ (fun r_41 s_41 => ?_)
      refine j_istore_n C (Ls' := fun v3_44 => [(3, .int v3_44), (0, .ref (adr M v0)), (1, .int v1), (2, .int v2)]) dX10_why_44 (by decide) (fun _ => rfl) (fun v3_44 => ?_)
      refine j_iload_n C dX10_why_45 rfl ?_
      refine j_iconst C (v := (-1 : Int32)) dX10_why_46 (by decide) ?_
      refine j_icmp_ne C (tgt := 59) dX10_why_47 (by decide) ?_ ?_
      · refine j_iload_n C dX10_why_59 rfl ?_
        exact j_iret C dX10_why_60
      · refine j_aload_n C dX10_why_50 rfl ?_
        refine j_ldc C dX10_why_51 lc_RX10_121 ?_
        refine j_callVI C (As := [.int ((-100006 : Int32))]) dX10_why_53 (CX10_finding l M hD v0 h0 (-100006 : Int32) s_41) vv_RX10_51 h0 (by decide) rfl rfl ⟨rfl, rfl⟩ (by decide) (Nat.le_of_ble_eq_true rfl) ⟨Nat.zero_le _, Nat.zero_le _⟩ (fun r_53 s_53 => ?_)
        refine j_goto C (tgt := 60) dX10_why_56 (by decide) ?_
        exact j_iret C dX10_why_60
    · refine j_aload_n C dX10_why_25 rfl ?_
      refine j_ldc C dX10_why_26 lc_RX10_50 ?_
      refine j_callVI C (As := [.int ((-100001 : Int32))]) dX10_why_28 (CX10_finding l M hD v0 h0 (-100001 : Int32) s_19) vv_RX10_51 h0 (by decide) rfl rfl ⟨rfl, rfl⟩ (by decide) (Nat.le_of_ble_eq_true rfl) ⟨Nat.zero_le _, Nat.zero_le _⟩ (fun r_28 s_28 => ?_)
      exact j_iret C dX10_why_31
set_option maxRecDepth 20000 in
set_option maxHeartbeats 4000000 in
theorem CX10_heads (l : Launch) (M : Mc) (hD : Dj M) (v0 : Nat) (h0 : isK v0 10) (σ : Sg) : Ct l M yX10_heads cX10_heads 1 (some .int) { frames := 6, cells := 0, slots := 0, locals := 164 } vI [.ref (adr M v0)] σ (fX10_heads v0 σ) := by
  refine ct_of (l := l) hD (by decide) (Nat.le_of_ble_eq_true rfl) ?_
  intro p e s m args below meth c C
  unfold fX10_heads
  refine j_aload_n C dX10_heads_0 rfl ?_
  refine j_getR C dX10_heads_1 fl_RX10_20 h0 (by decide) rfl rfl (by decide) (fun h_1 => ?_)
  refine j_callVR C (As := []) dX10_heads_4 (fun _ _ hG => CX0_played_k h_1 hG) (CX0_played l M hD (rf v0 1) h_1 σ) vv_RX10_161 h_1 (by decide) rfl rfl ⟨rfl, rfl⟩ (by decide) (Nat.le_of_ble_eq_true rfl) ⟨Nat.zero_le _, Nat.zero_le _⟩ (fun r_4 s_4 h_4 => ?_)
  refine j_getI C dX10_heads_7 fl_RX10_179 h_4 (by decide) rfl ?_
  exact j_iret C dX10_heads_10
set_option maxRecDepth 20000 in
set_option maxHeartbeats 4000000 in
theorem CX1_tellHead (l : Launch) (M : Mc) (hD : Dj M) (v0 : Nat) (h0 : isK v0 1) (v1 : Int32) (σ : Sg) : Ct l M yX1_tellHead cX1_tellHead 2 (some .int) { frames := 0, cells := 0, slots := 0, locals := 0 } vI [.ref (adr M v0), .int v1] σ (fX1_tellHead v0 v1 σ) := by
  refine ct_of (l := l) hD (by decide) (Nat.le_of_ble_eq_true rfl) ?_
  intro p e s m args below meth c C
  unfold fX1_tellHead
  refine j_iload_n C dX1_tellHead_0 rfl ?_
  refine j_cases (fun hq1_0 => ?_) (fun hq1_0 => ?_)
  · refine j_tabIn C dX1_tellHead_1 (tgt := 28) hq1_0 (by decide) (by decide) rfl (by decide) ?_
    refine j_aload_n C dX1_tellHead_28 rfl ?_
    refine j_getI C dX1_tellHead_29 fl_RX1_36 h0 (by decide) rfl ?_
    exact j_iret C dX1_tellHead_32
  · refine j_cases (fun hq1_1 => ?_) (fun hq1_1 => ?_)
    · refine j_tabIn C dX1_tellHead_1 (tgt := 33) hq1_1 (by decide) (by decide) rfl (by decide) ?_
      refine j_aload_n C dX1_tellHead_33 rfl ?_
      refine j_getI C dX1_tellHead_34 fl_RX1_39 h0 (by decide) rfl ?_
      exact j_iret C dX1_tellHead_37
    · refine j_cases (fun hq1_2 => ?_) (fun hq1_2 => ?_)
      · refine j_tabIn C dX1_tellHead_1 (tgt := 38) hq1_2 (by decide) (by decide) rfl (by decide) ?_
        refine j_aload_n C dX1_tellHead_38 rfl ?_
        refine j_getI C dX1_tellHead_39 fl_RX1_42 h0 (by decide) rfl ?_
        exact j_iret C dX1_tellHead_42
      · refine j_tabOut C dX1_tellHead_1 (tgt := 43) (by have hq1_0 := i_ne hq1_0; have hq1_1 := i_ne hq1_1; have hq1_2 := i_ne hq1_2; simp only [show ((0 : Int32)).toInt = 0 from rfl, show ((1 : Int32)).toInt = 1 from rfl, show ((2 : Int32)).toInt = 2 from rfl] at *; omega) (by decide) ?_
        refine j_aload_n C dX1_tellHead_43 rfl ?_
        refine j_getI C dX1_tellHead_44 fl_RX1_45 h0 (by decide) rfl ?_
        exact j_iret C dX1_tellHead_47
set_option maxRecDepth 20000 in
set_option maxHeartbeats 4000000 in
theorem CX10_head (l : Launch) (M : Mc) (hD : Dj M) (v0 : Nat) (h0 : isK v0 10) (v1 : Int32) (σ : Sg) : Ct l M yX10_head cX10_head 3 (some .int) { frames := 6, cells := 0, slots := 0, locals := 164 } vI [.ref (adr M v0), .int v1] σ (fX10_head v0 v1 σ) := by
  refine ct_of (l := l) hD (by decide) (Nat.le_of_ble_eq_true rfl) ?_
  intro p e s m args below meth c C
  unfold fX10_head
  refine j_aload_n C dX10_head_0 rfl ?_
  refine j_getR C dX10_head_1 fl_RX10_20 h0 (by decide) rfl rfl (by decide) (fun h_1 => ?_)
  refine j_callVR C (As := []) dX10_head_4 (fun _ _ hG => CX0_played_k h_1 hG) (CX0_played l M hD (rf v0 1) h_1 σ) vv_RX10_161 h_1 (by decide) rfl rfl ⟨rfl, rfl⟩ (by decide) (Nat.le_of_ble_eq_true rfl) ⟨Nat.zero_le _, Nat.zero_le _⟩ (fun r_4 s_4 h_4 => ?_)
  refine j_astore_n C (Ls' := [(2, .ref (adr M r_4)), (0, .ref (adr M v0)), (1, .int v1)]) dX10_head_7 (by decide) rfl ?_
  refine j_aload_n C dX10_head_8 rfl ?_
  refine j_getI C dX10_head_9 fl_RX10_179 h_4 (by decide) rfl ?_
  refine j_if_ne C (tgt := 22) dX10_head_12 (by decide) ?_ ?_
  · refine j_iload_n C dX10_head_22 rfl ?_
    refine j_iconst C (v := (0 : Int32)) dX10_head_23 (by decide) ?_
    refine j_iconst C (v := (3 : Int32)) dX10_head_24 (by decide) ?_
    refine j_callSI C (As := [.int v1, .int ((0 : Int32)), .int ((3 : Int32))]) dX10_head_25 (CX10_isWithin l M hD v1 (0 : Int32) (3 : Int32) s_4) vs_RX10_46 rfl rfl ⟨rfl, rfl⟩ (by decide) (Nat.le_of_ble_eq_true rfl) ⟨Nat.zero_le _, Nat.zero_le _⟩ (fun r_25 s_25 => ?_)
    refine j_if_ne C (tgt := 38) dX10_head_28 (by decide) ?_ ?_
    · refine j_aload_n C dX10_head_38 rfl ?_
      refine j_iload_n C dX10_head_39 rfl ?_
      refine j_callVI C (As := [.int v1]) dX10_head_40 (CX1_tellHead l M hD r_4 h_4 v1 s_25) vv_RX10_182 h_4 (by decide) rfl rfl ⟨rfl, rfl⟩ (by decide) (Nat.le_of_ble_eq_true rfl) ⟨Nat.zero_le _, Nat.zero_le _⟩ (fun r_40 s_40 => ?_)
      exact j_iret C dX10_head_43
    · refine j_aload_n C dX10_head_31 rfl ?_
      refine j_ldc C dX10_head_32 lc_RX10_50 ?_
      refine j_callVI C (As := [.int ((-100001 : Int32))]) dX10_head_34 (CX10_finding l M hD v0 h0 (-100001 : Int32) s_25) vv_RX10_51 h0 (by decide) rfl rfl ⟨rfl, rfl⟩ (by decide) (Nat.le_of_ble_eq_true rfl) ⟨Nat.zero_le _, Nat.zero_le _⟩ (fun r_34 s_34 => ?_)
      exact j_iret C dX10_head_37
  · refine j_aload_n C dX10_head_15 rfl ?_
    refine j_ldc C dX10_head_16 lc_RX10_121 ?_
    refine j_callVI C (As := [.int ((-100006 : Int32))]) dX10_head_18 (CX10_finding l M hD v0 h0 (-100006 : Int32) s_4) vv_RX10_51 h0 (by decide) rfl rfl ⟨rfl, rfl⟩ (by decide) (Nat.le_of_ble_eq_true rfl) ⟨Nat.zero_le _, Nat.zero_le _⟩ (fun r_18 s_18 => ?_)
    exact j_iret C dX10_head_21
set_option maxRecDepth 20000 in
set_option maxHeartbeats 4000000 in
theorem CX5_isAbout (l : Launch) (M : Mc) (hD : Dj M) (v0 : Nat) (h0 : isK v0 5) (v1 : Int32) (v2 : Int32) (v3 : Int32) (σ : Sg) : Ct l M yX5_isAbout cX5_isAbout 5 (some .boolean) { frames := 0, cells := 0, slots := 0, locals := 0 } vI [.ref (adr M v0), .int v1, .int v2, .int v3] σ (fX5_isAbout v0 v1 v2 v3 σ) := by
  refine ct_of (l := l) hD (by decide) (Nat.le_of_ble_eq_true rfl) ?_
  intro p e s m args below meth c C
  have H37 : ∀ (w0 : Int32) (τ : Sg), J p l e { frames := 0, cells := 0, slots := 0, locals := 0 } s m args below meth c M 5 vI τ 37 [(0, .ref (adr M v0)), (1, .int v1), (2, .int v2), (3, .int v3)] [.int w0] (fX5_isAbout_37 v0 v1 v2 v3 w0 τ) := by
    intro w0 σ
    unfold fX5_isAbout_37
    refine j_istore C (Ls' := fun v4_37 => [(4, .int v4_37), (0, .ref (adr M v0)), (1, .int v1), (2, .int v2), (3, .int v3)]) dX5_isAbout_37 (by decide) (fun _ => rfl) (fun v4_37 => ?_)
    refine j_aload_n C dX5_isAbout_39 rfl ?_
    refine j_getR C dX5_isAbout_40 fl_RX5_15 h0 (by decide) rfl rfl (by decide) (fun h_40 => ?_)
    refine j_iload_n C dX5_isAbout_43 rfl ?_
    refine j_iald C dX5_isAbout_44 h_40 ?_
    refine j_if_eq C (tgt := 51) dX5_isAbout_45 (by decide) ?_ ?_
    · refine j_iload C dX5_isAbout_51 rfl ?_
      refine j_if_eq C (tgt := 80) dX5_isAbout_53 (by decide) ?_ ?_
      · refine j_iconst C (v := (0 : Int32)) dX5_isAbout_80 (by decide) ?_
        exact j_zret C dX5_isAbout_81
      · refine j_aload_n C dX5_isAbout_56 rfl ?_
        refine j_getR C dX5_isAbout_57 fl_RX5_22 h0 (by decide) rfl rfl (by decide) (fun h_57 => ?_)
        refine j_iload_n C dX5_isAbout_60 rfl ?_
        refine j_iald C dX5_isAbout_61 h_57 ?_
        refine j_iload_n C dX5_isAbout_62 rfl ?_
        refine j_icmp_eq C (tgt := 76) dX5_isAbout_63 (by decide) ?_ ?_
        · refine j_iconst C (v := (1 : Int32)) dX5_isAbout_76 (by decide) ?_
          refine j_goto C (tgt := 81) dX5_isAbout_77 (by decide) ?_
          exact j_zret C dX5_isAbout_81
        · refine j_aload_n C dX5_isAbout_66 rfl ?_
          refine j_getR C dX5_isAbout_67 fl_RX5_22 h0 (by decide) rfl rfl (by decide) (fun h_67 => ?_)
          refine j_iload_n C dX5_isAbout_70 rfl ?_
          refine j_iald C dX5_isAbout_71 h_67 ?_
          refine j_iload_n C dX5_isAbout_72 rfl ?_
          refine j_icmp_ne C (tgt := 80) dX5_isAbout_73 (by decide) ?_ ?_
          · refine j_iconst C (v := (0 : Int32)) dX5_isAbout_80 (by decide) ?_
            exact j_zret C dX5_isAbout_81
          · refine j_iconst C (v := (1 : Int32)) dX5_isAbout_76 (by decide) ?_
            refine j_goto C (tgt := 81) dX5_isAbout_77 (by decide) ?_
            exact j_zret C dX5_isAbout_81
    · refine j_iload C dX5_isAbout_48 rfl ?_
      exact j_zret C dX5_isAbout_50
  have H32 : ∀  (τ : Sg), J p l e { frames := 0, cells := 0, slots := 0, locals := 0 } s m args below meth c M 5 vI τ 32 [(0, .ref (adr M v0)), (1, .int v1), (2, .int v2), (3, .int v3)] [] (fX5_isAbout_32 v0 v1 v2 v3 τ) := by
    intro  σ
    unfold fX5_isAbout_32
    refine j_iconst C (v := (1 : Int32)) dX5_isAbout_32 (by decide) ?_
    refine j_goto C (tgt := 37) dX5_isAbout_33 (by decide) ?_
    exact H37 (1 : Int32) σ
  unfold fX5_isAbout
  refine j_aload_n C dX5_isAbout_0 rfl ?_
  refine j_getR C dX5_isAbout_1 fl_RX5_15 h0 (by decide) rfl rfl (by decide) (fun h_1 => ?_)
  refine j_iload_n C dX5_isAbout_4 rfl ?_
  refine j_iald C dX5_isAbout_5 h_1 ?_
  refine j_iconst C (v := (4 : Int32)) dX5_isAbout_6 (by decide) ?_
  refine j_icmp_ne C (tgt := 12) dX5_isAbout_7 (by decide) ?_ ?_
  · refine j_aload_n C dX5_isAbout_12 rfl ?_
    refine j_getR C dX5_isAbout_13 fl_RX5_19 h0 (by decide) rfl rfl (by decide) (fun h_13 => ?_)
    refine j_iload_n C dX5_isAbout_16 rfl ?_
    refine j_iald C dX5_isAbout_17 h_13 ?_
    refine j_iload_n C dX5_isAbout_18 rfl ?_
    refine j_icmp_eq C (tgt := 32) dX5_isAbout_19 (by decide) ?_ ?_
    · exact H32 σ
    · refine j_aload_n C dX5_isAbout_22 rfl ?_
      refine j_getR C dX5_isAbout_23 fl_RX5_19 h0 (by decide) rfl rfl (by decide) (fun h_23 => ?_)
      refine j_iload_n C dX5_isAbout_26 rfl ?_
      refine j_iald C dX5_isAbout_27 h_23 ?_
      refine j_iload_n C dX5_isAbout_28 rfl ?_
      refine j_icmp_ne C (tgt := 36) dX5_isAbout_29 (by decide) ?_ ?_
      · refine j_iconst C (v := (0 : Int32)) dX5_isAbout_36 (by decide) ?_
        exact H37 (0 : Int32) σ
      · exact H32 σ
  · refine j_iconst C (v := (0 : Int32)) dX5_isAbout_10 (by decide) ?_
    exact j_zret C dX5_isAbout_11
set_option maxRecDepth 20000 in
set_option maxHeartbeats 4000000 in
theorem CX5_firstHeldByOneOf (l : Launch) (M : Mc) (hD : Dj M) (v0 : Nat) (h0 : isK v0 5) (v1 : Int32) (v2 : Int32) (v3 : Int32) (σ : Sg) : Ct l M yX5_firstHeldByOneOf cX5_firstHeldByOneOf 6 (some .int) { frames := 1, cells := 0, slots := 0, locals := 26 } vI [.ref (adr M v0), .int v1, .int v2, .int v3] σ (fX5_firstHeldByOneOf v0 v1 v2 v3 σ) := by
  refine ct_of (l := l) hD (by decide) (Nat.le_of_ble_eq_true rfl) ?_
  intro p e s m args below meth c C
  have H18 : ∀ (v4 : Int32) (n : Nat) (v5 : Int32) (τ : Sg), J p l e { frames := 1, cells := 0, slots := 0, locals := 26 } s m args below meth c M 6 vI τ 18 [(0, .ref (adr M v0)), (1, .int v1), (2, .int v2), (4, .int v4), (5, .int v5)] [] (lq1 (fX5_firstHeldByOneOf_18 v0 v1 v2 v4) n v5 τ) := by
    intro v4
    refine j_lq1 (Ls := fun v5 => [(0, .ref (adr M v0)), (1, .int v1), (2, .int v2), (4, .int v4), (5, .int v5)]) (st := fun _ => []) ?_
    intro k18 hk18 v5 σ
    have H51 : ∀ (v5 : Int32) (τ : Sg), J p l e { frames := 1, cells := 0, slots := 0, locals := 26 } s m args below meth c M 6 vI τ 51 [(0, .ref (adr M v0)), (1, .int v1), (2, .int v2), (4, .int v4), (5, .int v5)] [] (fX5_firstHeldByOneOf_51 v0 v1 v2 v4 v5 k18 τ) := by
      intro v5 σ
      unfold fX5_firstHeldByOneOf_51
      refine j_iinc C (v := (1 : Int32)) (Ls' := fun v5_51 => [(5, .int v5_51), (0, .ref (adr M v0)), (1, .int v1), (2, .int v2), (4, .int v4)]) dX5_firstHeldByOneOf_51 4 rfl (by decide) (by decide) (fun _ => rfl) (fun v5_51 => ?_)
      refine j_goto C (tgt := 18) dX5_firstHeldByOneOf_54 (by decide) ?_
      refine j_sub (Ls' := [(0, .ref (adr M v0)), (1, .int v1), (2, .int v2), (4, .int v4), (5, .int v5_51)]) [1, 2, 3, 4, 0] rfl ?_
      exact hk18 v5_51 σ
    unfold fX5_firstHeldByOneOf_18
    refine j_iload C dX5_firstHeldByOneOf_18 rfl ?_
    refine j_aload_n C dX5_firstHeldByOneOf_20 rfl ?_
    refine j_getI C dX5_firstHeldByOneOf_21 fl_RX5_9 h0 (by decide) rfl ?_
    refine j_icmp_ge C (tgt := 57) dX5_firstHeldByOneOf_24 (by decide) ?_ ?_
    · refine j_bipush C (v := (12 : Int32)) dX5_firstHeldByOneOf_57 (by decide) ?_
      exact j_iret C dX5_firstHeldByOneOf_59
    · refine j_iload C dX5_firstHeldByOneOf_27 rfl ?_
      refine j_iload C dX5_firstHeldByOneOf_29 rfl ?_
      refine j_ishr C dX5_firstHeldByOneOf_31 ?_
      refine j_iconst C (v := (1 : Int32)) dX5_firstHeldByOneOf_32 (by decide) ?_
      refine j_iand C dX5_firstHeldByOneOf_33 ?_
      refine j_if_eq C (tgt := 51) dX5_firstHeldByOneOf_34 (by decide) ?_ ?_
      · exact H51 v5 σ
      · refine j_aload_n C dX5_firstHeldByOneOf_37 rfl ?_
        refine j_iload C dX5_firstHeldByOneOf_38 rfl ?_
        refine j_iload_n C dX5_firstHeldByOneOf_40 rfl ?_
        refine j_iload_n C dX5_firstHeldByOneOf_41 rfl ?_
        refine j_callVI C (As := [.int v5, .int v1, .int v2]) dX5_firstHeldByOneOf_42 (CX5_isAbout l M hD v0 h0 v5 v1 v2 σ) vv_RX5_38 h0 (by decide) rfl rfl ⟨rfl, rfl⟩ (by decide) (Nat.le_of_ble_eq_true rfl) ⟨Nat.zero_le _, Nat.zero_le _⟩ (fun r_42 s_42 => ?_)
        refine j_if_eq C (tgt := 51) dX5_firstHeldByOneOf_45 (by decide) ?_ ?_
        · exact H51 v5 s_42
        · refine j_iload C dX5_firstHeldByOneOf_48 rfl ?_
          exact j_iret C dX5_firstHeldByOneOf_50
  unfold fX5_firstHeldByOneOf
  refine j_aload_n C dX5_firstHeldByOneOf_0 rfl ?_
  refine j_iload_n C dX5_firstHeldByOneOf_1 rfl ?_
  refine j_iload_n C dX5_firstHeldByOneOf_2 rfl ?_
  refine j_callVI C (As := [.int v1, .int v3]) dX5_firstHeldByOneOf_3 (CX5_heldBy l M hD v0 h0 v1 v3 σ) vv_RX5_34 h0 (by decide) rfl rfl ⟨rfl, rfl⟩ (by decide) (Nat.le_of_ble_eq_true rfl) ⟨Nat.zero_le _, Nat.zero_le _⟩ (fun r_3 s_3 => ?_)
  refine j_aload_n C dX5_firstHeldByOneOf_6 rfl ?_
  refine j_iload_n C dX5_firstHeldByOneOf_7 rfl ?_
  refine j_iload_n C dX5_firstHeldByOneOf_8 rfl ?_
  refine j_callVI C (As := [.int v2, .int v3]) dX5_firstHeldByOneOf_9 (CX5_heldBy l M hD v0 h0 v2 v3 s_3) vv_RX5_34 h0 (by decide) rfl rfl ⟨rfl, rfl⟩ (by decide) (Nat.le_of_ble_eq_true rfl) ⟨Nat.zero_le _, Nat.zero_le _⟩ (fun r_9 s_9 => ?_)
  refine j_ixor C dX5_firstHeldByOneOf_12 ?_
  refine j_istore C (Ls' := fun v4_13 => [(4, .int v4_13), (0, .ref (adr M v0)), (1, .int v1), (2, .int v2), (3, .int v3)]) dX5_firstHeldByOneOf_13 (by decide) (fun _ => rfl) (fun v4_13 => ?_)
  refine j_iconst C (v := (0 : Int32)) dX5_firstHeldByOneOf_15 (by decide) ?_
  refine j_istore C (Ls' := fun v5_16 => [(5, .int v5_16), (4, .int v4_13), (0, .ref (adr M v0)), (1, .int v1), (2, .int v2), (3, .int v3)]) dX5_firstHeldByOneOf_16 (by decide) (fun _ => rfl) (fun v5_16 => ?_)
  refine j_sub (Ls' := [(0, .ref (adr M v0)), (1, .int v1), (2, .int v2), (4, .int v4_13), (5, .int v5_16)]) [2, 3, 4, 1, 0] rfl ?_
  exact H18 v4_13 FU v5_16 s_9
set_option maxRecDepth 20000 in
set_option maxHeartbeats 4000000 in
theorem CX10_cause (l : Launch) (M : Mc) (hD : Dj M) (v0 : Nat) (h0 : isK v0 10) (σ : Sg) : Ct l M yX10_cause cX10_cause 3 (some .int) { frames := 6, cells := 0, slots := 0, locals := 164 } vI [.ref (adr M v0)] σ (fX10_cause v0 σ) := by
  refine ct_of (l := l) hD (by decide) (Nat.le_of_ble_eq_true rfl) ?_
  intro p e s m args below meth c C
  unfold fX10_cause
  refine j_aload_n C dX10_cause_0 rfl ?_
  refine j_getR C dX10_cause_1 fl_RX10_20 h0 (by decide) rfl rfl (by decide) (fun h_1 => ?_)
  refine j_callVR C (As := []) dX10_cause_4 (fun _ _ hG => CX0_played_k h_1 hG) (CX0_played l M hD (rf v0 1) h_1 σ) vv_RX10_161 h_1 (by decide) rfl rfl ⟨rfl, rfl⟩ (by decide) (Nat.le_of_ble_eq_true rfl) ⟨Nat.zero_le _, Nat.zero_le _⟩ (fun r_4 s_4 h_4 => ?_)
  refine j_astore_n C (Ls' := [(1, .ref (adr M r_4)), (0, .ref (adr M v0))]) dX10_cause_7 (by decide) rfl ?_
  refine j_aload_n C dX10_cause_8 rfl ?_
  refine j_getI C dX10_cause_9 fl_RX10_179 h_4 (by decide) rfl ?_
  refine j_if_ne C (tgt := 22) dX10_cause_12 (by decide) ?_ ?_
  · refine j_aload_n C dX10_cause_22 rfl ?_
    refine j_getR C dX10_cause_23 fl_RX10_27 h0 (by decide) rfl rfl (by decide) (fun h_23 => ?_)
    refine j_getR C dX10_cause_26 fl_RX10_141 h_23 (by decide) rfl rfl (by decide) (fun h_26 => ?_)
    refine j_aload_n C dX10_cause_29 rfl ?_
    refine j_getI C dX10_cause_30 fl_RX10_185 h_4 (by decide) rfl ?_
    refine j_aload_n C dX10_cause_33 rfl ?_
    refine j_getI C dX10_cause_34 fl_RX10_188 h_4 (by decide) rfl ?_
    refine j_aload_n C dX10_cause_37 rfl ?_
    refine j_getI C dX10_cause_38 fl_RX10_191 h_4 (by decide) rfl ?_
    refine j_callVI C (As := [.int ((s_4 r_4 9)), .int ((s_4 r_4 10)), .int ((s_4 r_4 7))]) dX10_cause_41 (CX5_firstHeldByOneOf l M hD (rf (rf v0 2) 2) h_26 (s_4 r_4 9) (s_4 r_4 10) (s_4 r_4 7) s_4) vv_RX10_194 h_26 (by decide) rfl rfl ⟨rfl, rfl⟩ (by decide) (Nat.le_of_ble_eq_true rfl) ⟨Nat.zero_le _, Nat.zero_le _⟩ (fun r_41 s_41 => ?_)
    refine j_istore_n C (Ls' := fun v2_44 => [(2, .int v2_44), (1, .ref (adr M r_4)), (0, .ref (adr M v0))]) dX10_cause_44 (by decide) (fun _ => rfl) (fun v2_44 => ?_)
    refine j_iload_n C dX10_cause_45 rfl ?_
    refine j_bipush C (v := (12 : Int32)) dX10_cause_46 (by decide) ?_
    refine j_icmp_ne C (tgt := 60) dX10_cause_48 (by decide) ?_ ?_
    · refine j_iload_n C dX10_cause_60 rfl ?_
      exact j_iret C dX10_cause_61
    · refine j_aload_n C dX10_cause_51 rfl ?_
      refine j_ldc C dX10_cause_52 lc_RX10_121 ?_
      refine j_callVI C (As := [.int ((-100006 : Int32))]) dX10_cause_54 (CX10_finding l M hD v0 h0 (-100006 : Int32) s_41) vv_RX10_51 h0 (by decide) rfl rfl ⟨rfl, rfl⟩ (by decide) (Nat.le_of_ble_eq_true rfl) ⟨Nat.zero_le _, Nat.zero_le _⟩ (fun r_54 s_54 => ?_)
      refine j_goto C (tgt := 61) dX10_cause_57 (by decide) ?_
      exact j_iret C dX10_cause_61
  · refine j_aload_n C dX10_cause_15 rfl ?_
    refine j_ldc C dX10_cause_16 lc_RX10_121 ?_
    refine j_callVI C (As := [.int ((-100006 : Int32))]) dX10_cause_18 (CX10_finding l M hD v0 h0 (-100006 : Int32) s_4) vv_RX10_51 h0 (by decide) rfl rfl ⟨rfl, rfl⟩ (by decide) (Nat.le_of_ble_eq_true rfl) ⟨Nat.zero_le _, Nat.zero_le _⟩ (fun r_18 s_18 => ?_)
    exact j_iret C dX10_cause_21
