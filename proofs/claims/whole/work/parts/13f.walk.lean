set_option maxRecDepth 20000 in
set_option maxHeartbeats 4000000 in
theorem CX11_bears (l : Launch) (M : Mc) (hD : Dj M) (v0 : Nat) (h0 : isK v0 11) (v1 : Int32) (σ : Sg) : Ct l M yX11_bears cX11_bears 4 (some .boolean) { frames := 1, cells := 0, slots := 0, locals := 21 } vI [.ref (adr M v0), .int v1] σ (fX11_bears v0 v1 σ) := by
  refine ct_of (l := l) hD (by decide) (Nat.le_of_ble_eq_true rfl) ?_
  intro p e s m args below meth c C
  have H71 : ∀ (v3 : Int32) (τ : Sg), J p l e { frames := 1, cells := 0, slots := 0, locals := 21 } s m args below meth c M 4 vI τ 71 [(0, .ref (adr M v0)), (1, .int v1), (3, .int v3)] [] (fX11_bears_71 v0 v1 v3 τ) := by
    intro v3 σ
    unfold fX11_bears_71
    refine j_iload_n C dX11_bears_71 rfl ?_
    refine j_if_eq C (tgt := 91) dX11_bears_72 (by decide) ?_ ?_
    · refine j_iconst C (v := (0 : Int32)) dX11_bears_91 (by decide) ?_
      exact j_zret C dX11_bears_92
    · refine j_aload_n C dX11_bears_75 rfl ?_
      refine j_iload_n C dX11_bears_76 rfl ?_
      refine j_callVI C (As := [.int v1]) dX11_bears_77 (CX11_otherOf l M hD v0 h0 v1 σ) vv_RX11_198 h0 (by decide) rfl rfl ⟨rfl, rfl⟩ (by decide) (Nat.le_of_ble_eq_true rfl) ⟨Nat.zero_le _, Nat.zero_le _⟩ (fun r_77 s_77 => ?_)
      refine j_aload_n C dX11_bears_80 rfl ?_
      refine j_getI C dX11_bears_81 fl_RX11_249 h0 (by decide) rfl ?_
      refine j_icmp_ne C (tgt := 91) dX11_bears_84 (by decide) ?_ ?_
      · refine j_iconst C (v := (0 : Int32)) dX11_bears_91 (by decide) ?_
        exact j_zret C dX11_bears_92
      · refine j_iconst C (v := (1 : Int32)) dX11_bears_87 (by decide) ?_
        refine j_goto C (tgt := 92) dX11_bears_88 (by decide) ?_
        exact j_zret C dX11_bears_92
  have H35 : ∀ (v2 : Int32) (w0 : Int32) (τ : Sg), J p l e { frames := 1, cells := 0, slots := 0, locals := 21 } s m args below meth c M 4 vI τ 35 [(0, .ref (adr M v0)), (1, .int v1), (2, .int v2)] [.int w0] (fX11_bears_35 v0 v1 v2 w0 τ) := by
    intro v2 w0 σ
    unfold fX11_bears_35
    refine j_istore_n C (Ls' := fun v3_35 => [(3, .int v3_35), (0, .ref (adr M v0)), (1, .int v1), (2, .int v2)]) dX11_bears_35 (by decide) (fun _ => rfl) (fun v3_35 => ?_)
    refine j_aload_n C dX11_bears_36 rfl ?_
    refine j_iload_n C dX11_bears_37 rfl ?_
    refine j_callVI C (As := [.int v1]) dX11_bears_38 (CX11_formOf l M hD v0 h0 v1 σ) vv_RX11_169 h0 (by decide) rfl rfl ⟨rfl, rfl⟩ (by decide) (Nat.le_of_ble_eq_true rfl) ⟨Nat.zero_le _, Nat.zero_le _⟩ (fun r_38 s_38 => ?_)
    refine j_iconst C (v := (4 : Int32)) dX11_bears_41 (by decide) ?_
    refine j_icmp_ne C (tgt := 47) dX11_bears_42 (by decide) ?_ ?_
    · refine j_aload_n C dX11_bears_47 rfl ?_
      refine j_iload_n C dX11_bears_48 rfl ?_
      refine j_callVI C (As := [.int v1]) dX11_bears_49 (CX11_formOf l M hD v0 h0 v1 s_38) vv_RX11_169 h0 (by decide) rfl rfl ⟨rfl, rfl⟩ (by decide) (Nat.le_of_ble_eq_true rfl) ⟨Nat.zero_le _, Nat.zero_le _⟩ (fun r_49 s_49 => ?_)
      refine j_if_ne C (tgt := 93) dX11_bears_52 (by decide) ?_ ?_
      · refine j_iload_n C dX11_bears_93 rfl ?_
        refine j_if_ne C (tgt := 101) dX11_bears_94 (by decide) ?_ ?_
        · refine j_iconst C (v := (1 : Int32)) dX11_bears_101 (by decide) ?_
          refine j_goto C (tgt := 106) dX11_bears_102 (by decide) ?_
          exact j_zret C dX11_bears_106
        · refine j_iload_n C dX11_bears_97 rfl ?_
          refine j_if_eq C (tgt := 105) dX11_bears_98 (by decide) ?_ ?_
          · refine j_iconst C (v := (0 : Int32)) dX11_bears_105 (by decide) ?_
            exact j_zret C dX11_bears_106
          · refine j_iconst C (v := (1 : Int32)) dX11_bears_101 (by decide) ?_
            refine j_goto C (tgt := 106) dX11_bears_102 (by decide) ?_
            exact j_zret C dX11_bears_106
      · refine j_iload_n C dX11_bears_55 rfl ?_
        refine j_if_eq C (tgt := 71) dX11_bears_56 (by decide) ?_ ?_
        · refine j_sub (Ls' := [(0, .ref (adr M v0)), (1, .int v1), (3, .int v3_35)]) [1, 2, 0] rfl ?_
          exact H71 v3_35 s_49
        · refine j_aload_n C dX11_bears_59 rfl ?_
          refine j_iload_n C dX11_bears_60 rfl ?_
          refine j_callVI C (As := [.int v1]) dX11_bears_61 (CX11_otherOf l M hD v0 h0 v1 s_49) vv_RX11_198 h0 (by decide) rfl rfl ⟨rfl, rfl⟩ (by decide) (Nat.le_of_ble_eq_true rfl) ⟨Nat.zero_le _, Nat.zero_le _⟩ (fun r_61 s_61 => ?_)
          refine j_aload_n C dX11_bears_64 rfl ?_
          refine j_getI C dX11_bears_65 fl_RX11_252 h0 (by decide) rfl ?_
          refine j_icmp_eq C (tgt := 87) dX11_bears_68 (by decide) ?_ ?_
          · refine j_iconst C (v := (1 : Int32)) dX11_bears_87 (by decide) ?_
            refine j_goto C (tgt := 92) dX11_bears_88 (by decide) ?_
            exact j_zret C dX11_bears_92
          · refine j_sub (Ls' := [(0, .ref (adr M v0)), (1, .int v1), (3, .int v3_35)]) [1, 2, 0] rfl ?_
            exact H71 v3_35 s_61
    · refine j_iconst C (v := (0 : Int32)) dX11_bears_45 (by decide) ?_
      exact j_zret C dX11_bears_46
  have H17 : ∀ (w0 : Int32) (τ : Sg), J p l e { frames := 1, cells := 0, slots := 0, locals := 21 } s m args below meth c M 4 vI τ 17 [(0, .ref (adr M v0)), (1, .int v1)] [.int w0] (fX11_bears_17 v0 v1 w0 τ) := by
    intro w0 σ
    unfold fX11_bears_17
    refine j_istore_n C (Ls' := fun v2_17 => [(2, .int v2_17), (0, .ref (adr M v0)), (1, .int v1)]) dX11_bears_17 (by decide) (fun _ => rfl) (fun v2_17 => ?_)
    refine j_aload_n C dX11_bears_18 rfl ?_
    refine j_iload_n C dX11_bears_19 rfl ?_
    refine j_callVI C (As := [.int v1]) dX11_bears_20 (CX11_trainOf l M hD v0 h0 v1 σ) vv_RX11_172 h0 (by decide) rfl rfl ⟨rfl, rfl⟩ (by decide) (Nat.le_of_ble_eq_true rfl) ⟨Nat.zero_le _, Nat.zero_le _⟩ (fun r_20 s_20 => ?_)
    refine j_aload_n C dX11_bears_23 rfl ?_
    refine j_getI C dX11_bears_24 fl_RX11_252 h0 (by decide) rfl ?_
    refine j_icmp_ne C (tgt := 34) dX11_bears_27 (by decide) ?_ ?_
    · refine j_iconst C (v := (0 : Int32)) dX11_bears_34 (by decide) ?_
      refine j_sub (Ls' := [(0, .ref (adr M v0)), (1, .int v1), (2, .int v2_17)]) [1, 2, 0] rfl ?_
      exact H35 v2_17 (0 : Int32) s_20
    · refine j_iconst C (v := (1 : Int32)) dX11_bears_30 (by decide) ?_
      refine j_goto C (tgt := 35) dX11_bears_31 (by decide) ?_
      refine j_sub (Ls' := [(0, .ref (adr M v0)), (1, .int v1), (2, .int v2_17)]) [1, 2, 0] rfl ?_
      exact H35 v2_17 (1 : Int32) s_20
  unfold fX11_bears
  refine j_aload_n C dX11_bears_0 rfl ?_
  refine j_iload_n C dX11_bears_1 rfl ?_
  refine j_callVI C (As := [.int v1]) dX11_bears_2 (CX11_trainOf l M hD v0 h0 v1 σ) vv_RX11_172 h0 (by decide) rfl rfl ⟨rfl, rfl⟩ (by decide) (Nat.le_of_ble_eq_true rfl) ⟨Nat.zero_le _, Nat.zero_le _⟩ (fun r_2 s_2 => ?_)
  refine j_aload_n C dX11_bears_5 rfl ?_
  refine j_getI C dX11_bears_6 fl_RX11_249 h0 (by decide) rfl ?_
  refine j_icmp_ne C (tgt := 16) dX11_bears_9 (by decide) ?_ ?_
  · refine j_iconst C (v := (0 : Int32)) dX11_bears_16 (by decide) ?_
    exact H17 (0 : Int32) s_2
  · refine j_iconst C (v := (1 : Int32)) dX11_bears_12 (by decide) ?_
    refine j_goto C (tgt := 17) dX11_bears_13 (by decide) ?_
    exact H17 (1 : Int32) s_2
set_option maxRecDepth 20000 in
set_option maxHeartbeats 4000000 in
theorem CX11_cause (l : Launch) (M : Mc) (hD : Dj M) (v0 : Nat) (h0 : isK v0 11) (σ : Sg) : Ct l M yX11_cause cX11_cause 3 (some .int) { frames := 7, cells := 0, slots := 0, locals := 156 } vI [.ref (adr M v0)] σ (fX11_cause v0 σ) := by
  refine ct_of (l := l) hD (by decide) (Nat.le_of_ble_eq_true rfl) ?_
  intro p e s m args below meth c C
  have H84 : ∀ (v1 : Int32) (n : Nat) (v2 : Int32) (τ : Sg), J p l e { frames := 7, cells := 0, slots := 0, locals := 156 } s m args below meth c M 3 vI τ 84 [(0, .ref (adr M v0)), (1, .int v1), (2, .int v2)] [] (lq1 (fX11_cause_84 v0 v1) n v2 τ) := by
    intro v1
    refine j_lq1 (Ls := fun v2 => [(0, .ref (adr M v0)), (1, .int v1), (2, .int v2)]) (st := fun _ => []) ?_
    intro k84 hk84 v2 σ
    have H128 : ∀ (v2 : Int32) (τ : Sg), J p l e { frames := 7, cells := 0, slots := 0, locals := 156 } s m args below meth c M 3 vI τ 128 [(0, .ref (adr M v0)), (1, .int v1), (2, .int v2)] [] (fX11_cause_128 v0 v1 v2 k84 τ) := by
      intro v2 σ
      unfold fX11_cause_128
      refine j_iinc C (v := (1 : Int32)) (Ls' := fun v2_128 => [(2, .int v2_128), (0, .ref (adr M v0)), (1, .int v1)]) dX11_cause_128 2 rfl (by decide) (by decide) (fun _ => rfl) (fun v2_128 => ?_)
      refine j_goto C (tgt := 84) dX11_cause_131 (by decide) ?_
      refine j_sub (Ls' := [(0, .ref (adr M v0)), (1, .int v1), (2, .int v2_128)]) [1, 2, 0] rfl ?_
      exact hk84 v2_128 σ
    have H123 : ∀ (v2 : Int32) (w0 : Int32) (w1 : Int32) (τ : Sg), J p l e { frames := 7, cells := 0, slots := 0, locals := 156 } s m args below meth c M 3 vI τ 123 [(0, .ref (adr M v0)), (1, .int v1), (2, .int v2)] [.int w0, .int w1] (fX11_cause_123 v0 v1 v2 w0 w1 k84 τ) := by
      intro v2 w0 w1 σ
      unfold fX11_cause_123
      refine j_icmp_eq C (tgt := 128) dX11_cause_123 (by decide) ?_ ?_
      · exact H128 v2 σ
      · refine j_iload_n C dX11_cause_126 rfl ?_
        exact j_iret C dX11_cause_127
    unfold fX11_cause_84
    refine j_iload_n C dX11_cause_84 rfl ?_
    refine j_aload_n C dX11_cause_85 rfl ?_
    refine j_getR C dX11_cause_86 fl_RX11_7 h0 (by decide) rfl rfl (by decide) (fun h_86 => ?_)
    refine j_bipush C (v := (40 : Int32)) dX11_cause_89 (by decide) ?_
    refine j_iald C dX11_cause_91 h_86 ?_
    refine j_icmp_ge C (tgt := 134) dX11_cause_92 (by decide) ?_ ?_
    · refine j_aload_n C dX11_cause_134 rfl ?_
      refine j_ldc C dX11_cause_135 lc_RX11_100 ?_
      refine j_callVI C (As := [.int ((-100006 : Int32))]) dX11_cause_137 (CX11_finds l M hD v0 h0 (-100006 : Int32) σ) vv_RX11_101 h0 (by decide) rfl rfl ⟨rfl, rfl⟩ (by decide) (Nat.le_of_ble_eq_true rfl) ⟨Nat.zero_le _, Nat.zero_le _⟩ (fun r_137 s_137 => ?_)
      exact j_iret C dX11_cause_140
    · refine j_aload_n C dX11_cause_95 rfl ?_
      refine j_iload_n C dX11_cause_96 rfl ?_
      refine j_callVI C (As := [.int v2]) dX11_cause_97 (CX11_bears l M hD v0 h0 v2 σ) vv_RX11_283 h0 (by decide) rfl rfl ⟨rfl, rfl⟩ (by decide) (Nat.le_of_ble_eq_true rfl) ⟨Nat.zero_le _, Nat.zero_le _⟩ (fun r_97 s_97 => ?_)
      refine j_if_eq C (tgt := 128) dX11_cause_100 (by decide) ?_ ?_
      · exact H128 v2 s_97
      · refine j_aload_n C dX11_cause_103 rfl ?_
        refine j_getR C dX11_cause_104 fl_RX11_28 h0 (by decide) rfl rfl (by decide) (fun h_104 => ?_)
        refine j_iload_n C dX11_cause_107 rfl ?_
        refine j_zald C dX11_cause_108 h_104 ?_
        refine j_iload_n C dX11_cause_109 rfl ?_
        refine j_iload_n C dX11_cause_110 rfl ?_
        refine j_ishr C dX11_cause_111 ?_
        refine j_iconst C (v := (1 : Int32)) dX11_cause_112 (by decide) ?_
        refine j_iand C dX11_cause_113 ?_
        refine j_iconst C (v := (1 : Int32)) dX11_cause_114 (by decide) ?_
        refine j_icmp_ne C (tgt := 122) dX11_cause_115 (by decide) ?_ ?_
        · refine j_iconst C (v := (0 : Int32)) dX11_cause_122 (by decide) ?_
          exact H123 v2 (0 : Int32) (s_97 (rf v0 10) (v2).toNatClampNeg) s_97
        · refine j_iconst C (v := (1 : Int32)) dX11_cause_118 (by decide) ?_
          refine j_goto C (tgt := 123) dX11_cause_119 (by decide) ?_
          exact H123 v2 (1 : Int32) (s_97 (rf v0 10) (v2).toNatClampNeg) s_97
  have H34 : ∀  (n : Nat) (v1 : Int32) (v2 : Int32) (τ : Sg), J p l e { frames := 7, cells := 0, slots := 0, locals := 156 } s m args below meth c M 3 vI τ 34 [(0, .ref (adr M v0)), (1, .int v1), (2, .int v2)] [] (lq2 (fX11_cause_34 v0) n v1 v2 τ) := by
    refine j_lq2 (Ls := fun v1 v2 => [(0, .ref (adr M v0)), (1, .int v1), (2, .int v2)]) (st := fun _ _ => []) ?_
    intro k34 hk34 v1 v2 σ
    have H62 : ∀ (v2 : Int32) (w0 : Int32) (w1 : Int32) (τ : Sg), J p l e { frames := 7, cells := 0, slots := 0, locals := 156 } s m args below meth c M 3 vI τ 62 [(0, .ref (adr M v0)), (2, .int v2)] [.int w0, .int w1] (fX11_cause_62 v0 v2 w0 w1 k34 τ) := by
      intro v2 w0 w1 σ
      unfold fX11_cause_62
      refine j_ior C dX11_cause_62 ?_
      refine j_istore_n C (Ls' := fun v1_63 => [(1, .int v1_63), (0, .ref (adr M v0)), (2, .int v2)]) dX11_cause_63 (by decide) (fun _ => rfl) (fun v1_63 => ?_)
      refine j_iinc C (v := (1 : Int32)) (Ls' := fun v2_64 => [(2, .int v2_64), (1, .int v1_63), (0, .ref (adr M v0))]) dX11_cause_64 2 rfl (by decide) (by decide) (fun _ => rfl) (fun v2_64 => ?_)
      refine j_goto C (tgt := 34) dX11_cause_67 (by decide) ?_
      refine j_sub (Ls' := [(0, .ref (adr M v0)), (1, .int v1_63), (2, .int v2_64)]) [2, 1, 0] rfl ?_
      exact hk34 v1_63 v2_64 σ
    unfold fX11_cause_34
    refine j_iload_n C dX11_cause_34 rfl ?_
    refine j_aload_n C dX11_cause_35 rfl ?_
    refine j_getR C dX11_cause_36 fl_RX11_7 h0 (by decide) rfl rfl (by decide) (fun h_36 => ?_)
    refine j_bipush C (v := (40 : Int32)) dX11_cause_39 (by decide) ?_
    refine j_iald C dX11_cause_41 h_36 ?_
    refine j_icmp_ge C (tgt := 70) dX11_cause_42 (by decide) ?_ ?_
    · refine j_aload_n C dX11_cause_70 rfl ?_
      refine j_aload_n C dX11_cause_71 rfl ?_
      refine j_getI C dX11_cause_72 fl_RX11_252 h0 (by decide) rfl ?_
      refine j_aload_n C dX11_cause_75 rfl ?_
      refine j_getI C dX11_cause_76 fl_RX11_255 h0 (by decide) rfl ?_
      refine j_callVv C (As := [.int ((σ v0 29)), .int ((σ v0 30))]) dX11_cause_79 (CX11_findHeld l M hD v0 h0 (σ v0 29) (σ v0 30) σ) vv_RX11_178 h0 (by decide) rfl rfl ⟨rfl, rfl⟩ (by decide) (Nat.le_of_ble_eq_true rfl) ⟨Nat.zero_le _, Nat.zero_le _⟩ (fun r_79 s_79 => ?_)
      refine j_iconst C (v := (0 : Int32)) dX11_cause_82 (by decide) ?_
      refine j_istore_n C (Ls' := fun v2_83 => [(2, .int v2_83), (0, .ref (adr M v0)), (1, .int v1)]) dX11_cause_83 (by decide) (fun _ => rfl) (fun v2_83 => ?_)
      refine j_sub (Ls' := [(0, .ref (adr M v0)), (1, .int v1), (2, .int v2_83)]) [1, 2, 0] rfl ?_
      exact H84 v1 FU v2_83 s_79
    · refine j_iload_n C dX11_cause_45 rfl ?_
      refine j_aload_n C dX11_cause_46 rfl ?_
      refine j_getR C dX11_cause_47 fl_RX11_28 h0 (by decide) rfl rfl (by decide) (fun h_47 => ?_)
      refine j_iload_n C dX11_cause_50 rfl ?_
      refine j_zald C dX11_cause_51 h_47 ?_
      refine j_if_eq C (tgt := 61) dX11_cause_52 (by decide) ?_ ?_
      · refine j_iconst C (v := (0 : Int32)) dX11_cause_61 (by decide) ?_
        refine j_sub (Ls' := [(0, .ref (adr M v0)), (2, .int v2)]) [0, 2] rfl ?_
        exact H62 v2 (0 : Int32) v1 σ
      · refine j_iconst C (v := (1 : Int32)) dX11_cause_55 (by decide) ?_
        refine j_iload_n C dX11_cause_56 rfl ?_
        refine j_ishl C dX11_cause_57 ?_
        refine j_goto C (tgt := 62) dX11_cause_58 (by decide) ?_
        refine j_sub (Ls' := [(0, .ref (adr M v0)), (2, .int v2)]) [0, 2] rfl ?_
        exact H62 v2 ((1 : Int32) <<< (v2 &&& 31)) v1 σ
  unfold fX11_cause
  refine j_aload_n C dX11_cause_0 rfl ?_
  refine j_callVv C (As := []) dX11_cause_1 (CX11_runsAsItIs l M hD v0 h0 σ) vv_RX11_280 h0 (by decide) rfl rfl ⟨rfl, rfl⟩ (by decide) (Nat.le_of_ble_eq_true rfl) ⟨Nat.zero_le _, Nat.zero_le _⟩ (fun r_1 s_1 => ?_)
  refine j_aload_n C dX11_cause_4 rfl ?_
  refine j_getI C dX11_cause_5 fl_RX11_182 h0 (by decide) rfl ?_
  refine j_if_ne C (tgt := 18) dX11_cause_8 (by decide) ?_ ?_
  · refine j_iconst C (v := (0 : Int32)) dX11_cause_18 (by decide) ?_
    refine j_istore_n C (Ls' := fun v1_19 => [(1, .int v1_19), (0, .ref (adr M v0))]) dX11_cause_19 (by decide) (fun _ => rfl) (fun v1_19 => ?_)
    refine j_aload_n C dX11_cause_20 rfl ?_
    refine j_aload_n C dX11_cause_21 rfl ?_
    refine j_getI C dX11_cause_22 fl_RX11_249 h0 (by decide) rfl ?_
    refine j_aload_n C dX11_cause_25 rfl ?_
    refine j_getI C dX11_cause_26 fl_RX11_255 h0 (by decide) rfl ?_
    refine j_callVv C (As := [.int ((s_1 v0 28)), .int ((s_1 v0 30))]) dX11_cause_29 (CX11_findHeld l M hD v0 h0 (s_1 v0 28) (s_1 v0 30) s_1) vv_RX11_178 h0 (by decide) rfl rfl ⟨rfl, rfl⟩ (by decide) (Nat.le_of_ble_eq_true rfl) ⟨Nat.zero_le _, Nat.zero_le _⟩ (fun r_29 s_29 => ?_)
    refine j_iconst C (v := (0 : Int32)) dX11_cause_32 (by decide) ?_
    refine j_istore_n C (Ls' := fun v2_33 => [(2, .int v2_33), (1, .int v1_19), (0, .ref (adr M v0))]) dX11_cause_33 (by decide) (fun _ => rfl) (fun v2_33 => ?_)
    refine j_sub (Ls' := [(0, .ref (adr M v0)), (1, .int v1_19), (2, .int v2_33)]) [2, 1, 0] rfl ?_
    exact H34 FU v1_19 v2_33 s_29
  · refine j_aload_n C dX11_cause_11 rfl ?_
    refine j_ldc C dX11_cause_12 lc_RX11_100 ?_
    refine j_callVI C (As := [.int ((-100006 : Int32))]) dX11_cause_14 (CX11_finds l M hD v0 h0 (-100006 : Int32) s_1) vv_RX11_101 h0 (by decide) rfl rfl ⟨rfl, rfl⟩ (by decide) (Nat.le_of_ble_eq_true rfl) ⟨Nat.zero_le _, Nat.zero_le _⟩ (fun r_14 s_14 => ?_)
    exact j_iret C dX11_cause_17
set_option maxRecDepth 20000 in
set_option maxHeartbeats 4000000 in
theorem CX11_fouls (l : Launch) (M : Mc) (hD : Dj M) (v0 : Nat) (h0 : isK v0 11) (σ : Sg) : Ct l M yX11_fouls cX11_fouls 1 (some .int) { frames := 7, cells := 0, slots := 0, locals := 156 } vI [.ref (adr M v0)] σ (fX11_fouls v0 σ) := by
  refine ct_of (l := l) hD (by decide) (Nat.le_of_ble_eq_true rfl) ?_
  intro p e s m args below meth c C
  unfold fX11_fouls
  refine j_aload_n C dX11_fouls_0 rfl ?_
  refine j_callVv C (As := []) dX11_fouls_1 (CX11_runsAsItIs l M hD v0 h0 σ) vv_RX11_280 h0 (by decide) rfl rfl ⟨rfl, rfl⟩ (by decide) (Nat.le_of_ble_eq_true rfl) ⟨Nat.zero_le _, Nat.zero_le _⟩ (fun r_1 s_1 => ?_)
  refine j_aload_n C dX11_fouls_4 rfl ?_
  refine j_getI C dX11_fouls_5 fl_RX11_185 h0 (by decide) rfl ?_
  exact j_iret C dX11_fouls_8
set_option maxRecDepth 20000 in
set_option maxHeartbeats 4000000 in
theorem CX11_delays (l : Launch) (M : Mc) (hD : Dj M) (v0 : Nat) (h0 : isK v0 11) (σ : Sg) : Ct l M yX11_delays cX11_delays 4 (some .int) { frames := 1, cells := 0, slots := 0, locals := 24 } vI [.ref (adr M v0)] σ (fX11_delays v0 σ) := by
  refine ct_of (l := l) hD (by decide) (Nat.le_of_ble_eq_true rfl) ?_
  intro p e s m args below meth c C
  have H4 : ∀  (n : Nat) (v1 : Int32) (v2 : Int32) (τ : Sg), J p l e { frames := 1, cells := 0, slots := 0, locals := 24 } s m args below meth c M 4 vI τ 4 [(0, .ref (adr M v0)), (1, .int v1), (2, .int v2)] [] (lq2 (fX11_delays_4 v0) n v1 v2 τ) := by
    refine j_lq2 (Ls := fun v1 v2 => [(0, .ref (adr M v0)), (1, .int v1), (2, .int v2)]) (st := fun _ _ => []) ?_
    intro k4 hk4 v1 v2 σ
    have H75 : ∀ (v2 : Int32) (w0 : Int32) (w1 : Int32) (τ : Sg), J p l e { frames := 1, cells := 0, slots := 0, locals := 24 } s m args below meth c M 4 vI τ 75 [(0, .ref (adr M v0)), (2, .int v2)] [.int w0, .int w1] (fX11_delays_75 v0 v2 w0 w1 k4 τ) := by
      intro v2 w0 w1 σ
      unfold fX11_delays_75
      refine j_iadd C dX11_delays_75 ?_
      refine j_istore_n C (Ls' := fun v1_76 => [(1, .int v1_76), (0, .ref (adr M v0)), (2, .int v2)]) dX11_delays_76 (by decide) (fun _ => rfl) (fun v1_76 => ?_)
      refine j_iinc C (v := (1 : Int32)) (Ls' := fun v2_77 => [(2, .int v2_77), (1, .int v1_76), (0, .ref (adr M v0))]) dX11_delays_77 2 rfl (by decide) (by decide) (fun _ => rfl) (fun v2_77 => ?_)
      refine j_goto C (tgt := 4) dX11_delays_80 (by decide) ?_
      refine j_sub (Ls' := [(0, .ref (adr M v0)), (1, .int v1_76), (2, .int v2_77)]) [2, 1, 0] rfl ?_
      exact hk4 v1_76 v2_77 σ
    have H74 : ∀ (v2 : Int32) (w0 : Int32) (w1 : Int32) (w2 : Int32) (τ : Sg), J p l e { frames := 1, cells := 0, slots := 0, locals := 24 } s m args below meth c M 4 vI τ 74 [(0, .ref (adr M v0)), (2, .int v2)] [.int w0, .int w1, .int w2] (fX11_delays_74 v0 v2 w0 w1 w2 k4 τ) := by
      intro v2 w0 w1 w2 σ
      unfold fX11_delays_74
      refine j_isub C dX11_delays_74 ?_
      exact H75 v2 (w1 - w0) w2 σ
    unfold fX11_delays_4
    refine j_iload_n C dX11_delays_4 rfl ?_
    refine j_aload_n C dX11_delays_5 rfl ?_
    refine j_getR C dX11_delays_6 fl_RX11_7 h0 (by decide) rfl rfl (by decide) (fun h_6 => ?_)
    refine j_bipush C (v := (14 : Int32)) dX11_delays_9 (by decide) ?_
    refine j_iald C dX11_delays_11 h_6 ?_
    refine j_icmp_ge C (tgt := 83) dX11_delays_12 (by decide) ?_ ?_
    · refine j_iload_n C dX11_delays_83 rfl ?_
      exact j_iret C dX11_delays_84
    · refine j_aload_n C dX11_delays_15 rfl ?_
      refine j_aload_n C dX11_delays_16 rfl ?_
      refine j_iload_n C dX11_delays_17 rfl ?_
      refine j_callVI C (As := [.int v2]) dX11_delays_18 (CX11_fromOf l M hD v0 h0 v2 σ) vv_RX11_115 h0 (by decide) rfl rfl ⟨rfl, rfl⟩ (by decide) (Nat.le_of_ble_eq_true rfl) ⟨Nat.zero_le _, Nat.zero_le _⟩ (fun r_18 s_18 => ?_)
      refine j_aload_n C dX11_delays_21 rfl ?_
      refine j_iload_n C dX11_delays_22 rfl ?_
      refine j_callVI C (As := [.int v2]) dX11_delays_23 (CX11_toOf l M hD v0 h0 v2 s_18) vv_RX11_112 h0 (by decide) rfl rfl ⟨rfl, rfl⟩ (by decide) (Nat.le_of_ble_eq_true rfl) ⟨Nat.zero_le _, Nat.zero_le _⟩ (fun r_23 s_23 => ?_)
      refine j_callVI C (As := [.int r_18, .int r_23]) dX11_delays_26 (CX11_between l M hD v0 h0 r_18 r_23 s_23) vv_RX11_146 h0 (by decide) rfl rfl ⟨rfl, rfl⟩ (by decide) (Nat.le_of_ble_eq_true rfl) ⟨Nat.zero_le _, Nat.zero_le _⟩ (fun r_26 s_26 => ?_)
      refine j_istore_n C (Ls' := fun v3_29 => [(3, .int v3_29), (0, .ref (adr M v0)), (1, .int v1), (2, .int v2)]) dX11_delays_29 (by decide) (fun _ => rfl) (fun v3_29 => ?_)
      refine j_iload_n C dX11_delays_30 rfl ?_
      refine j_aload_n C dX11_delays_31 rfl ?_
      refine j_getR C dX11_delays_32 fl_RX11_44 h0 (by decide) rfl rfl (by decide) (fun h_32 => ?_)
      refine j_iload_n C dX11_delays_35 rfl ?_
      refine j_iald C dX11_delays_36 h_32 ?_
      refine j_if_ge C (tgt := 46) dX11_delays_37 (by decide) ?_ ?_
      · refine j_aload_n C dX11_delays_46 rfl ?_
        refine j_getR C dX11_delays_47 fl_RX11_44 h0 (by decide) rfl rfl (by decide) (fun h_47 => ?_)
        refine j_iload_n C dX11_delays_50 rfl ?_
        refine j_iald C dX11_delays_51 h_47 ?_
        refine j_aload_n C dX11_delays_52 rfl ?_
        refine j_iload_n C dX11_delays_53 rfl ?_
        refine j_callVI C (As := [.int v2]) dX11_delays_54 (CX11_timeOf l M hD v0 h0 v2 s_26) vv_RX11_143 h0 (by decide) rfl rfl ⟨rfl, rfl⟩ (by decide) (Nat.le_of_ble_eq_true rfl) ⟨Nat.zero_le _, Nat.zero_le _⟩ (fun r_54 s_54 => ?_)
        refine j_isub C dX11_delays_57 ?_
        refine j_aload_n C dX11_delays_58 rfl ?_
        refine j_iload_n C dX11_delays_59 rfl ?_
        refine j_callVI C (As := [.int v2]) dX11_delays_60 (CX11_kindOf l M hD v0 h0 v2 s_54) vv_RX11_136 h0 (by decide) rfl rfl ⟨rfl, rfl⟩ (by decide) (Nat.le_of_ble_eq_true rfl) ⟨Nat.zero_le _, Nat.zero_le _⟩ (fun r_60 s_60 => ?_)
        refine j_iconst C (v := (3 : Int32)) dX11_delays_63 (by decide) ?_
        refine j_icmp_ne C (tgt := 73) dX11_delays_64 (by decide) ?_ ?_
        · refine j_iload_n C dX11_delays_73 rfl ?_
          refine j_sub (Ls' := [(0, .ref (adr M v0)), (2, .int v2)]) [1, 3] rfl ?_
          exact H74 v2 v3_29 ((s_26 (rf v0 15) (v2).toNatClampNeg) - r_54) v1 s_60
        · refine j_iconst C (v := (2 : Int32)) dX11_delays_67 (by decide) ?_
          refine j_iload_n C dX11_delays_68 rfl ?_
          refine j_imul C dX11_delays_69 ?_
          refine j_goto C (tgt := 74) dX11_delays_70 (by decide) ?_
          refine j_sub (Ls' := [(0, .ref (adr M v0)), (2, .int v2)]) [1, 3] rfl ?_
          exact H74 v2 ((2 : Int32) * v3_29) ((s_26 (rf v0 15) (v2).toNatClampNeg) - r_54) v1 s_60
      · refine j_sipush C (v := (1000 : Int32)) dX11_delays_40 (by decide) ?_
        refine j_goto C (tgt := 75) dX11_delays_43 (by decide) ?_
        refine j_sub (Ls' := [(0, .ref (adr M v0)), (2, .int v2)]) [1, 3] rfl ?_
        exact H75 v2 (1000 : Int32) v1 s_26
  unfold fX11_delays
  refine j_iconst C (v := (0 : Int32)) dX11_delays_0 (by decide) ?_
  refine j_istore_n C (Ls' := fun v1_1 => [(1, .int v1_1), (0, .ref (adr M v0))]) dX11_delays_1 (by decide) (fun _ => rfl) (fun v1_1 => ?_)
  refine j_iconst C (v := (0 : Int32)) dX11_delays_2 (by decide) ?_
  refine j_istore_n C (Ls' := fun v2_3 => [(2, .int v2_3), (1, .int v1_1), (0, .ref (adr M v0))]) dX11_delays_3 (by decide) (fun _ => rfl) (fun v2_3 => ?_)
  refine j_sub (Ls' := [(0, .ref (adr M v0)), (1, .int v1_1), (2, .int v2_3)]) [2, 1, 0] rfl ?_
  exact H4 FU v1_1 v2_3 σ
set_option maxRecDepth 20000 in
set_option maxHeartbeats 4000000 in
theorem CX11_delay (l : Launch) (M : Mc) (hD : Dj M) (v0 : Nat) (h0 : isK v0 11) (σ : Sg) : Ct l M yX11_delay cX11_delay 1 (some .int) { frames := 7, cells := 0, slots := 0, locals := 156 } vI [.ref (adr M v0)] σ (fX11_delay v0 σ) := by
  refine ct_of (l := l) hD (by decide) (Nat.le_of_ble_eq_true rfl) ?_
  intro p e s m args below meth c C
  unfold fX11_delay
  refine j_aload_n C dX11_delay_0 rfl ?_
  refine j_callVv C (As := []) dX11_delay_1 (CX11_runsAsItIs l M hD v0 h0 σ) vv_RX11_280 h0 (by decide) rfl rfl ⟨rfl, rfl⟩ (by decide) (Nat.le_of_ble_eq_true rfl) ⟨Nat.zero_le _, Nat.zero_le _⟩ (fun r_1 s_1 => ?_)
  refine j_aload_n C dX11_delay_4 rfl ?_
  refine j_callVI C (As := []) dX11_delay_5 (CX11_delays l M hD v0 h0 s_1) vv_RX11_286 h0 (by decide) rfl rfl ⟨rfl, rfl⟩ (by decide) (Nat.le_of_ble_eq_true rfl) ⟨Nat.zero_le _, Nat.zero_le _⟩ (fun r_5 s_5 => ?_)
  exact j_iret C dX11_delay_8
set_option maxRecDepth 20000 in
set_option maxHeartbeats 4000000 in
theorem CX11_priceOf (l : Launch) (M : Mc) (hD : Dj M) (v0 : Nat) (h0 : isK v0 11) (v1 : Int32) (v2 : Int32) (v3 : Int32) (σ : Sg) : Ct l M yX11_priceOf cX11_priceOf 4 (some .int) { frames := 6, cells := 0, slots := 0, locals := 136 } vI [.ref (adr M v0), .int v1, .int v2, .int v3] σ (fX11_priceOf v0 v1 v2 v3 σ) := by
  refine ct_of (l := l) hD (by decide) (Nat.le_of_ble_eq_true rfl) ?_
  intro p e s m args below meth c C
  unfold fX11_priceOf
  refine j_aload_n C dX11_priceOf_0 rfl ?_
  refine j_iload_n C dX11_priceOf_1 rfl ?_
  refine j_put C dX11_priceOf_2 fl_RX11_201 fs_11_32 h0 (by decide) rfl rfl rfl (fun s_2 => ?_)
  refine j_aload_n C dX11_priceOf_5 rfl ?_
  refine j_iload_n C dX11_priceOf_6 rfl ?_
  refine j_put C dX11_priceOf_7 fl_RX11_204 fs_11_33 h0 (by decide) rfl rfl rfl (fun s_7 => ?_)
  refine j_aload_n C dX11_priceOf_10 rfl ?_
  refine j_iload_n C dX11_priceOf_11 rfl ?_
  refine j_put C dX11_priceOf_12 fl_RX11_219 fs_11_34 h0 (by decide) rfl rfl rfl (fun s_12 => ?_)
  refine j_aload_n C dX11_priceOf_15 rfl ?_
  refine j_iconst C (v := (0 : Int32)) dX11_priceOf_16 (by decide) ?_
  refine j_put C dX11_priceOf_17 fl_RX11_90 fs_11_9 h0 (by decide) rfl rfl rfl (fun s_17 => ?_)
  refine j_aload_n C dX11_priceOf_20 rfl ?_
  refine j_callVv C (As := []) dX11_priceOf_21 (CX11_runs l M hD v0 h0 s_17) vv_RX11_277 h0 (by decide) rfl rfl ⟨rfl, rfl⟩ (by decide) (Nat.le_of_ble_eq_true rfl) ⟨Nat.zero_le _, Nat.zero_le _⟩ (fun r_21 s_21 => ?_)
  refine j_ldcw C dX11_priceOf_24 lc_RX11_290 ?_
  refine j_aload_n C dX11_priceOf_27 rfl ?_
  refine j_getI C dX11_priceOf_28 fl_RX11_182 h0 (by decide) rfl ?_
  refine j_imul C dX11_priceOf_31 ?_
  refine j_aload_n C dX11_priceOf_32 rfl ?_
  refine j_callVI C (As := []) dX11_priceOf_33 (CX11_delays l M hD v0 h0 s_21) vv_RX11_286 h0 (by decide) rfl rfl ⟨rfl, rfl⟩ (by decide) (Nat.le_of_ble_eq_true rfl) ⟨Nat.zero_le _, Nat.zero_le _⟩ (fun r_33 s_33 => ?_)
  refine j_iadd C dX11_priceOf_36 ?_
  exact j_iret C dX11_priceOf_37
set_option maxRecDepth 20000 in
set_option maxHeartbeats 4000000 in
theorem CX11_findMeets (l : Launch) (M : Mc) (hD : Dj M) (v0 : Nat) (h0 : isK v0 11) (σ : Sg) : Ct l M yX11_findMeets cX11_findMeets 4 none { frames := 7, cells := 0, slots := 0, locals := 159 } vV [.ref (adr M v0)] σ (fX11_findMeets v0 σ) := by
  refine ct_of (l := l) hD (by decide) (Nat.le_of_ble_eq_true rfl) ?_
  intro p e s m args below meth c C
  have H12 : ∀  (n : Nat) (v1 : Int32) (τ : Sg), J p l e { frames := 7, cells := 0, slots := 0, locals := 159 } s m args below meth c M 4 vV τ 12 [(0, .ref (adr M v0)), (1, .int v1)] [] (lq1 (fX11_findMeets_12 v0) n v1 τ) := by
    refine j_lq1 (Ls := fun v1 => [(0, .ref (adr M v0)), (1, .int v1)]) (st := fun _ => []) ?_
    intro k12 hk12 v1 σ
    have H27 : ∀ (v1 : Int32) (n : Nat) (v2 : Int32) (τ : Sg), J p l e { frames := 7, cells := 0, slots := 0, locals := 159 } s m args below meth c M 4 vV τ 27 [(0, .ref (adr M v0)), (1, .int v1), (2, .int v2)] [] (lq1 (fX11_findMeets_27 v0 v1 k12) n v2 τ) := by
      intro v1
      refine j_lq1 (Ls := fun v2 => [(0, .ref (adr M v0)), (1, .int v1), (2, .int v2)]) (st := fun _ => []) ?_
      intro k27 hk27 v2 σ
      have H161 : ∀ (v2 : Int32) (τ : Sg), J p l e { frames := 7, cells := 0, slots := 0, locals := 159 } s m args below meth c M 4 vV τ 161 [(0, .ref (adr M v0)), (1, .int v1), (2, .int v2)] [] (fX11_findMeets_161 v0 v1 v2 k12 k27 τ) := by
        intro v2 σ
        unfold fX11_findMeets_161
        refine j_iinc C (v := (1 : Int32)) (Ls' := fun v2_161 => [(2, .int v2_161), (0, .ref (adr M v0)), (1, .int v1)]) dX11_findMeets_161 2 rfl (by decide) (by decide) (fun _ => rfl) (fun v2_161 => ?_)
        refine j_goto C (tgt := 27) dX11_findMeets_164 (by decide) ?_
        refine j_sub (Ls' := [(0, .ref (adr M v0)), (1, .int v1), (2, .int v2_161)]) [1, 2, 0] rfl ?_
        exact hk27 v2_161 σ
      have H40 : ∀ (v2 : Int32) (n : Nat) (v3 : Int32) (τ : Sg), J p l e { frames := 7, cells := 0, slots := 0, locals := 159 } s m args below meth c M 4 vV τ 40 [(0, .ref (adr M v0)), (1, .int v1), (2, .int v2), (3, .int v3)] [] (lq1 (fX11_findMeets_40 v0 v1 v2 k12 k27) n v3 τ) := by
        intro v2
        refine j_lq1 (Ls := fun v3 => [(0, .ref (adr M v0)), (1, .int v1), (2, .int v2), (3, .int v3)]) (st := fun _ => []) ?_
        intro k40 hk40 v3 σ
        have H142 : ∀ (v3 : Int32) (w0 : Int32) (w1 : Nat) (hw1 : isK w1 11) (τ : Sg), J p l e { frames := 7, cells := 0, slots := 0, locals := 159 } s m args below meth c M 4 vV τ 142 [(0, .ref (adr M v0)), (1, .int v1), (2, .int v2), (3, .int v3)] [.int w0, .ref (adr M w1)] (fX11_findMeets_142 v0 v1 v2 v3 w0 w1 k12 k27 k40 τ) := by
          intro v3 w0 w1 hw1 σ
          unfold fX11_findMeets_142
          refine j_put C dX11_findMeets_142 fl_RX11_294 fs_11_40 hw1 (by decide) rfl rfl rfl (fun s_142 => ?_)
          refine j_aload_n C dX11_findMeets_145 rfl ?_
          refine j_dup C dX11_findMeets_146 rfl ?_
          refine j_getI C dX11_findMeets_147 fl_RX11_291 h0 (by decide) rfl ?_
          refine j_iconst C (v := (1 : Int32)) dX11_findMeets_150 (by decide) ?_
          refine j_iadd C dX11_findMeets_151 ?_
          refine j_put C dX11_findMeets_152 fl_RX11_291 fs_11_39 h0 (by decide) rfl rfl rfl (fun s_152 => ?_)
          refine j_iinc C (v := (1 : Int32)) (Ls' := fun v3_155 => [(3, .int v3_155), (0, .ref (adr M v0)), (1, .int v1), (2, .int v2)]) dX11_findMeets_155 3 rfl (by decide) (by decide) (fun _ => rfl) (fun v3_155 => ?_)
          refine j_goto C (tgt := 40) dX11_findMeets_158 (by decide) ?_
          refine j_sub (Ls' := [(0, .ref (adr M v0)), (1, .int v1), (2, .int v2), (3, .int v3_155)]) [1, 2, 3, 0] rfl ?_
          exact hk40 v3_155 s_152
        unfold fX11_findMeets_40
        refine j_iload_n C dX11_findMeets_40 rfl ?_
        refine j_aload_n C dX11_findMeets_41 rfl ?_
        refine j_getR C dX11_findMeets_42 fl_RX11_7 h0 (by decide) rfl rfl (by decide) (fun h_42 => ?_)
        refine j_iconst C (v := (0 : Int32)) dX11_findMeets_45 (by decide) ?_
        refine j_iald C dX11_findMeets_46 h_42 ?_
        refine j_icmp_ge C (tgt := 161) dX11_findMeets_47 (by decide) ?_ ?_
        · refine j_sub (Ls' := [(0, .ref (adr M v0)), (1, .int v1), (2, .int v2)]) [0, 1, 2] rfl ?_
          exact H161 v2 σ
        · refine j_aload_n C dX11_findMeets_50 rfl ?_
          refine j_iload_n C dX11_findMeets_51 rfl ?_
          refine j_callVI C (As := [.int v1]) dX11_findMeets_52 (CX11_wayOf l M hD v0 h0 v1 σ) vv_RX11_140 h0 (by decide) rfl rfl ⟨rfl, rfl⟩ (by decide) (Nat.le_of_ble_eq_true rfl) ⟨Nat.zero_le _, Nat.zero_le _⟩ (fun r_52 s_52 => ?_)
          refine j_aload_n C dX11_findMeets_55 rfl ?_
          refine j_iload_n C dX11_findMeets_56 rfl ?_
          refine j_callVI C (As := [.int v2]) dX11_findMeets_57 (CX11_wayOf l M hD v0 h0 v2 s_52) vv_RX11_140 h0 (by decide) rfl rfl ⟨rfl, rfl⟩ (by decide) (Nat.le_of_ble_eq_true rfl) ⟨Nat.zero_le _, Nat.zero_le _⟩ (fun r_57 s_57 => ?_)
          refine j_icmp_eq C (tgt := 161) dX11_findMeets_60 (by decide) ?_ ?_
          · refine j_sub (Ls' := [(0, .ref (adr M v0)), (1, .int v1), (2, .int v2)]) [0, 1, 2] rfl ?_
            exact H161 v2 s_57
          · refine j_aload_n C dX11_findMeets_63 rfl ?_
            refine j_getR C dX11_findMeets_64 fl_RX11_74 h0 (by decide) rfl rfl (by decide) (fun h_64 => ?_)
            refine j_aload_n C dX11_findMeets_67 rfl ?_
            refine j_getI C dX11_findMeets_68 fl_RX11_291 h0 (by decide) rfl ?_
            refine j_iload_n C dX11_findMeets_71 rfl ?_
            refine j_iast C dX11_findMeets_72 h_64 (fun s_72 => ?_)
            refine j_aload_n C dX11_findMeets_73 rfl ?_
            refine j_getR C dX11_findMeets_74 fl_RX11_77 h0 (by decide) rfl rfl (by decide) (fun h_74 => ?_)
            refine j_aload_n C dX11_findMeets_77 rfl ?_
            refine j_getI C dX11_findMeets_78 fl_RX11_291 h0 (by decide) rfl ?_
            refine j_iload_n C dX11_findMeets_81 rfl ?_
            refine j_iast C dX11_findMeets_82 h_74 (fun s_82 => ?_)
            refine j_aload_n C dX11_findMeets_83 rfl ?_
            refine j_getR C dX11_findMeets_84 fl_RX11_80 h0 (by decide) rfl rfl (by decide) (fun h_84 => ?_)
            refine j_aload_n C dX11_findMeets_87 rfl ?_
            refine j_getI C dX11_findMeets_88 fl_RX11_291 h0 (by decide) rfl ?_
            refine j_iload_n C dX11_findMeets_91 rfl ?_
            refine j_iast C dX11_findMeets_92 h_84 (fun s_92 => ?_)
            refine j_aload_n C dX11_findMeets_93 rfl ?_
            refine j_getR C dX11_findMeets_94 fl_RX11_83 h0 (by decide) rfl rfl (by decide) (fun h_94 => ?_)
            refine j_aload_n C dX11_findMeets_97 rfl ?_
            refine j_getI C dX11_findMeets_98 fl_RX11_291 h0 (by decide) rfl ?_
            refine j_aload_n C dX11_findMeets_101 rfl ?_
            refine j_iload_n C dX11_findMeets_102 rfl ?_
            refine j_iload_n C dX11_findMeets_103 rfl ?_
            refine j_iload_n C dX11_findMeets_104 rfl ?_
            refine j_callVI C (As := [.int v1, .int v2, .int v3]) dX11_findMeets_105 (CX11_priceOf l M hD v0 h0 v1 v2 v3 s_92) vv_RX11_297 h0 (by decide) rfl rfl ⟨rfl, rfl⟩ (by decide) (Nat.le_of_ble_eq_true rfl) ⟨Nat.zero_le _, Nat.zero_le _⟩ (fun r_105 s_105 => ?_)
            refine j_iast C dX11_findMeets_108 h_94 (fun s_108 => ?_)
            refine j_aload_n C dX11_findMeets_109 rfl ?_
            refine j_aload_n C dX11_findMeets_110 rfl ?_
            refine j_getR C dX11_findMeets_111 fl_RX11_83 h0 (by decide) rfl rfl (by decide) (fun h_111 => ?_)
            refine j_aload_n C dX11_findMeets_114 rfl ?_
            refine j_getI C dX11_findMeets_115 fl_RX11_291 h0 (by decide) rfl ?_
            refine j_iald C dX11_findMeets_118 h_111 ?_
            refine j_aload_n C dX11_findMeets_119 rfl ?_
            refine j_getR C dX11_findMeets_120 fl_RX11_83 h0 (by decide) rfl rfl (by decide) (fun h_120 => ?_)
            refine j_aload_n C dX11_findMeets_123 rfl ?_
            refine j_getI C dX11_findMeets_124 fl_RX11_294 h0 (by decide) rfl ?_
            refine j_iald C dX11_findMeets_127 h_120 ?_
            refine j_icmp_ge C (tgt := 138) dX11_findMeets_128 (by decide) ?_ ?_
            · refine j_aload_n C dX11_findMeets_138 rfl ?_
              refine j_getI C dX11_findMeets_139 fl_RX11_294 h0 (by decide) rfl ?_
              exact H142 v3 (s_108 v0 40) v0 h0 s_108
            · refine j_aload_n C dX11_findMeets_131 rfl ?_
              refine j_getI C dX11_findMeets_132 fl_RX11_291 h0 (by decide) rfl ?_
              refine j_goto C (tgt := 142) dX11_findMeets_135 (by decide) ?_
              exact H142 v3 (s_108 v0 39) v0 h0 s_108
      unfold fX11_findMeets_27
      refine j_iload_n C dX11_findMeets_27 rfl ?_
      refine j_aload_n C dX11_findMeets_28 rfl ?_
      refine j_getR C dX11_findMeets_29 fl_RX11_7 h0 (by decide) rfl rfl (by decide) (fun h_29 => ?_)
      refine j_bipush C (v := (14 : Int32)) dX11_findMeets_32 (by decide) ?_
      refine j_iald C dX11_findMeets_34 h_29 ?_
      refine j_icmp_ge C (tgt := 167) dX11_findMeets_35 (by decide) ?_ ?_
      · refine j_iinc C (v := (1 : Int32)) (Ls' := fun v1_167 => [(1, .int v1_167), (0, .ref (adr M v0)), (2, .int v2)]) dX11_findMeets_167 1 rfl (by decide) (by decide) (fun _ => rfl) (fun v1_167 => ?_)
        refine j_goto C (tgt := 12) dX11_findMeets_170 (by decide) ?_
        refine j_sub (Ls' := [(0, .ref (adr M v0)), (1, .int v1_167)]) [1, 0] rfl ?_
        exact hk12 v1_167 σ
      · refine j_iconst C (v := (0 : Int32)) dX11_findMeets_38 (by decide) ?_
        refine j_istore_n C (Ls' := fun v3_39 => [(3, .int v3_39), (0, .ref (adr M v0)), (1, .int v1), (2, .int v2)]) dX11_findMeets_39 (by decide) (fun _ => rfl) (fun v3_39 => ?_)
        refine j_sub (Ls' := [(0, .ref (adr M v0)), (1, .int v1), (2, .int v2), (3, .int v3_39)]) [1, 2, 3, 0] rfl ?_
        exact H40 v2 FU v3_39 σ
    unfold fX11_findMeets_12
    refine j_iload_n C dX11_findMeets_12 rfl ?_
    refine j_aload_n C dX11_findMeets_13 rfl ?_
    refine j_getR C dX11_findMeets_14 fl_RX11_7 h0 (by decide) rfl rfl (by decide) (fun h_14 => ?_)
    refine j_bipush C (v := (14 : Int32)) dX11_findMeets_17 (by decide) ?_
    refine j_iald C dX11_findMeets_19 h_14 ?_
    refine j_icmp_ge C (tgt := 173) dX11_findMeets_20 (by decide) ?_ ?_
    · exact j_vret C dX11_findMeets_173
    · refine j_iload_n C dX11_findMeets_23 rfl ?_
      refine j_iconst C (v := (1 : Int32)) dX11_findMeets_24 (by decide) ?_
      refine j_iadd C dX11_findMeets_25 ?_
      refine j_istore_n C (Ls' := fun v2_26 => [(2, .int v2_26), (0, .ref (adr M v0)), (1, .int v1)]) dX11_findMeets_26 (by decide) (fun _ => rfl) (fun v2_26 => ?_)
      refine j_sub (Ls' := [(0, .ref (adr M v0)), (1, .int v1), (2, .int v2_26)]) [1, 2, 0] rfl ?_
      exact H27 v1 FU v2_26 σ
  unfold fX11_findMeets
  refine j_aload_n C dX11_findMeets_0 rfl ?_
  refine j_iconst C (v := (0 : Int32)) dX11_findMeets_1 (by decide) ?_
  refine j_put C dX11_findMeets_2 fl_RX11_291 fs_11_39 h0 (by decide) rfl rfl rfl (fun s_2 => ?_)
  refine j_aload_n C dX11_findMeets_5 rfl ?_
  refine j_iconst C (v := (0 : Int32)) dX11_findMeets_6 (by decide) ?_
  refine j_put C dX11_findMeets_7 fl_RX11_294 fs_11_40 h0 (by decide) rfl rfl rfl (fun s_7 => ?_)
  refine j_iconst C (v := (0 : Int32)) dX11_findMeets_10 (by decide) ?_
  refine j_istore_n C (Ls' := fun v1_11 => [(1, .int v1_11), (0, .ref (adr M v0))]) dX11_findMeets_11 (by decide) (fun _ => rfl) (fun v1_11 => ?_)
  refine j_sub (Ls' := [(0, .ref (adr M v0)), (1, .int v1_11)]) [1, 0] rfl ?_
  exact H12 FU v1_11 s_7
set_option maxRecDepth 20000 in
set_option maxHeartbeats 4000000 in
theorem CX11_best (l : Launch) (M : Mc) (hD : Dj M) (v0 : Nat) (h0 : isK v0 11) (v1 : Int32) (σ : Sg) : Ct l M yX11_best cX11_best 2 (some .int) { frames := 8, cells := 0, slots := 0, locals := 182 } vI [.ref (adr M v0), .int v1] σ (fX11_best v0 v1 σ) := by
  refine ct_of (l := l) hD (by decide) (Nat.le_of_ble_eq_true rfl) ?_
  intro p e s m args below meth c C
  unfold fX11_best
  refine j_aload_n C dX11_best_0 rfl ?_
  refine j_callVv C (As := []) dX11_best_1 (CX11_findMeets l M hD v0 h0 σ) vv_RX11_301 h0 (by decide) rfl rfl ⟨rfl, rfl⟩ (by decide) (Nat.le_of_ble_eq_true rfl) ⟨Nat.zero_le _, Nat.zero_le _⟩ (fun r_1 s_1 => ?_)
  refine j_aload_n C dX11_best_4 rfl ?_
  refine j_getI C dX11_best_5 fl_RX11_291 h0 (by decide) rfl ?_
  refine j_if_ne C (tgt := 18) dX11_best_8 (by decide) ?_ ?_
  · refine j_iload_n C dX11_best_18 rfl ?_
    refine j_cases (fun hq19_0 => ?_) (fun hq19_0 => ?_)
    · refine j_tabIn C dX11_best_19 (tgt := 48) hq19_0 (by decide) (by decide) rfl (by decide) ?_
      refine j_aload_n C dX11_best_48 rfl ?_
      refine j_getR C dX11_best_49 fl_RX11_74 h0 (by decide) rfl rfl (by decide) (fun h_49 => ?_)
      refine j_aload_n C dX11_best_52 rfl ?_
      refine j_getI C dX11_best_53 fl_RX11_294 h0 (by decide) rfl ?_
      refine j_iald C dX11_best_56 h_49 ?_
      exact j_iret C dX11_best_57
    · refine j_cases (fun hq19_1 => ?_) (fun hq19_1 => ?_)
      · refine j_tabIn C dX11_best_19 (tgt := 58) hq19_1 (by decide) (by decide) rfl (by decide) ?_
        refine j_aload_n C dX11_best_58 rfl ?_
        refine j_getR C dX11_best_59 fl_RX11_77 h0 (by decide) rfl rfl (by decide) (fun h_59 => ?_)
        refine j_aload_n C dX11_best_62 rfl ?_
        refine j_getI C dX11_best_63 fl_RX11_294 h0 (by decide) rfl ?_
        refine j_iald C dX11_best_66 h_59 ?_
        exact j_iret C dX11_best_67
      · refine j_cases (fun hq19_2 => ?_) (fun hq19_2 => ?_)
        · refine j_tabIn C dX11_best_19 (tgt := 68) hq19_2 (by decide) (by decide) rfl (by decide) ?_
          refine j_aload_n C dX11_best_68 rfl ?_
          refine j_getR C dX11_best_69 fl_RX11_80 h0 (by decide) rfl rfl (by decide) (fun h_69 => ?_)
          refine j_aload_n C dX11_best_72 rfl ?_
          refine j_getI C dX11_best_73 fl_RX11_294 h0 (by decide) rfl ?_
          refine j_iald C dX11_best_76 h_69 ?_
          exact j_iret C dX11_best_77
        · refine j_cases (fun hq19_3 => ?_) (fun hq19_3 => ?_)
          · refine j_tabIn C dX11_best_19 (tgt := 78) hq19_3 (by decide) (by decide) rfl (by decide) ?_
            refine j_aload_n C dX11_best_78 rfl ?_
            refine j_getR C dX11_best_79 fl_RX11_83 h0 (by decide) rfl rfl (by decide) (fun h_79 => ?_)
            refine j_aload_n C dX11_best_82 rfl ?_
            refine j_getI C dX11_best_83 fl_RX11_294 h0 (by decide) rfl ?_
            refine j_iald C dX11_best_86 h_79 ?_
            exact j_iret C dX11_best_87
          · refine j_tabOut C dX11_best_19 (tgt := 88) (by have hq19_0 := i_ne hq19_0; have hq19_1 := i_ne hq19_1; have hq19_2 := i_ne hq19_2; have hq19_3 := i_ne hq19_3; simp only [show ((0 : Int32)).toInt = 0 from rfl, show ((1 : Int32)).toInt = 1 from rfl, show ((2 : Int32)).toInt = 2 from rfl, show ((3 : Int32)).toInt = 3 from rfl] at *; omega) (by decide) ?_
            refine j_aload_n C dX11_best_88 rfl ?_
            refine j_ldc C dX11_best_89 lc_RX11_118 ?_
            refine j_callVI C (As := [.int ((-100001 : Int32))]) dX11_best_91 (CX11_finds l M hD v0 h0 (-100001 : Int32) s_1) vv_RX11_101 h0 (by decide) rfl rfl ⟨rfl, rfl⟩ (by decide) (Nat.le_of_ble_eq_true rfl) ⟨Nat.zero_le _, Nat.zero_le _⟩ (fun r_91 s_91 => ?_)
            exact j_iret C dX11_best_94
  · refine j_aload_n C dX11_best_11 rfl ?_
    refine j_ldc C dX11_best_12 lc_RX11_100 ?_
    refine j_callVI C (As := [.int ((-100006 : Int32))]) dX11_best_14 (CX11_finds l M hD v0 h0 (-100006 : Int32) s_1) vv_RX11_101 h0 (by decide) rfl rfl ⟨rfl, rfl⟩ (by decide) (Nat.le_of_ble_eq_true rfl) ⟨Nat.zero_le _, Nat.zero_le _⟩ (fun r_14 s_14 => ?_)
    exact j_iret C dX11_best_17
set_option maxRecDepth 20000 in
set_option maxHeartbeats 4000000 in
theorem CX11_price (l : Launch) (M : Mc) (hD : Dj M) (v0 : Nat) (h0 : isK v0 11) (v1 : Int32) (v2 : Int32) (v3 : Int32) (σ : Sg) : Ct l M yX11_price cX11_price 4 (some .int) { frames := 7, cells := 0, slots := 0, locals := 159 } vI [.ref (adr M v0), .int v1, .int v2, .int v3] σ (fX11_price v0 v1 v2 v3 σ) := by
  refine ct_of (l := l) hD (by decide) (Nat.le_of_ble_eq_true rfl) ?_
  intro p e s m args below meth c C
  unfold fX11_price
  refine j_aload_n C dX11_price_0 rfl ?_
  refine j_iload_n C dX11_price_1 rfl ?_
  refine j_callVI C (As := [.int v1]) dX11_price_2 (CX11_isTrain l M hD v0 h0 v1 σ) vv_RX11_133 h0 (by decide) rfl rfl ⟨rfl, rfl⟩ (by decide) (Nat.le_of_ble_eq_true rfl) ⟨Nat.zero_le _, Nat.zero_le _⟩ (fun r_2 s_2 => ?_)
  refine j_if_eq C (tgt := 24) dX11_price_5 (by decide) ?_ ?_
  · refine j_aload_n C dX11_price_24 rfl ?_
    refine j_ldc C dX11_price_25 lc_RX11_118 ?_
    refine j_callVI C (As := [.int ((-100001 : Int32))]) dX11_price_27 (CX11_finds l M hD v0 h0 (-100001 : Int32) s_2) vv_RX11_101 h0 (by decide) rfl rfl ⟨rfl, rfl⟩ (by decide) (Nat.le_of_ble_eq_true rfl) ⟨Nat.zero_le _, Nat.zero_le _⟩ (fun r_27 s_27 => ?_)
    exact j_iret C dX11_price_30
  · refine j_aload_n C dX11_price_8 rfl ?_
    refine j_iload_n C dX11_price_9 rfl ?_
    refine j_callVI C (As := [.int v2]) dX11_price_10 (CX11_isTrain l M hD v0 h0 v2 s_2) vv_RX11_133 h0 (by decide) rfl rfl ⟨rfl, rfl⟩ (by decide) (Nat.le_of_ble_eq_true rfl) ⟨Nat.zero_le _, Nat.zero_le _⟩ (fun r_10 s_10 => ?_)
    refine j_if_eq C (tgt := 24) dX11_price_13 (by decide) ?_ ?_
    · refine j_aload_n C dX11_price_24 rfl ?_
      refine j_ldc C dX11_price_25 lc_RX11_118 ?_
      refine j_callVI C (As := [.int ((-100001 : Int32))]) dX11_price_27 (CX11_finds l M hD v0 h0 (-100001 : Int32) s_10) vv_RX11_101 h0 (by decide) rfl rfl ⟨rfl, rfl⟩ (by decide) (Nat.le_of_ble_eq_true rfl) ⟨Nat.zero_le _, Nat.zero_le _⟩ (fun r_27 s_27 => ?_)
      exact j_iret C dX11_price_30
    · refine j_aload_n C dX11_price_16 rfl ?_
      refine j_iload_n C dX11_price_17 rfl ?_
      refine j_callVI C (As := [.int v3]) dX11_price_18 (CX11_isStation l M hD v0 h0 v3 s_10) vv_RX11_127 h0 (by decide) rfl rfl ⟨rfl, rfl⟩ (by decide) (Nat.le_of_ble_eq_true rfl) ⟨Nat.zero_le _, Nat.zero_le _⟩ (fun r_18 s_18 => ?_)
      refine j_if_ne C (tgt := 31) dX11_price_21 (by decide) ?_ ?_
      · refine j_aload_n C dX11_price_31 rfl ?_
        refine j_iload_n C dX11_price_32 rfl ?_
        refine j_callVI C (As := [.int v1]) dX11_price_33 (CX11_wayOf l M hD v0 h0 v1 s_18) vv_RX11_140 h0 (by decide) rfl rfl ⟨rfl, rfl⟩ (by decide) (Nat.le_of_ble_eq_true rfl) ⟨Nat.zero_le _, Nat.zero_le _⟩ (fun r_33 s_33 => ?_)
        refine j_aload_n C dX11_price_36 rfl ?_
        refine j_iload_n C dX11_price_37 rfl ?_
        refine j_callVI C (As := [.int v2]) dX11_price_38 (CX11_wayOf l M hD v0 h0 v2 s_33) vv_RX11_140 h0 (by decide) rfl rfl ⟨rfl, rfl⟩ (by decide) (Nat.le_of_ble_eq_true rfl) ⟨Nat.zero_le _, Nat.zero_le _⟩ (fun r_38 s_38 => ?_)
        refine j_icmp_ne C (tgt := 53) dX11_price_41 (by decide) ?_ ?_
        · refine j_aload_n C dX11_price_53 rfl ?_
          refine j_iload_n C dX11_price_54 rfl ?_
          refine j_iload_n C dX11_price_55 rfl ?_
          refine j_iload_n C dX11_price_56 rfl ?_
          refine j_callVI C (As := [.int v1, .int v2, .int v3]) dX11_price_57 (CX11_priceOf l M hD v0 h0 v1 v2 v3 s_38) vv_RX11_297 h0 (by decide) rfl rfl ⟨rfl, rfl⟩ (by decide) (Nat.le_of_ble_eq_true rfl) ⟨Nat.zero_le _, Nat.zero_le _⟩ (fun r_57 s_57 => ?_)
          exact j_iret C dX11_price_60
        · refine j_aload_n C dX11_price_44 rfl ?_
          refine j_ldc C dX11_price_45 lc_RX11_131 ?_
          refine j_callVI C (As := [.int ((-100003 : Int32))]) dX11_price_47 (CX11_finds l M hD v0 h0 (-100003 : Int32) s_38) vv_RX11_101 h0 (by decide) rfl rfl ⟨rfl, rfl⟩ (by decide) (Nat.le_of_ble_eq_true rfl) ⟨Nat.zero_le _, Nat.zero_le _⟩ (fun r_47 s_47 => ?_)
          refine j_goto C (tgt := 60) dX11_price_50 (by decide) ?_
          exact j_iret C dX11_price_60
      · refine j_aload_n C dX11_price_24 rfl ?_
        refine j_ldc C dX11_price_25 lc_RX11_118 ?_
        refine j_callVI C (As := [.int ((-100001 : Int32))]) dX11_price_27 (CX11_finds l M hD v0 h0 (-100001 : Int32) s_18) vv_RX11_101 h0 (by decide) rfl rfl ⟨rfl, rfl⟩ (by decide) (Nat.le_of_ble_eq_true rfl) ⟨Nat.zero_le _, Nat.zero_le _⟩ (fun r_27 s_27 => ?_)
        exact j_iret C dX11_price_30
set_option maxRecDepth 20000 in
set_option maxHeartbeats 4000000 in
theorem CX11_narrowed (l : Launch) (M : Mc) (hD : Dj M) (v0 : Int32) (v1 : Int32) (σ : Sg) : Ct l M yX11_narrowed cX11_narrowed 2 (some .int) { frames := 0, cells := 0, slots := 0, locals := 0 } vI [.int v0, .int v1] σ (fX11_narrowed v0 v1 σ) := by
  refine ct_of (l := l) hD (by decide) (Nat.le_of_ble_eq_true rfl) ?_
  intro p e s m args below meth c C
  unfold fX11_narrowed
  refine j_iload_n C dX11_narrowed_0 rfl ?_
  refine j_bipush C (v := (8 : Int32)) dX11_narrowed_1 (by decide) ?_
  refine j_icmp_ne C (tgt := 11) dX11_narrowed_3 (by decide) ?_ ?_
  · refine j_iload_n C dX11_narrowed_11 rfl ?_
    refine j_bipush C (v := (16 : Int32)) dX11_narrowed_12 (by decide) ?_
    refine j_icmp_ne C (tgt := 22) dX11_narrowed_14 (by decide) ?_ ?_
    · refine j_iload_n C dX11_narrowed_22 rfl ?_
      exact j_iret C dX11_narrowed_23
    · refine j_iload_n C dX11_narrowed_17 rfl ?_
      refine j_i2s C dX11_narrowed_18 ?_
      refine j_goto C (tgt := 23) dX11_narrowed_19 (by decide) ?_
      exact j_iret C dX11_narrowed_23
  · refine j_iload_n C dX11_narrowed_6 rfl ?_
    refine j_i2b C dX11_narrowed_7 ?_
    refine j_goto C (tgt := 23) dX11_narrowed_8 (by decide) ?_
    exact j_iret C dX11_narrowed_23
set_option maxRecDepth 20000 in
set_option maxHeartbeats 4000000 in
theorem CX11_isSheet (l : Launch) (M : Mc) (hD : Dj M) (v0 : Int32) (σ : Sg) : Ct l M yX11_isSheet cX11_isSheet 1 (some .boolean) { frames := 1, cells := 0, slots := 0, locals := 22 } vI [.int v0] σ (fX11_isSheet v0 σ) := by
  refine ct_of (l := l) hD (by decide) (Nat.le_of_ble_eq_true rfl) ?_
  intro p e s m args below meth c C
  unfold fX11_isSheet
  refine j_iload_n C dX11_isSheet_0 rfl ?_
  refine j_iconst C (v := (0 : Int32)) dX11_isSheet_1 (by decide) ?_
  refine j_iconst C (v := (3 : Int32)) dX11_isSheet_2 (by decide) ?_
  refine j_callSI C (As := [.int v0, .int ((0 : Int32)), .int ((3 : Int32))]) dX11_isSheet_3 (CX11_in l M hD v0 (0 : Int32) (3 : Int32) σ) vs_RX11_108 rfl rfl ⟨rfl, rfl⟩ (by decide) (Nat.le_of_ble_eq_true rfl) ⟨Nat.zero_le _, Nat.zero_le _⟩ (fun r_3 s_3 => ?_)
  exact j_zret C dX11_isSheet_6
set_option maxRecDepth 20000 in
set_option maxHeartbeats 4000000 in
theorem CX11_proves (l : Launch) (M : Mc) (hD : Dj M) (v0 : Nat) (h0 : isK v0 11) (v1 : Int32) (v2 : Int32) (v3 : Int32) (v4 : Int32) (σ : Sg) : Ct l M yX11_proves cX11_proves 8 (some .int) { frames := 8, cells := 0, slots := 0, locals := 182 } vI [.ref (adr M v0), .int v1, .int v2, .int v3, .int v4] σ (fX11_proves v0 v1 v2 v3 v4 σ) := by
  refine ct_of (l := l) hD (by decide) (Nat.le_of_ble_eq_true rfl) ?_
  intro p e s m args below meth c C
  have H175 : ∀  (n : Nat) (v7 : Int32) (τ : Sg), J p l e { frames := 8, cells := 0, slots := 0, locals := 182 } s m args below meth c M 8 vI τ 175 [(0, .ref (adr M v0)), (4, .int v4), (7, .int v7)] [] (lq1 (fX11_proves_175 v0 v4) n v7 τ) := by
    refine j_lq1 (Ls := fun v7 => [(0, .ref (adr M v0)), (4, .int v4), (7, .int v7)]) (st := fun _ => []) ?_
    intro k175 hk175 v7 σ
    unfold fX11_proves_175
    refine j_iload C dX11_proves_175 rfl ?_
    refine j_aload_n C dX11_proves_177 rfl ?_
    refine j_getI C dX11_proves_178 fl_RX11_291 h0 (by decide) rfl ?_
    refine j_icmp_ge C (tgt := 226) dX11_proves_181 (by decide) ?_ ?_
    · refine j_iconst C (v := (-1 : Int32)) dX11_proves_226 (by decide) ?_
      exact j_iret C dX11_proves_227
    · refine j_aload_n C dX11_proves_184 rfl ?_
      refine j_getR C dX11_proves_185 fl_RX11_22 h0 (by decide) rfl rfl (by decide) (fun h_185 => ?_)
      refine j_bipush C (v := (60 : Int32)) dX11_proves_188 (by decide) ?_
      refine j_iload C dX11_proves_190 rfl ?_
      refine j_imul C dX11_proves_192 ?_
      refine j_iload C dX11_proves_193 rfl ?_
      refine j_iadd C dX11_proves_195 ?_
      refine j_iald C dX11_proves_196 h_185 ?_
      refine j_aload_n C dX11_proves_197 rfl ?_
      refine j_getR C dX11_proves_198 fl_RX11_16 h0 (by decide) rfl rfl (by decide) (fun h_198 => ?_)
      refine j_iload C dX11_proves_201 rfl ?_
      refine j_iald C dX11_proves_203 h_198 ?_
      refine j_aload_n C dX11_proves_204 rfl ?_
      refine j_getR C dX11_proves_205 fl_RX11_83 h0 (by decide) rfl rfl (by decide) (fun h_205 => ?_)
      refine j_iload C dX11_proves_208 rfl ?_
      refine j_iald C dX11_proves_210 h_205 ?_
      refine j_callSI C (As := [.int ((σ (rf v0 5) (v4).toNatClampNeg)), .int ((σ (rf v0 38) (v7).toNatClampNeg))]) dX11_proves_211 (CX11_narrowed l M hD (σ (rf v0 5) (v4).toNatClampNeg) (σ (rf v0 38) (v7).toNatClampNeg) σ) vs_RX11_308 rfl rfl ⟨rfl, rfl⟩ (by decide) (Nat.le_of_ble_eq_true rfl) ⟨Nat.zero_le _, Nat.zero_le _⟩ (fun r_211 s_211 => ?_)
      refine j_icmp_eq C (tgt := 220) dX11_proves_214 (by decide) ?_ ?_
      · refine j_iinc C (v := (1 : Int32)) (Ls' := fun v7_220 => [(7, .int v7_220), (0, .ref (adr M v0)), (4, .int v4)]) dX11_proves_220 2 rfl (by decide) (by decide) (fun _ => rfl) (fun v7_220 => ?_)
        refine j_goto C (tgt := 175) dX11_proves_223 (by decide) ?_
        refine j_sub (Ls' := [(0, .ref (adr M v0)), (4, .int v4), (7, .int v7_220)]) [1, 2, 0] rfl ?_
        exact hk175 v7_220 s_211
      · refine j_iload C dX11_proves_217 rfl ?_
        exact j_iret C dX11_proves_219
  have H103 : ∀ (v5 : Int32) (w0 : Int32) (τ : Sg), J p l e { frames := 8, cells := 0, slots := 0, locals := 182 } s m args below meth c M 8 vI τ 103 [(0, .ref (adr M v0)), (3, .int v3), (4, .int v4), (5, .int v5)] [.int w0] (fX11_proves_103 v0 v3 v4 v5 w0 τ) := by
    intro v5 w0 σ
    unfold fX11_proves_103
    refine j_istore C (Ls' := fun v6_103 => [(6, .int v6_103), (0, .ref (adr M v0)), (3, .int v3), (4, .int v4), (5, .int v5)]) dX11_proves_103 (by decide) (fun _ => rfl) (fun v6_103 => ?_)
    refine j_aload_n C dX11_proves_105 rfl ?_
    refine j_getR C dX11_proves_106 fl_RX11_74 h0 (by decide) rfl rfl (by decide) (fun h_106 => ?_)
    refine j_aload_n C dX11_proves_109 rfl ?_
    refine j_getI C dX11_proves_110 fl_RX11_294 h0 (by decide) rfl ?_
    refine j_iald C dX11_proves_113 h_106 ?_
    refine j_iload C dX11_proves_114 rfl ?_
    refine j_icmp_ne C (tgt := 146) dX11_proves_116 (by decide) ?_ ?_
    · refine j_aload_n C dX11_proves_146 rfl ?_
      refine j_ldc C dX11_proves_147 lc_RX11_139 ?_
      refine j_callVI C (As := [.int ((-100004 : Int32))]) dX11_proves_149 (CX11_finds l M hD v0 h0 (-100004 : Int32) σ) vv_RX11_101 h0 (by decide) rfl rfl ⟨rfl, rfl⟩ (by decide) (Nat.le_of_ble_eq_true rfl) ⟨Nat.zero_le _, Nat.zero_le _⟩ (fun r_149 s_149 => ?_)
      exact j_iret C dX11_proves_152
    · refine j_aload_n C dX11_proves_119 rfl ?_
      refine j_getR C dX11_proves_120 fl_RX11_77 h0 (by decide) rfl rfl (by decide) (fun h_120 => ?_)
      refine j_aload_n C dX11_proves_123 rfl ?_
      refine j_getI C dX11_proves_124 fl_RX11_294 h0 (by decide) rfl ?_
      refine j_iald C dX11_proves_127 h_120 ?_
      refine j_iload C dX11_proves_128 rfl ?_
      refine j_icmp_ne C (tgt := 146) dX11_proves_130 (by decide) ?_ ?_
      · refine j_aload_n C dX11_proves_146 rfl ?_
        refine j_ldc C dX11_proves_147 lc_RX11_139 ?_
        refine j_callVI C (As := [.int ((-100004 : Int32))]) dX11_proves_149 (CX11_finds l M hD v0 h0 (-100004 : Int32) σ) vv_RX11_101 h0 (by decide) rfl rfl ⟨rfl, rfl⟩ (by decide) (Nat.le_of_ble_eq_true rfl) ⟨Nat.zero_le _, Nat.zero_le _⟩ (fun r_149 s_149 => ?_)
        exact j_iret C dX11_proves_152
      · refine j_aload_n C dX11_proves_133 rfl ?_
        refine j_getR C dX11_proves_134 fl_RX11_80 h0 (by decide) rfl rfl (by decide) (fun h_134 => ?_)
        refine j_aload_n C dX11_proves_137 rfl ?_
        refine j_getI C dX11_proves_138 fl_RX11_294 h0 (by decide) rfl ?_
        refine j_iald C dX11_proves_141 h_134 ?_
        refine j_iload_n C dX11_proves_142 rfl ?_
        refine j_icmp_eq C (tgt := 153) dX11_proves_143 (by decide) ?_ ?_
        · refine j_aload_n C dX11_proves_153 rfl ?_
          refine j_getR C dX11_proves_154 fl_RX11_19 h0 (by decide) rfl rfl (by decide) (fun h_154 => ?_)
          refine j_iload C dX11_proves_157 rfl ?_
          refine j_iald C dX11_proves_159 h_154 ?_
          refine j_aload_n C dX11_proves_160 rfl ?_
          refine j_getI C dX11_proves_161 fl_RX11_291 h0 (by decide) rfl ?_
          refine j_icmp_eq C (tgt := 172) dX11_proves_164 (by decide) ?_ ?_
          · refine j_iconst C (v := (0 : Int32)) dX11_proves_172 (by decide) ?_
            refine j_istore C (Ls' := fun v7_173 => [(7, .int v7_173), (6, .int v6_103), (0, .ref (adr M v0)), (3, .int v3), (4, .int v4), (5, .int v5)]) dX11_proves_173 (by decide) (fun _ => rfl) (fun v7_173 => ?_)
            refine j_sub (Ls' := [(0, .ref (adr M v0)), (4, .int v4), (7, .int v7_173)]) [2, 4, 0] rfl ?_
            exact H175 FU v7_173 σ
          · refine j_aload_n C dX11_proves_167 rfl ?_
            refine j_getI C dX11_proves_168 fl_RX11_291 h0 (by decide) rfl ?_
            exact j_iret C dX11_proves_171
        · refine j_aload_n C dX11_proves_146 rfl ?_
          refine j_ldc C dX11_proves_147 lc_RX11_139 ?_
          refine j_callVI C (As := [.int ((-100004 : Int32))]) dX11_proves_149 (CX11_finds l M hD v0 h0 (-100004 : Int32) σ) vv_RX11_101 h0 (by decide) rfl rfl ⟨rfl, rfl⟩ (by decide) (Nat.le_of_ble_eq_true rfl) ⟨Nat.zero_le _, Nat.zero_le _⟩ (fun r_149 s_149 => ?_)
          exact j_iret C dX11_proves_152
  have H91 : ∀ (w0 : Int32) (τ : Sg), J p l e { frames := 8, cells := 0, slots := 0, locals := 182 } s m args below meth c M 8 vI τ 91 [(0, .ref (adr M v0)), (1, .int v1), (2, .int v2), (3, .int v3), (4, .int v4)] [.int w0] (fX11_proves_91 v0 v1 v2 v3 v4 w0 τ) := by
    intro w0 σ
    unfold fX11_proves_91
    refine j_istore C (Ls' := fun v5_91 => [(5, .int v5_91), (0, .ref (adr M v0)), (1, .int v1), (2, .int v2), (3, .int v3), (4, .int v4)]) dX11_proves_91 (by decide) (fun _ => rfl) (fun v5_91 => ?_)
    refine j_iload_n C dX11_proves_93 rfl ?_
    refine j_iload_n C dX11_proves_94 rfl ?_
    refine j_icmp_ge C (tgt := 102) dX11_proves_95 (by decide) ?_ ?_
    · refine j_iload_n C dX11_proves_102 rfl ?_
      refine j_sub (Ls' := [(0, .ref (adr M v0)), (3, .int v3), (4, .int v4), (5, .int v5_91)]) [1, 4, 5, 0] rfl ?_
      exact H103 v5_91 v1 σ
    · refine j_iload_n C dX11_proves_98 rfl ?_
      refine j_goto C (tgt := 103) dX11_proves_99 (by decide) ?_
      refine j_sub (Ls' := [(0, .ref (adr M v0)), (3, .int v3), (4, .int v4), (5, .int v5_91)]) [1, 4, 5, 0] rfl ?_
      exact H103 v5_91 v2 σ
  unfold fX11_proves
  refine j_aload_n C dX11_proves_0 rfl ?_
  refine j_iload_n C dX11_proves_1 rfl ?_
  refine j_callVI C (As := [.int v1]) dX11_proves_2 (CX11_isTrain l M hD v0 h0 v1 σ) vv_RX11_133 h0 (by decide) rfl rfl ⟨rfl, rfl⟩ (by decide) (Nat.le_of_ble_eq_true rfl) ⟨Nat.zero_le _, Nat.zero_le _⟩ (fun r_2 s_2 => ?_)
  refine j_if_eq C (tgt := 32) dX11_proves_5 (by decide) ?_ ?_
  · refine j_aload_n C dX11_proves_32 rfl ?_
    refine j_ldc C dX11_proves_33 lc_RX11_118 ?_
    refine j_callVI C (As := [.int ((-100001 : Int32))]) dX11_proves_35 (CX11_finds l M hD v0 h0 (-100001 : Int32) s_2) vv_RX11_101 h0 (by decide) rfl rfl ⟨rfl, rfl⟩ (by decide) (Nat.le_of_ble_eq_true rfl) ⟨Nat.zero_le _, Nat.zero_le _⟩ (fun r_35 s_35 => ?_)
    exact j_iret C dX11_proves_38
  · refine j_aload_n C dX11_proves_8 rfl ?_
    refine j_iload_n C dX11_proves_9 rfl ?_
    refine j_callVI C (As := [.int v2]) dX11_proves_10 (CX11_isTrain l M hD v0 h0 v2 s_2) vv_RX11_133 h0 (by decide) rfl rfl ⟨rfl, rfl⟩ (by decide) (Nat.le_of_ble_eq_true rfl) ⟨Nat.zero_le _, Nat.zero_le _⟩ (fun r_10 s_10 => ?_)
    refine j_if_eq C (tgt := 32) dX11_proves_13 (by decide) ?_ ?_
    · refine j_aload_n C dX11_proves_32 rfl ?_
      refine j_ldc C dX11_proves_33 lc_RX11_118 ?_
      refine j_callVI C (As := [.int ((-100001 : Int32))]) dX11_proves_35 (CX11_finds l M hD v0 h0 (-100001 : Int32) s_10) vv_RX11_101 h0 (by decide) rfl rfl ⟨rfl, rfl⟩ (by decide) (Nat.le_of_ble_eq_true rfl) ⟨Nat.zero_le _, Nat.zero_le _⟩ (fun r_35 s_35 => ?_)
      exact j_iret C dX11_proves_38
    · refine j_aload_n C dX11_proves_16 rfl ?_
      refine j_iload_n C dX11_proves_17 rfl ?_
      refine j_callVI C (As := [.int v3]) dX11_proves_18 (CX11_isStation l M hD v0 h0 v3 s_10) vv_RX11_127 h0 (by decide) rfl rfl ⟨rfl, rfl⟩ (by decide) (Nat.le_of_ble_eq_true rfl) ⟨Nat.zero_le _, Nat.zero_le _⟩ (fun r_18 s_18 => ?_)
      refine j_if_eq C (tgt := 32) dX11_proves_21 (by decide) ?_ ?_
      · refine j_aload_n C dX11_proves_32 rfl ?_
        refine j_ldc C dX11_proves_33 lc_RX11_118 ?_
        refine j_callVI C (As := [.int ((-100001 : Int32))]) dX11_proves_35 (CX11_finds l M hD v0 h0 (-100001 : Int32) s_18) vv_RX11_101 h0 (by decide) rfl rfl ⟨rfl, rfl⟩ (by decide) (Nat.le_of_ble_eq_true rfl) ⟨Nat.zero_le _, Nat.zero_le _⟩ (fun r_35 s_35 => ?_)
        exact j_iret C dX11_proves_38
      · refine j_iload C dX11_proves_24 rfl ?_
        refine j_callSI C (As := [.int v4]) dX11_proves_26 (CX11_isSheet l M hD v4 s_18) vs_RX11_304 rfl rfl ⟨rfl, rfl⟩ (by decide) (Nat.le_of_ble_eq_true rfl) ⟨Nat.zero_le _, Nat.zero_le _⟩ (fun r_26 s_26 => ?_)
        refine j_if_ne C (tgt := 39) dX11_proves_29 (by decide) ?_ ?_
        · refine j_aload_n C dX11_proves_39 rfl ?_
          refine j_iload_n C dX11_proves_40 rfl ?_
          refine j_callVI C (As := [.int v1]) dX11_proves_41 (CX11_wayOf l M hD v0 h0 v1 s_26) vv_RX11_140 h0 (by decide) rfl rfl ⟨rfl, rfl⟩ (by decide) (Nat.le_of_ble_eq_true rfl) ⟨Nat.zero_le _, Nat.zero_le _⟩ (fun r_41 s_41 => ?_)
          refine j_aload_n C dX11_proves_44 rfl ?_
          refine j_iload_n C dX11_proves_45 rfl ?_
          refine j_callVI C (As := [.int v2]) dX11_proves_46 (CX11_wayOf l M hD v0 h0 v2 s_41) vv_RX11_140 h0 (by decide) rfl rfl ⟨rfl, rfl⟩ (by decide) (Nat.le_of_ble_eq_true rfl) ⟨Nat.zero_le _, Nat.zero_le _⟩ (fun r_46 s_46 => ?_)
          refine j_icmp_ne C (tgt := 59) dX11_proves_49 (by decide) ?_ ?_
          · refine j_aload_n C dX11_proves_59 rfl ?_
            refine j_getR C dX11_proves_60 fl_RX11_16 h0 (by decide) rfl rfl (by decide) (fun h_60 => ?_)
            refine j_iload C dX11_proves_63 rfl ?_
            refine j_iald C dX11_proves_65 h_60 ?_
            refine j_if_ne C (tgt := 77) dX11_proves_66 (by decide) ?_ ?_
            · refine j_aload_n C dX11_proves_77 rfl ?_
              refine j_callVv C (As := []) dX11_proves_78 (CX11_findMeets l M hD v0 h0 s_46) vv_RX11_301 h0 (by decide) rfl rfl ⟨rfl, rfl⟩ (by decide) (Nat.le_of_ble_eq_true rfl) ⟨Nat.zero_le _, Nat.zero_le _⟩ (fun r_78 s_78 => ?_)
              refine j_iload_n C dX11_proves_81 rfl ?_
              refine j_iload_n C dX11_proves_82 rfl ?_
              refine j_icmp_ge C (tgt := 90) dX11_proves_83 (by decide) ?_ ?_
              · refine j_iload_n C dX11_proves_90 rfl ?_
                exact H91 v2 s_78
              · refine j_iload_n C dX11_proves_86 rfl ?_
                refine j_goto C (tgt := 91) dX11_proves_87 (by decide) ?_
                exact H91 v1 s_78
            · refine j_aload_n C dX11_proves_69 rfl ?_
              refine j_ldcw C dX11_proves_70 lc_RX11_307 ?_
              refine j_callVI C (As := [.int ((-100002 : Int32))]) dX11_proves_73 (CX11_finds l M hD v0 h0 (-100002 : Int32) s_46) vv_RX11_101 h0 (by decide) rfl rfl ⟨rfl, rfl⟩ (by decide) (Nat.le_of_ble_eq_true rfl) ⟨Nat.zero_le _, Nat.zero_le _⟩ (fun r_73 s_73 => ?_)
              exact j_iret C dX11_proves_76
          · refine j_aload_n C dX11_proves_52 rfl ?_
            refine j_ldc C dX11_proves_53 lc_RX11_131 ?_
            refine j_callVI C (As := [.int ((-100003 : Int32))]) dX11_proves_55 (CX11_finds l M hD v0 h0 (-100003 : Int32) s_46) vv_RX11_101 h0 (by decide) rfl rfl ⟨rfl, rfl⟩ (by decide) (Nat.le_of_ble_eq_true rfl) ⟨Nat.zero_le _, Nat.zero_le _⟩ (fun r_55 s_55 => ?_)
            exact j_iret C dX11_proves_58
        · refine j_aload_n C dX11_proves_32 rfl ?_
          refine j_ldc C dX11_proves_33 lc_RX11_118 ?_
          refine j_callVI C (As := [.int ((-100001 : Int32))]) dX11_proves_35 (CX11_finds l M hD v0 h0 (-100001 : Int32) s_26) vv_RX11_101 h0 (by decide) rfl rfl ⟨rfl, rfl⟩ (by decide) (Nat.le_of_ble_eq_true rfl) ⟨Nat.zero_le _, Nat.zero_le _⟩ (fun r_35 s_35 => ?_)
          exact j_iret C dX11_proves_38
