set_option maxRecDepth 20000 in
set_option maxHeartbeats 4000000 in
theorem CX11_sheet (l : Launch) (M : Mc) (hD : Dj M) (v0 : Nat) (h0 : isK v0 11) (v1 : Int32) (v2 : Int32) (v3 : Int32) (σ : Sg) : Ct l M yX11_sheet cX11_sheet 5 (some .int) { frames := 2, cells := 0, slots := 0, locals := 42 } vI [.ref (adr M v0), .int v1, .int v2, .int v3] σ (fX11_sheet v0 v1 v2 v3 σ) := by
  refine ct_of (l := l) hD (by decide) (Nat.le_of_ble_eq_true rfl) ?_
  intro p e s m args below meth c C
  have H85 : ∀  (n : Nat) (v4 : Int32) (τ : Sg), J p l e { frames := 2, cells := 0, slots := 0, locals := 42 } s m args below meth c M 5 vI τ 85 [(0, .ref (adr M v0)), (1, .int v1), (4, .int v4)] [] (lq1 (fX11_sheet_85 v0 v1) n v4 τ) := by
    refine j_lq1 (Ls := fun v4 => [(0, .ref (adr M v0)), (1, .int v1), (4, .int v4)]) (st := fun _ => []) ?_
    intro k85 hk85 v4 σ
    unfold fX11_sheet_85
    refine j_iload C dX11_sheet_85 rfl ?_
    refine j_bipush C (v := (60 : Int32)) dX11_sheet_87 (by decide) ?_
    refine j_icmp_ge C (tgt := 111) dX11_sheet_89 (by decide) ?_ ?_
    · refine j_aload_n C dX11_sheet_111 rfl ?_
      refine j_getR C dX11_sheet_112 fl_RX11_19 h0 (by decide) rfl rfl (by decide) (fun h_112 => ?_)
      refine j_iload_n C dX11_sheet_115 rfl ?_
      refine j_iald C dX11_sheet_116 h_112 ?_
      exact j_iret C dX11_sheet_117
    · refine j_aload_n C dX11_sheet_92 rfl ?_
      refine j_getR C dX11_sheet_93 fl_RX11_22 h0 (by decide) rfl rfl (by decide) (fun h_93 => ?_)
      refine j_bipush C (v := (60 : Int32)) dX11_sheet_96 (by decide) ?_
      refine j_iload_n C dX11_sheet_98 rfl ?_
      refine j_imul C dX11_sheet_99 ?_
      refine j_iload C dX11_sheet_100 rfl ?_
      refine j_iadd C dX11_sheet_102 ?_
      refine j_iconst C (v := (0 : Int32)) dX11_sheet_103 (by decide) ?_
      refine j_iast C dX11_sheet_104 h_93 (fun s_104 => ?_)
      refine j_iinc C (v := (1 : Int32)) (Ls' := fun v4_105 => [(4, .int v4_105), (0, .ref (adr M v0)), (1, .int v1)]) dX11_sheet_105 2 rfl (by decide) (by decide) (fun _ => rfl) (fun v4_105 => ?_)
      refine j_goto C (tgt := 85) dX11_sheet_108 (by decide) ?_
      refine j_sub (Ls' := [(0, .ref (adr M v0)), (1, .int v1), (4, .int v4_105)]) [1, 2, 0] rfl ?_
      exact hk85 v4_105 s_104
  have H81 : ∀ (w0 : Int32) (w1 : Int32) (w2 : Nat) (hw2 : isK w2 13) (τ : Sg), J p l e { frames := 2, cells := 0, slots := 0, locals := 42 } s m args below meth c M 5 vI τ 81 [(0, .ref (adr M v0)), (1, .int v1)] [.int w0, .int w1, .ref (adr M w2)] (fX11_sheet_81 v0 v1 w0 w1 w2 τ) := by
    intro w0 w1 w2 hw2 σ
    unfold fX11_sheet_81
    refine j_iast C dX11_sheet_81 hw2 (fun s_81 => ?_)
    refine j_iconst C (v := (0 : Int32)) dX11_sheet_82 (by decide) ?_
    refine j_istore C (Ls' := fun v4_83 => [(4, .int v4_83), (0, .ref (adr M v0)), (1, .int v1)]) dX11_sheet_83 (by decide) (fun _ => rfl) (fun v4_83 => ?_)
    refine j_sub (Ls' := [(0, .ref (adr M v0)), (1, .int v1), (4, .int v4_83)]) [1, 2, 0] rfl ?_
    exact H85 FU v4_83 s_81
  have H36 : ∀  (τ : Sg), J p l e { frames := 2, cells := 0, slots := 0, locals := 42 } s m args below meth c M 5 vI τ 36 [(0, .ref (adr M v0)), (1, .int v1), (2, .int v2), (3, .int v3)] [] (fX11_sheet_36 v0 v1 v2 v3 τ) := by
    intro  σ
    unfold fX11_sheet_36
    refine j_iload_n C dX11_sheet_36 rfl ?_
    refine j_if_ge C (tgt := 47) dX11_sheet_37 (by decide) ?_ ?_
    · refine j_iload_n C dX11_sheet_47 rfl ?_
      refine j_bipush C (v := (60 : Int32)) dX11_sheet_48 (by decide) ?_
      refine j_icmp_le C (tgt := 60) dX11_sheet_50 (by decide) ?_ ?_
      · refine j_aload_n C dX11_sheet_60 rfl ?_
        refine j_getR C dX11_sheet_61 fl_RX11_16 h0 (by decide) rfl rfl (by decide) (fun h_61 => ?_)
        refine j_iload_n C dX11_sheet_64 rfl ?_
        refine j_iload_n C dX11_sheet_65 rfl ?_
        refine j_iast C dX11_sheet_66 h_61 (fun s_66 => ?_)
        refine j_aload_n C dX11_sheet_67 rfl ?_
        refine j_getR C dX11_sheet_68 fl_RX11_19 h0 (by decide) rfl rfl (by decide) (fun h_68 => ?_)
        refine j_iload_n C dX11_sheet_71 rfl ?_
        refine j_iload_n C dX11_sheet_72 rfl ?_
        refine j_if_ne C (tgt := 80) dX11_sheet_73 (by decide) ?_ ?_
        · refine j_iload_n C dX11_sheet_80 rfl ?_
          refine j_sub (Ls' := [(0, .ref (adr M v0)), (1, .int v1)]) [0, 1] rfl ?_
          exact H81 v3 v1 (rf v0 6) h_68 s_66
        · refine j_iconst C (v := (0 : Int32)) dX11_sheet_76 (by decide) ?_
          refine j_goto C (tgt := 81) dX11_sheet_77 (by decide) ?_
          refine j_sub (Ls' := [(0, .ref (adr M v0)), (1, .int v1)]) [0, 1] rfl ?_
          exact H81 (0 : Int32) v1 (rf v0 6) h_68 s_66
      · refine j_aload_n C dX11_sheet_53 rfl ?_
        refine j_ldc C dX11_sheet_54 lc_RX11_118 ?_
        refine j_callVI C (As := [.int ((-100001 : Int32))]) dX11_sheet_56 (CX11_finds l M hD v0 h0 (-100001 : Int32) σ) vv_RX11_101 h0 (by decide) rfl rfl ⟨rfl, rfl⟩ (by decide) (Nat.le_of_ble_eq_true rfl) ⟨Nat.zero_le _, Nat.zero_le _⟩ (fun r_56 s_56 => ?_)
        exact j_iret C dX11_sheet_59
    · refine j_aload_n C dX11_sheet_40 rfl ?_
      refine j_ldc C dX11_sheet_41 lc_RX11_131 ?_
      refine j_callVI C (As := [.int ((-100003 : Int32))]) dX11_sheet_43 (CX11_finds l M hD v0 h0 (-100003 : Int32) σ) vv_RX11_101 h0 (by decide) rfl rfl ⟨rfl, rfl⟩ (by decide) (Nat.le_of_ble_eq_true rfl) ⟨Nat.zero_le _, Nat.zero_le _⟩ (fun r_43 s_43 => ?_)
      exact j_iret C dX11_sheet_46
  unfold fX11_sheet
  refine j_iload_n C dX11_sheet_0 rfl ?_
  refine j_callSI C (As := [.int v1]) dX11_sheet_1 (CX11_isSheet l M hD v1 σ) vs_RX11_304 rfl rfl ⟨rfl, rfl⟩ (by decide) (Nat.le_of_ble_eq_true rfl) ⟨Nat.zero_le _, Nat.zero_le _⟩ (fun r_1 s_1 => ?_)
  refine j_if_eq C (tgt := 29) dX11_sheet_4 (by decide) ?_ ?_
  · refine j_aload_n C dX11_sheet_29 rfl ?_
    refine j_ldc C dX11_sheet_30 lc_RX11_118 ?_
    refine j_callVI C (As := [.int ((-100001 : Int32))]) dX11_sheet_32 (CX11_finds l M hD v0 h0 (-100001 : Int32) s_1) vv_RX11_101 h0 (by decide) rfl rfl ⟨rfl, rfl⟩ (by decide) (Nat.le_of_ble_eq_true rfl) ⟨Nat.zero_le _, Nat.zero_le _⟩ (fun r_32 s_32 => ?_)
    exact j_iret C dX11_sheet_35
  · refine j_iload_n C dX11_sheet_7 rfl ?_
    refine j_if_eq C (tgt := 36) dX11_sheet_8 (by decide) ?_ ?_
    · exact H36 s_1
    · refine j_iload_n C dX11_sheet_11 rfl ?_
      refine j_bipush C (v := (8 : Int32)) dX11_sheet_12 (by decide) ?_
      refine j_icmp_eq C (tgt := 36) dX11_sheet_14 (by decide) ?_ ?_
      · exact H36 s_1
      · refine j_iload_n C dX11_sheet_17 rfl ?_
        refine j_bipush C (v := (16 : Int32)) dX11_sheet_18 (by decide) ?_
        refine j_icmp_eq C (tgt := 36) dX11_sheet_20 (by decide) ?_ ?_
        · exact H36 s_1
        · refine j_iload_n C dX11_sheet_23 rfl ?_
          refine j_bipush C (v := (32 : Int32)) dX11_sheet_24 (by decide) ?_
          refine j_icmp_eq C (tgt := 36) dX11_sheet_26 (by decide) ?_ ?_
          · exact H36 s_1
          · refine j_aload_n C dX11_sheet_29 rfl ?_
            refine j_ldc C dX11_sheet_30 lc_RX11_118 ?_
            refine j_callVI C (As := [.int ((-100001 : Int32))]) dX11_sheet_32 (CX11_finds l M hD v0 h0 (-100001 : Int32) s_1) vv_RX11_101 h0 (by decide) rfl rfl ⟨rfl, rfl⟩ (by decide) (Nat.le_of_ble_eq_true rfl) ⟨Nat.zero_le _, Nat.zero_le _⟩ (fun r_32 s_32 => ?_)
            exact j_iret C dX11_sheet_35
set_option maxRecDepth 20000 in
set_option maxHeartbeats 4000000 in
theorem CX11_put (l : Launch) (M : Mc) (hD : Dj M) (v0 : Nat) (h0 : isK v0 11) (v1 : Int32) (v2 : Int32) (v3 : Int32) (σ : Sg) : Ct l M yX11_put cX11_put 4 (some .int) { frames := 2, cells := 0, slots := 0, locals := 42 } vI [.ref (adr M v0), .int v1, .int v2, .int v3] σ (fX11_put v0 v1 v2 v3 σ) := by
  refine ct_of (l := l) hD (by decide) (Nat.le_of_ble_eq_true rfl) ?_
  intro p e s m args below meth c C
  unfold fX11_put
  refine j_iload_n C dX11_put_0 rfl ?_
  refine j_callSI C (As := [.int v1]) dX11_put_1 (CX11_isSheet l M hD v1 σ) vs_RX11_304 rfl rfl ⟨rfl, rfl⟩ (by decide) (Nat.le_of_ble_eq_true rfl) ⟨Nat.zero_le _, Nat.zero_le _⟩ (fun r_1 s_1 => ?_)
  refine j_if_ne C (tgt := 14) dX11_put_4 (by decide) ?_ ?_
  · refine j_aload_n C dX11_put_14 rfl ?_
    refine j_getR C dX11_put_15 fl_RX11_16 h0 (by decide) rfl rfl (by decide) (fun h_15 => ?_)
    refine j_iload_n C dX11_put_18 rfl ?_
    refine j_iald C dX11_put_19 h_15 ?_
    refine j_if_ne C (tgt := 31) dX11_put_20 (by decide) ?_ ?_
    · refine j_iload_n C dX11_put_31 rfl ?_
      refine j_iconst C (v := (0 : Int32)) dX11_put_32 (by decide) ?_
      refine j_aload_n C dX11_put_33 rfl ?_
      refine j_getR C dX11_put_34 fl_RX11_19 h0 (by decide) rfl rfl (by decide) (fun h_34 => ?_)
      refine j_iload_n C dX11_put_37 rfl ?_
      refine j_iald C dX11_put_38 h_34 ?_
      refine j_iconst C (v := (1 : Int32)) dX11_put_39 (by decide) ?_
      refine j_isub C dX11_put_40 ?_
      refine j_callSI C (As := [.int v2, .int ((0 : Int32)), .int (((s_1 (rf v0 6) (v1).toNatClampNeg) - (1 : Int32)))]) dX11_put_41 (CX11_in l M hD v2 (0 : Int32) ((s_1 (rf v0 6) (v1).toNatClampNeg) - (1 : Int32)) s_1) vs_RX11_108 rfl rfl ⟨rfl, rfl⟩ (by decide) (Nat.le_of_ble_eq_true rfl) ⟨Nat.zero_le _, Nat.zero_le _⟩ (fun r_41 s_41 => ?_)
      refine j_if_ne C (tgt := 54) dX11_put_44 (by decide) ?_ ?_
      · refine j_aload_n C dX11_put_54 rfl ?_
        refine j_getR C dX11_put_55 fl_RX11_22 h0 (by decide) rfl rfl (by decide) (fun h_55 => ?_)
        refine j_bipush C (v := (60 : Int32)) dX11_put_58 (by decide) ?_
        refine j_iload_n C dX11_put_60 rfl ?_
        refine j_imul C dX11_put_61 ?_
        refine j_iload_n C dX11_put_62 rfl ?_
        refine j_iadd C dX11_put_63 ?_
        refine j_aload_n C dX11_put_64 rfl ?_
        refine j_getR C dX11_put_65 fl_RX11_16 h0 (by decide) rfl rfl (by decide) (fun h_65 => ?_)
        refine j_iload_n C dX11_put_68 rfl ?_
        refine j_iald C dX11_put_69 h_65 ?_
        refine j_iload_n C dX11_put_70 rfl ?_
        refine j_callSI C (As := [.int ((s_41 (rf v0 5) (v1).toNatClampNeg)), .int v3]) dX11_put_71 (CX11_narrowed l M hD (s_41 (rf v0 5) (v1).toNatClampNeg) v3 s_41) vs_RX11_308 rfl rfl ⟨rfl, rfl⟩ (by decide) (Nat.le_of_ble_eq_true rfl) ⟨Nat.zero_le _, Nat.zero_le _⟩ (fun r_71 s_71 => ?_)
        refine j_iast C dX11_put_74 h_55 (fun s_74 => ?_)
        refine j_iconst C (v := (0 : Int32)) dX11_put_75 (by decide) ?_
        exact j_iret C dX11_put_76
      · refine j_aload_n C dX11_put_47 rfl ?_
        refine j_ldc C dX11_put_48 lc_RX11_118 ?_
        refine j_callVI C (As := [.int ((-100001 : Int32))]) dX11_put_50 (CX11_finds l M hD v0 h0 (-100001 : Int32) s_41) vv_RX11_101 h0 (by decide) rfl rfl ⟨rfl, rfl⟩ (by decide) (Nat.le_of_ble_eq_true rfl) ⟨Nat.zero_le _, Nat.zero_le _⟩ (fun r_50 s_50 => ?_)
        exact j_iret C dX11_put_53
    · refine j_aload_n C dX11_put_23 rfl ?_
      refine j_ldcw C dX11_put_24 lc_RX11_307 ?_
      refine j_callVI C (As := [.int ((-100002 : Int32))]) dX11_put_27 (CX11_finds l M hD v0 h0 (-100002 : Int32) s_1) vv_RX11_101 h0 (by decide) rfl rfl ⟨rfl, rfl⟩ (by decide) (Nat.le_of_ble_eq_true rfl) ⟨Nat.zero_le _, Nat.zero_le _⟩ (fun r_27 s_27 => ?_)
      exact j_iret C dX11_put_30
  · refine j_aload_n C dX11_put_7 rfl ?_
    refine j_ldc C dX11_put_8 lc_RX11_118 ?_
    refine j_callVI C (As := [.int ((-100001 : Int32))]) dX11_put_10 (CX11_finds l M hD v0 h0 (-100001 : Int32) s_1) vv_RX11_101 h0 (by decide) rfl rfl ⟨rfl, rfl⟩ (by decide) (Nat.le_of_ble_eq_true rfl) ⟨Nat.zero_le _, Nat.zero_le _⟩ (fun r_10 s_10 => ?_)
    exact j_iret C dX11_put_13
set_option maxRecDepth 20000 in
set_option maxHeartbeats 4000000 in
theorem CX11_copy (l : Launch) (M : Mc) (hD : Dj M) (v0 : Nat) (h0 : isK v0 11) (v1 : Int32) (v2 : Int32) (v3 : Int32) (v4 : Int32) (v5 : Int32) (σ : Sg) : Ct l M yX11_copy cX11_copy 7 (some .int) { frames := 2, cells := 0, slots := 0, locals := 42 } vI [.ref (adr M v0), .int v1, .int v2, .int v3, .int v4, .int v5] σ (fX11_copy v0 v1 v2 v3 v4 v5 σ) := by
  refine ct_of (l := l) hD (by decide) (Nat.le_of_ble_eq_true rfl) ?_
  intro p e s m args below meth c C
  have H165 : ∀  (n : Nat) (v6 : Int32) (τ : Sg), J p l e { frames := 2, cells := 0, slots := 0, locals := 42 } s m args below meth c M 7 vI τ 165 [(0, .ref (adr M v0)), (3, .int v3), (4, .int v4), (5, .int v5), (6, .int v6)] [] (lq1 (fX11_copy_165 v0 v3 v4 v5) n v6 τ) := by
    refine j_lq1 (Ls := fun v6 => [(0, .ref (adr M v0)), (3, .int v3), (4, .int v4), (5, .int v5), (6, .int v6)]) (st := fun _ => []) ?_
    intro k165 hk165 v6 σ
    unfold fX11_copy_165
    refine j_iload C dX11_copy_165 rfl ?_
    refine j_iload C dX11_copy_167 rfl ?_
    refine j_icmp_ge C (tgt := 200) dX11_copy_169 (by decide) ?_ ?_
    · refine j_iload C dX11_copy_200 rfl ?_
      exact j_iret C dX11_copy_202
    · refine j_aload_n C dX11_copy_172 rfl ?_
      refine j_getR C dX11_copy_173 fl_RX11_22 h0 (by decide) rfl rfl (by decide) (fun h_173 => ?_)
      refine j_bipush C (v := (60 : Int32)) dX11_copy_176 (by decide) ?_
      refine j_iload_n C dX11_copy_178 rfl ?_
      refine j_imul C dX11_copy_179 ?_
      refine j_iload C dX11_copy_180 rfl ?_
      refine j_iadd C dX11_copy_182 ?_
      refine j_iload C dX11_copy_183 rfl ?_
      refine j_iadd C dX11_copy_185 ?_
      refine j_aload_n C dX11_copy_186 rfl ?_
      refine j_getR C dX11_copy_187 fl_RX11_25 h0 (by decide) rfl rfl (by decide) (fun h_187 => ?_)
      refine j_iload C dX11_copy_190 rfl ?_
      refine j_iald C dX11_copy_192 h_187 ?_
      refine j_iast C dX11_copy_193 h_173 (fun s_193 => ?_)
      refine j_iinc C (v := (1 : Int32)) (Ls' := fun v6_194 => [(6, .int v6_194), (0, .ref (adr M v0)), (3, .int v3), (4, .int v4), (5, .int v5)]) dX11_copy_194 4 rfl (by decide) (by decide) (fun _ => rfl) (fun v6_194 => ?_)
      refine j_goto C (tgt := 165) dX11_copy_197 (by decide) ?_
      refine j_sub (Ls' := [(0, .ref (adr M v0)), (3, .int v3), (4, .int v4), (5, .int v5), (6, .int v6_194)]) [1, 2, 3, 4, 0] rfl ?_
      exact hk165 v6_194 s_193
  have H128 : ∀  (n : Nat) (v6 : Int32) (τ : Sg), J p l e { frames := 2, cells := 0, slots := 0, locals := 42 } s m args below meth c M 7 vI τ 128 [(0, .ref (adr M v0)), (1, .int v1), (2, .int v2), (3, .int v3), (4, .int v4), (5, .int v5), (6, .int v6)] [] (lq1 (fX11_copy_128 v0 v1 v2 v3 v4 v5) n v6 τ) := by
    refine j_lq1 (Ls := fun v6 => [(0, .ref (adr M v0)), (1, .int v1), (2, .int v2), (3, .int v3), (4, .int v4), (5, .int v5), (6, .int v6)]) (st := fun _ => []) ?_
    intro k128 hk128 v6 σ
    unfold fX11_copy_128
    refine j_iload C dX11_copy_128 rfl ?_
    refine j_iload C dX11_copy_130 rfl ?_
    refine j_icmp_ge C (tgt := 162) dX11_copy_132 (by decide) ?_ ?_
    · refine j_iconst C (v := (0 : Int32)) dX11_copy_162 (by decide) ?_
      refine j_istore C (Ls' := fun v6_163 => [(6, .int v6_163), (0, .ref (adr M v0)), (1, .int v1), (2, .int v2), (3, .int v3), (4, .int v4), (5, .int v5)]) dX11_copy_163 (by decide) (fun _ => rfl) (fun v6_163 => ?_)
      refine j_sub (Ls' := [(0, .ref (adr M v0)), (3, .int v3), (4, .int v4), (5, .int v5), (6, .int v6_163)]) [1, 4, 5, 6, 0] rfl ?_
      exact H165 FU v6_163 σ
    · refine j_aload_n C dX11_copy_135 rfl ?_
      refine j_getR C dX11_copy_136 fl_RX11_25 h0 (by decide) rfl rfl (by decide) (fun h_136 => ?_)
      refine j_iload C dX11_copy_139 rfl ?_
      refine j_aload_n C dX11_copy_141 rfl ?_
      refine j_getR C dX11_copy_142 fl_RX11_22 h0 (by decide) rfl rfl (by decide) (fun h_142 => ?_)
      refine j_bipush C (v := (60 : Int32)) dX11_copy_145 (by decide) ?_
      refine j_iload_n C dX11_copy_147 rfl ?_
      refine j_imul C dX11_copy_148 ?_
      refine j_iload_n C dX11_copy_149 rfl ?_
      refine j_iadd C dX11_copy_150 ?_
      refine j_iload C dX11_copy_151 rfl ?_
      refine j_iadd C dX11_copy_153 ?_
      refine j_iald C dX11_copy_154 h_142 ?_
      refine j_iast C dX11_copy_155 h_136 (fun s_155 => ?_)
      refine j_iinc C (v := (1 : Int32)) (Ls' := fun v6_156 => [(6, .int v6_156), (0, .ref (adr M v0)), (1, .int v1), (2, .int v2), (3, .int v3), (4, .int v4), (5, .int v5)]) dX11_copy_156 6 rfl (by decide) (by decide) (fun _ => rfl) (fun v6_156 => ?_)
      refine j_goto C (tgt := 128) dX11_copy_159 (by decide) ?_
      refine j_sub (Ls' := [(0, .ref (adr M v0)), (1, .int v1), (2, .int v2), (3, .int v3), (4, .int v4), (5, .int v5), (6, .int v6_156)]) [1, 2, 3, 4, 5, 6, 0] rfl ?_
      exact hk128 v6_156 s_155
  unfold fX11_copy
  refine j_iload_n C dX11_copy_0 rfl ?_
  refine j_callSI C (As := [.int v1]) dX11_copy_1 (CX11_isSheet l M hD v1 σ) vs_RX11_304 rfl rfl ⟨rfl, rfl⟩ (by decide) (Nat.le_of_ble_eq_true rfl) ⟨Nat.zero_le _, Nat.zero_le _⟩ (fun r_1 s_1 => ?_)
  refine j_if_eq C (tgt := 14) dX11_copy_4 (by decide) ?_ ?_
  · refine j_aload_n C dX11_copy_14 rfl ?_
    refine j_ldc C dX11_copy_15 lc_RX11_118 ?_
    refine j_callVI C (As := [.int ((-100001 : Int32))]) dX11_copy_17 (CX11_finds l M hD v0 h0 (-100001 : Int32) s_1) vv_RX11_101 h0 (by decide) rfl rfl ⟨rfl, rfl⟩ (by decide) (Nat.le_of_ble_eq_true rfl) ⟨Nat.zero_le _, Nat.zero_le _⟩ (fun r_17 s_17 => ?_)
    exact j_iret C dX11_copy_20
  · refine j_iload_n C dX11_copy_7 rfl ?_
    refine j_callSI C (As := [.int v3]) dX11_copy_8 (CX11_isSheet l M hD v3 s_1) vs_RX11_304 rfl rfl ⟨rfl, rfl⟩ (by decide) (Nat.le_of_ble_eq_true rfl) ⟨Nat.zero_le _, Nat.zero_le _⟩ (fun r_8 s_8 => ?_)
    refine j_if_ne C (tgt := 21) dX11_copy_11 (by decide) ?_ ?_
    · refine j_aload_n C dX11_copy_21 rfl ?_
      refine j_getR C dX11_copy_22 fl_RX11_16 h0 (by decide) rfl rfl (by decide) (fun h_22 => ?_)
      refine j_iload_n C dX11_copy_25 rfl ?_
      refine j_iald C dX11_copy_26 h_22 ?_
      refine j_if_eq C (tgt := 39) dX11_copy_27 (by decide) ?_ ?_
      · refine j_aload_n C dX11_copy_39 rfl ?_
        refine j_ldcw C dX11_copy_40 lc_RX11_307 ?_
        refine j_callVI C (As := [.int ((-100002 : Int32))]) dX11_copy_43 (CX11_finds l M hD v0 h0 (-100002 : Int32) s_8) vv_RX11_101 h0 (by decide) rfl rfl ⟨rfl, rfl⟩ (by decide) (Nat.le_of_ble_eq_true rfl) ⟨Nat.zero_le _, Nat.zero_le _⟩ (fun r_43 s_43 => ?_)
        exact j_iret C dX11_copy_46
      · refine j_aload_n C dX11_copy_30 rfl ?_
        refine j_getR C dX11_copy_31 fl_RX11_16 h0 (by decide) rfl rfl (by decide) (fun h_31 => ?_)
        refine j_iload_n C dX11_copy_34 rfl ?_
        refine j_iald C dX11_copy_35 h_31 ?_
        refine j_if_ne C (tgt := 47) dX11_copy_36 (by decide) ?_ ?_
        · refine j_aload_n C dX11_copy_47 rfl ?_
          refine j_getR C dX11_copy_48 fl_RX11_16 h0 (by decide) rfl rfl (by decide) (fun h_48 => ?_)
          refine j_iload_n C dX11_copy_51 rfl ?_
          refine j_iald C dX11_copy_52 h_48 ?_
          refine j_aload_n C dX11_copy_53 rfl ?_
          refine j_getR C dX11_copy_54 fl_RX11_16 h0 (by decide) rfl rfl (by decide) (fun h_54 => ?_)
          refine j_iload_n C dX11_copy_57 rfl ?_
          refine j_iald C dX11_copy_58 h_54 ?_
          refine j_icmp_eq C (tgt := 69) dX11_copy_59 (by decide) ?_ ?_
          · refine j_iload_n C dX11_copy_69 rfl ?_
            refine j_if_lt C (tgt := 118) dX11_copy_70 (by decide) ?_ ?_
            · refine j_aload_n C dX11_copy_118 rfl ?_
              refine j_ldc C dX11_copy_119 lc_RX11_118 ?_
              refine j_callVI C (As := [.int ((-100001 : Int32))]) dX11_copy_121 (CX11_finds l M hD v0 h0 (-100001 : Int32) s_8) vv_RX11_101 h0 (by decide) rfl rfl ⟨rfl, rfl⟩ (by decide) (Nat.le_of_ble_eq_true rfl) ⟨Nat.zero_le _, Nat.zero_le _⟩ (fun r_121 s_121 => ?_)
              exact j_iret C dX11_copy_124
            · refine j_iload C dX11_copy_73 rfl ?_
              refine j_if_lt C (tgt := 118) dX11_copy_75 (by decide) ?_ ?_
              · refine j_aload_n C dX11_copy_118 rfl ?_
                refine j_ldc C dX11_copy_119 lc_RX11_118 ?_
                refine j_callVI C (As := [.int ((-100001 : Int32))]) dX11_copy_121 (CX11_finds l M hD v0 h0 (-100001 : Int32) s_8) vv_RX11_101 h0 (by decide) rfl rfl ⟨rfl, rfl⟩ (by decide) (Nat.le_of_ble_eq_true rfl) ⟨Nat.zero_le _, Nat.zero_le _⟩ (fun r_121 s_121 => ?_)
                exact j_iret C dX11_copy_124
              · refine j_iload C dX11_copy_78 rfl ?_
                refine j_if_lt C (tgt := 118) dX11_copy_80 (by decide) ?_ ?_
                · refine j_aload_n C dX11_copy_118 rfl ?_
                  refine j_ldc C dX11_copy_119 lc_RX11_118 ?_
                  refine j_callVI C (As := [.int ((-100001 : Int32))]) dX11_copy_121 (CX11_finds l M hD v0 h0 (-100001 : Int32) s_8) vv_RX11_101 h0 (by decide) rfl rfl ⟨rfl, rfl⟩ (by decide) (Nat.le_of_ble_eq_true rfl) ⟨Nat.zero_le _, Nat.zero_le _⟩ (fun r_121 s_121 => ?_)
                  exact j_iret C dX11_copy_124
                · refine j_iload_n C dX11_copy_83 rfl ?_
                  refine j_i2l C dX11_copy_84 ?_
                  refine j_iload C dX11_copy_85 rfl ?_
                  refine j_i2l C dX11_copy_87 ?_
                  refine j_ladd C dX11_copy_88 ?_
                  refine j_aload_n C dX11_copy_89 rfl ?_
                  refine j_getR C dX11_copy_90 fl_RX11_19 h0 (by decide) rfl rfl (by decide) (fun h_90 => ?_)
                  refine j_iload_n C dX11_copy_93 rfl ?_
                  refine j_iald C dX11_copy_94 h_90 ?_
                  refine j_i2l C dX11_copy_95 ?_
                  refine j_lcmp C dX11_copy_96 ?_
                  refine j_if_gt C (tgt := 118) dX11_copy_97 (by decide) ?_ ?_
                  · refine j_aload_n C dX11_copy_118 rfl ?_
                    refine j_ldc C dX11_copy_119 lc_RX11_118 ?_
                    refine j_callVI C (As := [.int ((-100001 : Int32))]) dX11_copy_121 (CX11_finds l M hD v0 h0 (-100001 : Int32) s_8) vv_RX11_101 h0 (by decide) rfl rfl ⟨rfl, rfl⟩ (by decide) (Nat.le_of_ble_eq_true rfl) ⟨Nat.zero_le _, Nat.zero_le _⟩ (fun r_121 s_121 => ?_)
                    exact j_iret C dX11_copy_124
                  · refine j_iload C dX11_copy_100 rfl ?_
                    refine j_i2l C dX11_copy_102 ?_
                    refine j_iload C dX11_copy_103 rfl ?_
                    refine j_i2l C dX11_copy_105 ?_
                    refine j_ladd C dX11_copy_106 ?_
                    refine j_aload_n C dX11_copy_107 rfl ?_
                    refine j_getR C dX11_copy_108 fl_RX11_19 h0 (by decide) rfl rfl (by decide) (fun h_108 => ?_)
                    refine j_iload_n C dX11_copy_111 rfl ?_
                    refine j_iald C dX11_copy_112 h_108 ?_
                    refine j_i2l C dX11_copy_113 ?_
                    refine j_lcmp C dX11_copy_114 ?_
                    refine j_if_le C (tgt := 125) dX11_copy_115 (by decide) ?_ ?_
                    · refine j_iconst C (v := (0 : Int32)) dX11_copy_125 (by decide) ?_
                      refine j_istore C (Ls' := fun v6_126 => [(6, .int v6_126), (0, .ref (adr M v0)), (1, .int v1), (2, .int v2), (3, .int v3), (4, .int v4), (5, .int v5)]) dX11_copy_126 (by decide) (fun _ => rfl) (fun v6_126 => ?_)
                      refine j_sub (Ls' := [(0, .ref (adr M v0)), (1, .int v1), (2, .int v2), (3, .int v3), (4, .int v4), (5, .int v5), (6, .int v6_126)]) [1, 2, 3, 4, 5, 6, 0] rfl ?_
                      exact H128 FU v6_126 s_8
                    · refine j_aload_n C dX11_copy_118 rfl ?_
                      refine j_ldc C dX11_copy_119 lc_RX11_118 ?_
                      refine j_callVI C (As := [.int ((-100001 : Int32))]) dX11_copy_121 (CX11_finds l M hD v0 h0 (-100001 : Int32) s_8) vv_RX11_101 h0 (by decide) rfl rfl ⟨rfl, rfl⟩ (by decide) (Nat.le_of_ble_eq_true rfl) ⟨Nat.zero_le _, Nat.zero_le _⟩ (fun r_121 s_121 => ?_)
                      exact j_iret C dX11_copy_124
          · refine j_aload_n C dX11_copy_62 rfl ?_
            refine j_ldc C dX11_copy_63 lc_RX11_139 ?_
            refine j_callVI C (As := [.int ((-100004 : Int32))]) dX11_copy_65 (CX11_finds l M hD v0 h0 (-100004 : Int32) s_8) vv_RX11_101 h0 (by decide) rfl rfl ⟨rfl, rfl⟩ (by decide) (Nat.le_of_ble_eq_true rfl) ⟨Nat.zero_le _, Nat.zero_le _⟩ (fun r_65 s_65 => ?_)
            exact j_iret C dX11_copy_68
        · refine j_aload_n C dX11_copy_39 rfl ?_
          refine j_ldcw C dX11_copy_40 lc_RX11_307 ?_
          refine j_callVI C (As := [.int ((-100002 : Int32))]) dX11_copy_43 (CX11_finds l M hD v0 h0 (-100002 : Int32) s_8) vv_RX11_101 h0 (by decide) rfl rfl ⟨rfl, rfl⟩ (by decide) (Nat.le_of_ble_eq_true rfl) ⟨Nat.zero_le _, Nat.zero_le _⟩ (fun r_43 s_43 => ?_)
          exact j_iret C dX11_copy_46
    · refine j_aload_n C dX11_copy_14 rfl ?_
      refine j_ldc C dX11_copy_15 lc_RX11_118 ?_
      refine j_callVI C (As := [.int ((-100001 : Int32))]) dX11_copy_17 (CX11_finds l M hD v0 h0 (-100001 : Int32) s_8) vv_RX11_101 h0 (by decide) rfl rfl ⟨rfl, rfl⟩ (by decide) (Nat.le_of_ble_eq_true rfl) ⟨Nat.zero_le _, Nat.zero_le _⟩ (fun r_17 s_17 => ?_)
      exact j_iret C dX11_copy_20
set_option maxRecDepth 20000 in
set_option maxHeartbeats 4000000 in
theorem CX11_grades (l : Launch) (M : Mc) (hD : Dj M) (v0 : Nat) (h0 : isK v0 11) (v1 : Int32) (σ : Sg) : Ct l M yX11_grades cX11_grades 4 (some .int) { frames := 2, cells := 0, slots := 0, locals := 42 } vI [.ref (adr M v0), .int v1] σ (fX11_grades v0 v1 σ) := by
  refine ct_of (l := l) hD (by decide) (Nat.le_of_ble_eq_true rfl) ?_
  intro p e s m args below meth c C
  have H112 : ∀ (v2 : Int32) (n : Nat) (v3 : Int32) (τ : Sg), J p l e { frames := 2, cells := 0, slots := 0, locals := 42 } s m args below meth c M 4 vI τ 112 [(0, .ref (adr M v0)), (1, .int v1), (2, .int v2), (3, .int v3)] [] (lq1 (fX11_grades_112 v0 v1 v2) n v3 τ) := by
    intro v2
    refine j_lq1 (Ls := fun v3 => [(0, .ref (adr M v0)), (1, .int v1), (2, .int v2), (3, .int v3)]) (st := fun _ => []) ?_
    intro k112 hk112 v3 σ
    unfold fX11_grades_112
    refine j_iload_n C dX11_grades_112 rfl ?_
    refine j_iload_n C dX11_grades_113 rfl ?_
    refine j_icmp_ge C (tgt := 143) dX11_grades_114 (by decide) ?_ ?_
    · refine j_iload_n C dX11_grades_143 rfl ?_
      exact j_iret C dX11_grades_144
    · refine j_aload_n C dX11_grades_117 rfl ?_
      refine j_getR C dX11_grades_118 fl_RX11_7 h0 (by decide) rfl rfl (by decide) (fun h_118 => ?_)
      refine j_bipush C (v := (8 : Int32)) dX11_grades_121 (by decide) ?_
      refine j_iload_n C dX11_grades_123 rfl ?_
      refine j_iadd C dX11_grades_124 ?_
      refine j_aload_n C dX11_grades_125 rfl ?_
      refine j_getR C dX11_grades_126 fl_RX11_22 h0 (by decide) rfl rfl (by decide) (fun h_126 => ?_)
      refine j_bipush C (v := (60 : Int32)) dX11_grades_129 (by decide) ?_
      refine j_iload_n C dX11_grades_131 rfl ?_
      refine j_imul C dX11_grades_132 ?_
      refine j_iload_n C dX11_grades_133 rfl ?_
      refine j_iadd C dX11_grades_134 ?_
      refine j_iald C dX11_grades_135 h_126 ?_
      refine j_iast C dX11_grades_136 h_118 (fun s_136 => ?_)
      refine j_iinc C (v := (1 : Int32)) (Ls' := fun v3_137 => [(3, .int v3_137), (0, .ref (adr M v0)), (1, .int v1), (2, .int v2)]) dX11_grades_137 3 rfl (by decide) (by decide) (fun _ => rfl) (fun v3_137 => ?_)
      refine j_goto C (tgt := 112) dX11_grades_140 (by decide) ?_
      refine j_sub (Ls' := [(0, .ref (adr M v0)), (1, .int v1), (2, .int v2), (3, .int v3_137)]) [1, 2, 3, 0] rfl ?_
      exact hk112 v3_137 s_136
  have H68 : ∀ (v2 : Int32) (n : Nat) (v3 : Int32) (τ : Sg), J p l e { frames := 2, cells := 0, slots := 0, locals := 42 } s m args below meth c M 4 vI τ 68 [(0, .ref (adr M v0)), (1, .int v1), (2, .int v2), (3, .int v3)] [] (lq1 (fX11_grades_68 v0 v1 v2) n v3 τ) := by
    intro v2
    refine j_lq1 (Ls := fun v3 => [(0, .ref (adr M v0)), (1, .int v1), (2, .int v2), (3, .int v3)]) (st := fun _ => []) ?_
    intro k68 hk68 v3 σ
    unfold fX11_grades_68
    refine j_iload_n C dX11_grades_68 rfl ?_
    refine j_iload_n C dX11_grades_69 rfl ?_
    refine j_icmp_ge C (tgt := 106) dX11_grades_70 (by decide) ?_ ?_
    · refine j_aload_n C dX11_grades_106 rfl ?_
      refine j_callVv C (As := []) dX11_grades_107 (CX11_keep l M hD v0 h0 σ) vv_RX11_105 h0 (by decide) rfl rfl ⟨rfl, rfl⟩ (by decide) (Nat.le_of_ble_eq_true rfl) ⟨Nat.zero_le _, Nat.zero_le _⟩ (fun r_107 s_107 => ?_)
      refine j_iconst C (v := (0 : Int32)) dX11_grades_110 (by decide) ?_
      refine j_istore_n C (Ls' := fun v3_111 => [(3, .int v3_111), (0, .ref (adr M v0)), (1, .int v1), (2, .int v2)]) dX11_grades_111 (by decide) (fun _ => rfl) (fun v3_111 => ?_)
      refine j_sub (Ls' := [(0, .ref (adr M v0)), (1, .int v1), (2, .int v2), (3, .int v3_111)]) [1, 2, 3, 0] rfl ?_
      exact H112 v2 FU v3_111 s_107
    · refine j_aload_n C dX11_grades_73 rfl ?_
      refine j_getR C dX11_grades_74 fl_RX11_22 h0 (by decide) rfl rfl (by decide) (fun h_74 => ?_)
      refine j_bipush C (v := (60 : Int32)) dX11_grades_77 (by decide) ?_
      refine j_iload_n C dX11_grades_79 rfl ?_
      refine j_imul C dX11_grades_80 ?_
      refine j_iload_n C dX11_grades_81 rfl ?_
      refine j_iadd C dX11_grades_82 ?_
      refine j_iald C dX11_grades_83 h_74 ?_
      refine j_iconst C (v := (1 : Int32)) dX11_grades_84 (by decide) ?_
      refine j_bipush C (v := (30 : Int32)) dX11_grades_85 (by decide) ?_
      refine j_callSI C (As := [.int ((σ (rf v0 7) ((((60 : Int32) * v1) + v3)).toNatClampNeg)), .int ((1 : Int32)), .int ((30 : Int32))]) dX11_grades_87 (CX11_in l M hD (σ (rf v0 7) ((((60 : Int32) * v1) + v3)).toNatClampNeg) (1 : Int32) (30 : Int32) σ) vs_RX11_108 rfl rfl ⟨rfl, rfl⟩ (by decide) (Nat.le_of_ble_eq_true rfl) ⟨Nat.zero_le _, Nat.zero_le _⟩ (fun r_87 s_87 => ?_)
      refine j_if_ne C (tgt := 100) dX11_grades_90 (by decide) ?_ ?_
      · refine j_iinc C (v := (1 : Int32)) (Ls' := fun v3_100 => [(3, .int v3_100), (0, .ref (adr M v0)), (1, .int v1), (2, .int v2)]) dX11_grades_100 3 rfl (by decide) (by decide) (fun _ => rfl) (fun v3_100 => ?_)
        refine j_goto C (tgt := 68) dX11_grades_103 (by decide) ?_
        refine j_sub (Ls' := [(0, .ref (adr M v0)), (1, .int v1), (2, .int v2), (3, .int v3_100)]) [1, 2, 3, 0] rfl ?_
        exact hk68 v3_100 s_87
      · refine j_aload_n C dX11_grades_93 rfl ?_
        refine j_ldc C dX11_grades_94 lc_RX11_118 ?_
        refine j_callVI C (As := [.int ((-100001 : Int32))]) dX11_grades_96 (CX11_finds l M hD v0 h0 (-100001 : Int32) s_87) vv_RX11_101 h0 (by decide) rfl rfl ⟨rfl, rfl⟩ (by decide) (Nat.le_of_ble_eq_true rfl) ⟨Nat.zero_le _, Nat.zero_le _⟩ (fun r_96 s_96 => ?_)
        exact j_iret C dX11_grades_99
  have H65 : ∀ (w0 : Int32) (τ : Sg), J p l e { frames := 2, cells := 0, slots := 0, locals := 42 } s m args below meth c M 4 vI τ 65 [(0, .ref (adr M v0)), (1, .int v1)] [.int w0] (fX11_grades_65 v0 v1 w0 τ) := by
    intro w0 σ
    unfold fX11_grades_65
    refine j_istore_n C (Ls' := fun v2_65 => [(2, .int v2_65), (0, .ref (adr M v0)), (1, .int v1)]) dX11_grades_65 (by decide) (fun _ => rfl) (fun v2_65 => ?_)
    refine j_iconst C (v := (0 : Int32)) dX11_grades_66 (by decide) ?_
    refine j_istore_n C (Ls' := fun v3_67 => [(3, .int v3_67), (2, .int v2_65), (0, .ref (adr M v0)), (1, .int v1)]) dX11_grades_67 (by decide) (fun _ => rfl) (fun v3_67 => ?_)
    refine j_sub (Ls' := [(0, .ref (adr M v0)), (1, .int v1), (2, .int v2_65), (3, .int v3_67)]) [2, 3, 1, 0] rfl ?_
    exact H68 v2_65 FU v3_67 σ
  unfold fX11_grades
  refine j_iload_n C dX11_grades_0 rfl ?_
  refine j_callSI C (As := [.int v1]) dX11_grades_1 (CX11_isSheet l M hD v1 σ) vs_RX11_304 rfl rfl ⟨rfl, rfl⟩ (by decide) (Nat.le_of_ble_eq_true rfl) ⟨Nat.zero_le _, Nat.zero_le _⟩ (fun r_1 s_1 => ?_)
  refine j_if_ne C (tgt := 14) dX11_grades_4 (by decide) ?_ ?_
  · refine j_aload_n C dX11_grades_14 rfl ?_
    refine j_getR C dX11_grades_15 fl_RX11_16 h0 (by decide) rfl rfl (by decide) (fun h_15 => ?_)
    refine j_iload_n C dX11_grades_18 rfl ?_
    refine j_iald C dX11_grades_19 h_15 ?_
    refine j_if_ne C (tgt := 31) dX11_grades_20 (by decide) ?_ ?_
    · refine j_aload_n C dX11_grades_31 rfl ?_
      refine j_getR C dX11_grades_32 fl_RX11_19 h0 (by decide) rfl rfl (by decide) (fun h_32 => ?_)
      refine j_iload_n C dX11_grades_35 rfl ?_
      refine j_iald C dX11_grades_36 h_32 ?_
      refine j_aload_n C dX11_grades_37 rfl ?_
      refine j_getR C dX11_grades_38 fl_RX11_7 h0 (by decide) rfl rfl (by decide) (fun h_38 => ?_)
      refine j_iconst C (v := (0 : Int32)) dX11_grades_41 (by decide) ?_
      refine j_iald C dX11_grades_42 h_38 ?_
      refine j_iconst C (v := (1 : Int32)) dX11_grades_43 (by decide) ?_
      refine j_isub C dX11_grades_44 ?_
      refine j_icmp_ge C (tgt := 57) dX11_grades_45 (by decide) ?_ ?_
      · refine j_aload_n C dX11_grades_57 rfl ?_
        refine j_getR C dX11_grades_58 fl_RX11_7 h0 (by decide) rfl rfl (by decide) (fun h_58 => ?_)
        refine j_iconst C (v := (0 : Int32)) dX11_grades_61 (by decide) ?_
        refine j_iald C dX11_grades_62 h_58 ?_
        refine j_iconst C (v := (1 : Int32)) dX11_grades_63 (by decide) ?_
        refine j_isub C dX11_grades_64 ?_
        exact H65 ((s_1 (rf v0 0) ((0 : Int32)).toNatClampNeg) - (1 : Int32)) s_1
      · refine j_aload_n C dX11_grades_48 rfl ?_
        refine j_getR C dX11_grades_49 fl_RX11_19 h0 (by decide) rfl rfl (by decide) (fun h_49 => ?_)
        refine j_iload_n C dX11_grades_52 rfl ?_
        refine j_iald C dX11_grades_53 h_49 ?_
        refine j_goto C (tgt := 65) dX11_grades_54 (by decide) ?_
        exact H65 (s_1 (rf v0 6) (v1).toNatClampNeg) s_1
    · refine j_aload_n C dX11_grades_23 rfl ?_
      refine j_ldcw C dX11_grades_24 lc_RX11_307 ?_
      refine j_callVI C (As := [.int ((-100002 : Int32))]) dX11_grades_27 (CX11_finds l M hD v0 h0 (-100002 : Int32) s_1) vv_RX11_101 h0 (by decide) rfl rfl ⟨rfl, rfl⟩ (by decide) (Nat.le_of_ble_eq_true rfl) ⟨Nat.zero_le _, Nat.zero_le _⟩ (fun r_27 s_27 => ?_)
      exact j_iret C dX11_grades_30
  · refine j_aload_n C dX11_grades_7 rfl ?_
    refine j_ldc C dX11_grades_8 lc_RX11_118 ?_
    refine j_callVI C (As := [.int ((-100001 : Int32))]) dX11_grades_10 (CX11_finds l M hD v0 h0 (-100001 : Int32) s_1) vv_RX11_101 h0 (by decide) rfl rfl ⟨rfl, rfl⟩ (by decide) (Nat.le_of_ble_eq_true rfl) ⟨Nat.zero_le _, Nat.zero_le _⟩ (fun r_10 s_10 => ?_)
    exact j_iret C dX11_grades_13
set_option maxRecDepth 20000 in
set_option maxHeartbeats 4000000 in
theorem CX11_all (l : Launch) (M : Mc) (hD : Dj M) (v0 : Nat) (h0 : isK v0 11) (v1 : Int32) (σ : Sg) : Ct l M yX11_all cX11_all 2 (some .int) { frames := 1, cells := 0, slots := 0, locals := 21 } vI [.ref (adr M v0), .int v1] σ (fX11_all v0 v1 σ) := by
  refine ct_of (l := l) hD (by decide) (Nat.le_of_ble_eq_true rfl) ?_
  intro p e s m args below meth c C
  unfold fX11_all
  refine j_iload_n C dX11_all_0 rfl ?_
  refine j_cases (fun hq1_0 => ?_) (fun hq1_0 => ?_)
  · refine j_tabIn C dX11_all_1 (tgt := 36) hq1_0 (by decide) (by decide) rfl (by decide) ?_
    refine j_aload_n C dX11_all_36 rfl ?_
    refine j_getR C dX11_all_37 fl_RX11_7 h0 (by decide) rfl rfl (by decide) (fun h_37 => ?_)
    refine j_iconst C (v := (0 : Int32)) dX11_all_40 (by decide) ?_
    refine j_iald C dX11_all_41 h_37 ?_
    exact j_iret C dX11_all_42
  · refine j_cases (fun hq1_1 => ?_) (fun hq1_1 => ?_)
    · refine j_tabIn C dX11_all_1 (tgt := 43) hq1_1 (by decide) (by decide) rfl (by decide) ?_
      refine j_aload_n C dX11_all_43 rfl ?_
      refine j_getR C dX11_all_44 fl_RX11_7 h0 (by decide) rfl rfl (by decide) (fun h_44 => ?_)
      refine j_bipush C (v := (14 : Int32)) dX11_all_47 (by decide) ?_
      refine j_iald C dX11_all_49 h_44 ?_
      exact j_iret C dX11_all_50
    · refine j_cases (fun hq1_2 => ?_) (fun hq1_2 => ?_)
      · refine j_tabIn C dX11_all_1 (tgt := 51) hq1_2 (by decide) (by decide) rfl (by decide) ?_
        refine j_aload_n C dX11_all_51 rfl ?_
        refine j_getR C dX11_all_52 fl_RX11_7 h0 (by decide) rfl rfl (by decide) (fun h_52 => ?_)
        refine j_bipush C (v := (40 : Int32)) dX11_all_55 (by decide) ?_
        refine j_iald C dX11_all_57 h_52 ?_
        exact j_iret C dX11_all_58
      · refine j_cases (fun hq1_3 => ?_) (fun hq1_3 => ?_)
        · refine j_tabIn C dX11_all_1 (tgt := 59) hq1_3 (by decide) (by decide) rfl (by decide) ?_
          refine j_aload_n C dX11_all_59 rfl ?_
          refine j_getR C dX11_all_60 fl_RX11_7 h0 (by decide) rfl rfl (by decide) (fun h_60 => ?_)
          refine j_sipush C (v := (161 : Int32)) dX11_all_63 (by decide) ?_
          refine j_iald C dX11_all_66 h_60 ?_
          exact j_iret C dX11_all_67
        · refine j_cases (fun hq1_4 => ?_) (fun hq1_4 => ?_)
          · refine j_tabIn C dX11_all_1 (tgt := 68) hq1_4 (by decide) (by decide) rfl (by decide) ?_
            refine j_aload_n C dX11_all_68 rfl ?_
            refine j_getI C dX11_all_69 fl_RX11_86 h0 (by decide) rfl ?_
            exact j_iret C dX11_all_72
          · refine j_tabOut C dX11_all_1 (tgt := 73) (by have hq1_0 := i_ne hq1_0; have hq1_1 := i_ne hq1_1; have hq1_2 := i_ne hq1_2; have hq1_3 := i_ne hq1_3; have hq1_4 := i_ne hq1_4; simp only [show ((0 : Int32)).toInt = 0 from rfl, show ((1 : Int32)).toInt = 1 from rfl, show ((2 : Int32)).toInt = 2 from rfl, show ((3 : Int32)).toInt = 3 from rfl, show ((4 : Int32)).toInt = 4 from rfl] at *; omega) (by decide) ?_
            refine j_aload_n C dX11_all_73 rfl ?_
            refine j_ldc C dX11_all_74 lc_RX11_118 ?_
            refine j_callVI C (As := [.int ((-100001 : Int32))]) dX11_all_76 (CX11_finds l M hD v0 h0 (-100001 : Int32) σ) vv_RX11_101 h0 (by decide) rfl rfl ⟨rfl, rfl⟩ (by decide) (Nat.le_of_ble_eq_true rfl) ⟨Nat.zero_le _, Nat.zero_le _⟩ (fun r_76 s_76 => ?_)
            exact j_iret C dX11_all_79
