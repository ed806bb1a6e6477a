set_option maxRecDepth 20000 in
set_option maxHeartbeats 4000000 in
theorem CX10_grades (l : Launch) (M : Mc) (hD : Dj M) (v0 : Nat) (h0 : isK v0 10) (v1 : Int32) (σ : Sg) : Ct l M yX10_grades cX10_grades 5 (some .int) { frames := 5, cells := 0, slots := 0, locals := 131 } vI [.ref (adr M v0), .int v1] σ (fX10_grades v0 v1 σ) := by
  refine ct_of (l := l) hD (by decide) (Nat.le_of_ble_eq_true rfl) ?_
  intro p e s m args below meth c C
  have H58 : ∀ (v2 : Nat) (h2 : isK v2 7) (v3 : Int32) (n : Nat) (v4 : Int32) (τ : Sg), J p l e { frames := 5, cells := 0, slots := 0, locals := 131 } s m args below meth c M 5 vI τ 58 [(0, .ref (adr M v0)), (2, .ref (adr M v2)), (3, .int v3), (4, .int v4)] [] (lq1 (fX10_grades_58 v0 v2 v3) n v4 τ) := by
    intro v2 h2 v3
    refine j_lq1 (Ls := fun v4 => [(0, .ref (adr M v0)), (2, .ref (adr M v2)), (3, .int v3), (4, .int v4)]) (st := fun _ => []) ?_
    intro k58 hk58 v4 σ
    unfold fX10_grades_58
    refine j_iload C dX10_grades_58 rfl ?_
    refine j_iload_n C dX10_grades_60 rfl ?_
    refine j_icmp_ge C (tgt := 90) dX10_grades_61 (by decide) ?_ ?_
    · refine j_aload_n C dX10_grades_90 rfl ?_
      refine j_callVv C (As := []) dX10_grades_91 (CX10_keepForUndo l M hD v0 h0 σ) vv_RX10_62 h0 (by decide) rfl rfl ⟨rfl, rfl⟩ (by decide) (Nat.le_of_ble_eq_true rfl) ⟨Nat.zero_le _, Nat.zero_le _⟩ (fun r_91 s_91 => ?_)
      refine j_aload_n C dX10_grades_94 rfl ?_
      refine j_getR C dX10_grades_95 fl_RX10_245 h2 (by decide) rfl rfl (by decide) (fun h_95 => ?_)
      refine j_iconst C (v := (0 : Int32)) dX10_grades_98 (by decide) ?_
      refine j_aload_n C dX10_grades_99 rfl ?_
      refine j_getR C dX10_grades_100 fl_RX10_27 h0 (by decide) rfl rfl (by decide) (fun h_100 => ?_)
      refine j_getR C dX10_grades_103 fl_RX10_65 h_100 (by decide) rfl rfl (by decide) (fun h_103 => ?_)
      refine j_getR C dX10_grades_106 fl_RX10_87 h_103 (by decide) rfl rfl (by decide) (fun h_106 => ?_)
      refine j_iconst C (v := (0 : Int32)) dX10_grades_109 (by decide) ?_
      refine j_iload_n C dX10_grades_110 rfl ?_
      refine j_copy C dX10_grades_111 lm_RX10_257 h_95 h_106 (by decide) (Nat.le_of_ble_eq_true rfl) lm_copy_1 lm_copy_2 lm_copy_3 (fun s_111 => ?_)
      refine j_iload_n C dX10_grades_114 rfl ?_
      exact j_iret C dX10_grades_115
    · refine j_aload_n C dX10_grades_64 rfl ?_
      refine j_getR C dX10_grades_65 fl_RX10_245 h2 (by decide) rfl rfl (by decide) (fun h_65 => ?_)
      refine j_iload C dX10_grades_68 rfl ?_
      refine j_iald C dX10_grades_70 h_65 ?_
      refine j_callSI C (As := [.int ((σ (rf v2 2) (v4).toNatClampNeg))]) dX10_grades_71 (CX8_areMinutes l M hD (σ (rf v2 2) (v4).toNatClampNeg) σ) vs_RX10_84 rfl rfl ⟨rfl, rfl⟩ (by decide) (Nat.le_of_ble_eq_true rfl) ⟨Nat.zero_le _, Nat.zero_le _⟩ (fun r_71 s_71 => ?_)
      refine j_if_ne C (tgt := 84) dX10_grades_74 (by decide) ?_ ?_
      · refine j_iinc C (v := (1 : Int32)) (Ls' := fun v4_84 => [(4, .int v4_84), (0, .ref (adr M v0)), (2, .ref (adr M v2)), (3, .int v3)]) dX10_grades_84 3 rfl (by decide) (by decide) (fun _ => rfl) (fun v4_84 => ?_)
        refine j_goto C (tgt := 58) dX10_grades_87 (by decide) ?_
        refine j_sub (Ls' := [(0, .ref (adr M v0)), (2, .ref (adr M v2)), (3, .int v3), (4, .int v4_84)]) [1, 2, 3, 0] rfl ?_
        exact hk58 v4_84 s_71
      · refine j_aload_n C dX10_grades_77 rfl ?_
        refine j_ldc C dX10_grades_78 lc_RX10_50 ?_
        refine j_callVI C (As := [.int ((-100001 : Int32))]) dX10_grades_80 (CX10_finding l M hD v0 h0 (-100001 : Int32) s_71) vv_RX10_51 h0 (by decide) rfl rfl ⟨rfl, rfl⟩ (by decide) (Nat.le_of_ble_eq_true rfl) ⟨Nat.zero_le _, Nat.zero_le _⟩ (fun r_80 s_80 => ?_)
        exact j_iret C dX10_grades_83
  unfold fX10_grades
  refine j_iload_n C dX10_grades_0 rfl ?_
  refine j_callSI C (As := [.int v1]) dX10_grades_1 (CX10_isSheet l M hD v1 σ) vs_RX10_225 rfl rfl ⟨rfl, rfl⟩ (by decide) (Nat.le_of_ble_eq_true rfl) ⟨Nat.zero_le _, Nat.zero_le _⟩ (fun r_1 s_1 => ?_)
  refine j_if_ne C (tgt := 14) dX10_grades_4 (by decide) ?_ ?_
  · refine j_aload_n C dX10_grades_14 rfl ?_
    refine j_getR C dX10_grades_15 fl_RX10_37 h0 (by decide) rfl rfl (by decide) (fun h_15 => ?_)
    refine j_iload_n C dX10_grades_18 rfl ?_
    refine j_aald C (t0 := 6) dX10_grades_19 h_15 (by decide) rfl (fun h_19 => ?_)
    refine j_astore_n C (Ls' := [(2, .ref (adr M (rf (rf v0 4) (v1).toNatClampNeg))), (0, .ref (adr M v0)), (1, .int v1)]) dX10_grades_20 (by decide) rfl ?_
    refine j_aload_n C dX10_grades_21 rfl ?_
    refine j_callVI C (As := []) dX10_grades_22 (CX7_isMissing l M hD (rf (rf v0 4) (v1).toNatClampNeg) h_19 s_1) vv_RX10_228 h_19 (by decide) rfl rfl ⟨rfl, rfl⟩ (by decide) (Nat.le_of_ble_eq_true rfl) ⟨Nat.zero_le _, Nat.zero_le _⟩ (fun r_22 s_22 => ?_)
    refine j_if_eq C (tgt := 35) dX10_grades_25 (by decide) ?_ ?_
    · refine j_aload_n C dX10_grades_35 rfl ?_
      refine j_getI C dX10_grades_36 fl_RX10_233 h_19 (by decide) rfl ?_
      refine j_aload_n C dX10_grades_39 rfl ?_
      refine j_getR C dX10_grades_40 fl_RX10_27 h0 (by decide) rfl rfl (by decide) (fun h_40 => ?_)
      refine j_getR C dX10_grades_43 fl_RX10_65 h_40 (by decide) rfl rfl (by decide) (fun h_43 => ?_)
      refine j_getI C dX10_grades_46 fl_RX10_69 h_43 (by decide) rfl ?_
      refine j_iconst C (v := (1 : Int32)) dX10_grades_49 (by decide) ?_
      refine j_isub C dX10_grades_50 ?_
      refine j_mmin C dX10_grades_51 lm_RX10_263 lm_min_1 lm_2 lm_min_3 (by decide) (Nat.le_of_ble_eq_true rfl) ⟨Nat.zero_le _, Nat.zero_le _⟩ ?_
      refine j_istore_n C (Ls' := fun v3_54 => [(3, .int v3_54), (2, .ref (adr M (rf (rf v0 4) (v1).toNatClampNeg))), (0, .ref (adr M v0)), (1, .int v1)]) dX10_grades_54 (by decide) (fun _ => rfl) (fun v3_54 => ?_)
      refine j_iconst C (v := (0 : Int32)) dX10_grades_55 (by decide) ?_
      refine j_istore C (Ls' := fun v4_56 => [(4, .int v4_56), (3, .int v3_54), (2, .ref (adr M (rf (rf v0 4) (v1).toNatClampNeg))), (0, .ref (adr M v0)), (1, .int v1)]) dX10_grades_56 (by decide) (fun _ => rfl) (fun v4_56 => ?_)
      refine j_sub (Ls' := [(0, .ref (adr M v0)), (2, .ref (adr M (rf (rf v0 4) (v1).toNatClampNeg))), (3, .int v3_54), (4, .int v4_56)]) [3, 2, 1, 0] rfl ?_
      exact H58 (rf (rf v0 4) (v1).toNatClampNeg) h_19 v3_54 FU v4_56 s_22
    · refine j_aload_n C dX10_grades_28 rfl ?_
      refine j_ldc C dX10_grades_29 lc_RX10_232 ?_
      refine j_callVI C (As := [.int ((-100002 : Int32))]) dX10_grades_31 (CX10_finding l M hD v0 h0 (-100002 : Int32) s_22) vv_RX10_51 h0 (by decide) rfl rfl ⟨rfl, rfl⟩ (by decide) (Nat.le_of_ble_eq_true rfl) ⟨Nat.zero_le _, Nat.zero_le _⟩ (fun r_31 s_31 => ?_)
      exact j_iret C dX10_grades_34
  · refine j_aload_n C dX10_grades_7 rfl ?_
    refine j_ldc C dX10_grades_8 lc_RX10_50 ?_
    refine j_callVI C (As := [.int ((-100001 : Int32))]) dX10_grades_10 (CX10_finding l M hD v0 h0 (-100001 : Int32) s_1) vv_RX10_51 h0 (by decide) rfl rfl ⟨rfl, rfl⟩ (by decide) (Nat.le_of_ble_eq_true rfl) ⟨Nat.zero_le _, Nat.zero_le _⟩ (fun r_10 s_10 => ?_)
    exact j_iret C dX10_grades_13
set_option maxRecDepth 20000 in
set_option maxHeartbeats 4000000 in
theorem CX2_giveBack (l : Launch) (M : Mc) (hD : Dj M) (v0 : Nat) (h0 : isK v0 2) (v1 : Nat) (h1 : isK v1 3) (σ : Sg) : Ct l M yX2_giveBack cX2_giveBack 2 none { frames := 3, cells := 0, slots := 0, locals := 90 } vV [.ref (adr M v0), .ref (adr M v1)] σ (fX2_giveBack v0 v1 σ) := by
  refine ct_of (l := l) hD (by decide) (Nat.le_of_ble_eq_true rfl) ?_
  intro p e s m args below meth c C
  unfold fX2_giveBack
  refine j_aload_n C dX2_giveBack_0 rfl ?_
  refine j_getI C dX2_giveBack_1 fl_RX2_21 h0 (by decide) rfl ?_
  refine j_if_ne C (tgt := 8) dX2_giveBack_4 (by decide) ?_ ?_
  · refine j_aload_n C dX2_giveBack_8 rfl ?_
    refine j_aload_n C dX2_giveBack_9 rfl ?_
    refine j_getI C dX2_giveBack_10 fl_RX2_17 h0 (by decide) rfl ?_
    refine j_bipush C (v := (16 : Int32)) dX2_giveBack_13 (by decide) ?_
    refine j_iadd C dX2_giveBack_15 ?_
    refine j_iconst C (v := (1 : Int32)) dX2_giveBack_16 (by decide) ?_
    refine j_isub C dX2_giveBack_17 ?_
    refine j_bipush C (v := (16 : Int32)) dX2_giveBack_18 (by decide) ?_
    refine j_irem C dX2_giveBack_20 (by decide) ?_
    refine j_put C dX2_giveBack_21 fl_RX2_17 fs_2_1 h0 (by decide) rfl rfl rfl (fun s_21 => ?_)
    refine j_aload_n C dX2_giveBack_24 rfl ?_
    refine j_dup C dX2_giveBack_25 rfl ?_
    refine j_getI C dX2_giveBack_26 fl_RX2_21 h0 (by decide) rfl ?_
    refine j_iconst C (v := (1 : Int32)) dX2_giveBack_29 (by decide) ?_
    refine j_isub C dX2_giveBack_30 ?_
    refine j_put C dX2_giveBack_31 fl_RX2_21 fs_2_2 h0 (by decide) rfl rfl rfl (fun s_31 => ?_)
    refine j_aload_n C dX2_giveBack_34 rfl ?_
    refine j_aload_n C dX2_giveBack_35 rfl ?_
    refine j_getR C dX2_giveBack_36 fl_RX2_11 h0 (by decide) rfl rfl (by decide) (fun h_36 => ?_)
    refine j_aload_n C dX2_giveBack_39 rfl ?_
    refine j_getI C dX2_giveBack_40 fl_RX2_17 h0 (by decide) rfl ?_
    refine j_aald C (t0 := 4) dX2_giveBack_43 h_36 (by decide) rfl (fun h_43 => ?_)
    refine j_callVv C (As := [.ref (adr M (rf (rf v0 0) ((s_31 v0 1)).toNatClampNeg))]) dX2_giveBack_44 (CX3_takeFrom l M hD v1 h1 (rf (rf v0 0) ((s_31 v0 1)).toNatClampNeg) h_43 s_31) vv_RX2_25 h1 (by decide) rfl rfl ⟨rfl, rfl⟩ (by decide) (Nat.le_of_ble_eq_true rfl) ⟨Nat.zero_le _, Nat.zero_le _⟩ (fun r_44 s_44 => ?_)
    exact j_vret C dX2_giveBack_47
  · exact j_vret C dX2_giveBack_7
set_option maxRecDepth 20000 in
set_option maxHeartbeats 4000000 in
theorem CX10_undo (l : Launch) (M : Mc) (hD : Dj M) (v0 : Nat) (h0 : isK v0 10) (σ : Sg) : Ct l M yX10_undo cX10_undo 1 (some .int) { frames := 4, cells := 0, slots := 0, locals := 111 } vI [.ref (adr M v0)] σ (fX10_undo v0 σ) := by
  refine ct_of (l := l) hD (by decide) (Nat.le_of_ble_eq_true rfl) ?_
  intro p e s m args below meth c C
  unfold fX10_undo
  refine j_aload_n C dX10_undo_0 rfl ?_
  refine j_getR C dX10_undo_1 fl_RX10_31 h0 (by decide) rfl rfl (by decide) (fun h_1 => ?_)
  refine j_getI C dX10_undo_4 fl_RX10_268 h_1 (by decide) rfl ?_
  refine j_if_ne C (tgt := 17) dX10_undo_7 (by decide) ?_ ?_
  · refine j_aload_n C dX10_undo_17 rfl ?_
    refine j_getR C dX10_undo_18 fl_RX10_31 h0 (by decide) rfl rfl (by decide) (fun h_18 => ?_)
    refine j_aload_n C dX10_undo_21 rfl ?_
    refine j_getR C dX10_undo_22 fl_RX10_27 h0 (by decide) rfl rfl (by decide) (fun h_22 => ?_)
    refine j_callVv C (As := [.ref (adr M (rf v0 2))]) dX10_undo_25 (CX2_giveBack l M hD (rf v0 3) h_18 (rf v0 2) h_22 σ) vv_RX10_269 h_18 (by decide) rfl rfl ⟨rfl, rfl⟩ (by decide) (Nat.le_of_ble_eq_true rfl) ⟨Nat.zero_le _, Nat.zero_le _⟩ (fun r_25 s_25 => ?_)
    refine j_aload_n C dX10_undo_28 rfl ?_
    refine j_callVv C (As := []) dX10_undo_29 (CX10_forgetTheDay l M hD v0 h0 s_25) vv_RX10_273 h0 (by decide) rfl rfl ⟨rfl, rfl⟩ (by decide) (Nat.le_of_ble_eq_true rfl) ⟨Nat.zero_le _, Nat.zero_le _⟩ (fun r_29 s_29 => ?_)
    refine j_aload_n C dX10_undo_32 rfl ?_
    refine j_getR C dX10_undo_33 fl_RX10_31 h0 (by decide) rfl rfl (by decide) (fun h_33 => ?_)
    refine j_getI C dX10_undo_36 fl_RX10_268 h_33 (by decide) rfl ?_
    exact j_iret C dX10_undo_39
  · refine j_aload_n C dX10_undo_10 rfl ?_
    refine j_ldc C dX10_undo_11 lc_RX10_121 ?_
    refine j_callVI C (As := [.int ((-100006 : Int32))]) dX10_undo_13 (CX10_finding l M hD v0 h0 (-100006 : Int32) σ) vv_RX10_51 h0 (by decide) rfl rfl ⟨rfl, rfl⟩ (by decide) (Nat.le_of_ble_eq_true rfl) ⟨Nat.zero_le _, Nat.zero_le _⟩ (fun r_13 s_13 => ?_)
    exact j_iret C dX10_undo_16
set_option maxRecDepth 20000 in
set_option maxHeartbeats 4000000 in
theorem CX10_all (l : Launch) (M : Mc) (hD : Dj M) (v0 : Nat) (h0 : isK v0 10) (v1 : Int32) (σ : Sg) : Ct l M yX10_all cX10_all 2 (some .int) { frames := 1, cells := 0, slots := 0, locals := 21 } vI [.ref (adr M v0), .int v1] σ (fX10_all v0 v1 σ) := by
  refine ct_of (l := l) hD (by decide) (Nat.le_of_ble_eq_true rfl) ?_
  intro p e s m args below meth c C
  unfold fX10_all
  refine j_iload_n C dX10_all_0 rfl ?_
  refine j_cases (fun hq1_0 => ?_) (fun hq1_0 => ?_)
  · refine j_tabIn C dX10_all_1 (tgt := 36) hq1_0 (by decide) (by decide) rfl (by decide) ?_
    refine j_aload_n C dX10_all_36 rfl ?_
    refine j_getR C dX10_all_37 fl_RX10_27 h0 (by decide) rfl rfl (by decide) (fun h_37 => ?_)
    refine j_getR C dX10_all_40 fl_RX10_65 h_37 (by decide) rfl rfl (by decide) (fun h_40 => ?_)
    refine j_getI C dX10_all_43 fl_RX10_69 h_40 (by decide) rfl ?_
    exact j_iret C dX10_all_46
  · refine j_cases (fun hq1_1 => ?_) (fun hq1_1 => ?_)
    · refine j_tabIn C dX10_all_1 (tgt := 47) hq1_1 (by decide) (by decide) rfl (by decide) ?_
      refine j_aload_n C dX10_all_47 rfl ?_
      refine j_getR C dX10_all_48 fl_RX10_27 h0 (by decide) rfl rfl (by decide) (fun h_48 => ?_)
      refine j_getR C dX10_all_51 fl_RX10_91 h_48 (by decide) rfl rfl (by decide) (fun h_51 => ?_)
      refine j_getI C dX10_all_54 fl_RX10_95 h_51 (by decide) rfl ?_
      exact j_iret C dX10_all_57
    · refine j_cases (fun hq1_2 => ?_) (fun hq1_2 => ?_)
      · refine j_tabIn C dX10_all_1 (tgt := 58) hq1_2 (by decide) (by decide) rfl (by decide) ?_
        refine j_aload_n C dX10_all_58 rfl ?_
        refine j_getR C dX10_all_59 fl_RX10_27 h0 (by decide) rfl rfl (by decide) (fun h_59 => ?_)
        refine j_getR C dX10_all_62 fl_RX10_141 h_59 (by decide) rfl rfl (by decide) (fun h_62 => ?_)
        refine j_getI C dX10_all_65 fl_RX10_276 h_62 (by decide) rfl ?_
        exact j_iret C dX10_all_68
      · refine j_cases (fun hq1_3 => ?_) (fun hq1_3 => ?_)
        · refine j_tabIn C dX10_all_1 (tgt := 69) hq1_3 (by decide) (by decide) rfl (by decide) ?_
          refine j_aload_n C dX10_all_69 rfl ?_
          refine j_getR C dX10_all_70 fl_RX10_27 h0 (by decide) rfl rfl (by decide) (fun h_70 => ?_)
          refine j_getI C dX10_all_73 fl_RX10_155 h_70 (by decide) rfl ?_
          exact j_iret C dX10_all_76
        · refine j_cases (fun hq1_4 => ?_) (fun hq1_4 => ?_)
          · refine j_tabIn C dX10_all_1 (tgt := 77) hq1_4 (by decide) (by decide) rfl (by decide) ?_
            refine j_aload_n C dX10_all_77 rfl ?_
            refine j_getI C dX10_all_78 fl_RX10_41 h0 (by decide) rfl ?_
            exact j_iret C dX10_all_81
          · refine j_tabOut C dX10_all_1 (tgt := 82) (by have hq1_0 := i_ne hq1_0; have hq1_1 := i_ne hq1_1; have hq1_2 := i_ne hq1_2; have hq1_3 := i_ne hq1_3; have hq1_4 := i_ne hq1_4; simp only [show ((0 : Int32)).toInt = 0 from rfl, show ((1 : Int32)).toInt = 1 from rfl, show ((2 : Int32)).toInt = 2 from rfl, show ((3 : Int32)).toInt = 3 from rfl, show ((4 : Int32)).toInt = 4 from rfl] at *; omega) (by decide) ?_
            refine j_aload_n C dX10_all_82 rfl ?_
            refine j_ldc C dX10_all_83 lc_RX10_50 ?_
            refine j_callVI C (As := [.int ((-100001 : Int32))]) dX10_all_85 (CX10_finding l M hD v0 h0 (-100001 : Int32) σ) vv_RX10_51 h0 (by decide) rfl rfl ⟨rfl, rfl⟩ (by decide) (Nat.le_of_ble_eq_true rfl) ⟨Nat.zero_le _, Nat.zero_le _⟩ (fun r_85 s_85 => ?_)
            exact j_iret C dX10_all_88
