set_option maxRecDepth 20000 in
set_option maxHeartbeats 4000000 in
theorem CX6_bringUpTo (l : Launch) (M : Mc) (hD : Dj M) (v0 : Nat) (h0 : isK v0 6) (v1 : Int32) (v2 : Nat) (h2 : isK v2 5) (σ : Sg) : Ct l M yX6_bringUpTo cX6_bringUpTo 5 none { frames := 1, cells := 0, slots := 0, locals := 26 } vV [.ref (adr M v0), .int v1, .ref (adr M v2)] σ (fX6_bringUpTo v0 v1 v2 σ) := by
  refine ct_of (l := l) hD (by decide) (Nat.le_of_ble_eq_true rfl) ?_
  intro p e s m args below meth c C
  have H66 : ∀ (v3 : Int32) (n : Nat) (v4 : Int32) (τ : Sg), J p l e { frames := 1, cells := 0, slots := 0, locals := 26 } s m args below meth c M 5 vV τ 66 [(0, .ref (adr M v0)), (2, .ref (adr M v2)), (3, .int v3), (4, .int v4)] [] (lq1 (fX6_bringUpTo_66 v0 v2 v3) n v4 τ) := by
    intro v3
    refine j_lq1 (Ls := fun v4 => [(0, .ref (adr M v0)), (2, .ref (adr M v2)), (3, .int v3), (4, .int v4)]) (st := fun _ => []) ?_
    intro k66 hk66 v4 σ
    have H91 : ∀ (v4 : Int32) (τ : Sg), J p l e { frames := 1, cells := 0, slots := 0, locals := 26 } s m args below meth c M 5 vV τ 91 [(0, .ref (adr M v0)), (2, .ref (adr M v2)), (3, .int v3), (4, .int v4)] [] (fX6_bringUpTo_91 v0 v2 v3 v4 k66 τ) := by
      intro v4 σ
      unfold fX6_bringUpTo_91
      refine j_iinc C (v := (1 : Int32)) (Ls' := fun v4_91 => [(4, .int v4_91), (0, .ref (adr M v0)), (2, .ref (adr M v2)), (3, .int v3)]) dX6_bringUpTo_91 3 rfl (by decide) (by decide) (fun _ => rfl) (fun v4_91 => ?_)
      refine j_goto C (tgt := 66) dX6_bringUpTo_94 (by decide) ?_
      refine j_sub (Ls' := [(0, .ref (adr M v0)), (2, .ref (adr M v2)), (3, .int v3), (4, .int v4_91)]) [1, 2, 3, 0] rfl ?_
      exact hk66 v4_91 σ
    unfold fX6_bringUpTo_66
    refine j_iload C dX6_bringUpTo_66 rfl ?_
    refine j_aload_n C dX6_bringUpTo_68 rfl ?_
    refine j_getI C dX6_bringUpTo_69 fl_RX6_52 h2 (by decide) rfl ?_
    refine j_icmp_ge C (tgt := 97) dX6_bringUpTo_72 (by decide) ?_ ?_
    · refine j_aload_n C dX6_bringUpTo_97 rfl ?_
      refine j_getI C dX6_bringUpTo_98 fl_RX6_9 h0 (by decide) rfl ?_
      refine j_iconst C (v := (-1 : Int32)) dX6_bringUpTo_101 (by decide) ?_
      refine j_icmp_eq C (tgt := 123) dX6_bringUpTo_102 (by decide) ?_ ?_
      · exact j_vret C dX6_bringUpTo_123
      · refine j_aload_n C dX6_bringUpTo_105 rfl ?_
        refine j_getR C dX6_bringUpTo_106 fl_RX6_31 h0 (by decide) rfl rfl (by decide) (fun h_106 => ?_)
        refine j_aload_n C dX6_bringUpTo_109 rfl ?_
        refine j_getI C dX6_bringUpTo_110 fl_RX6_15 h0 (by decide) rfl ?_
        refine j_dup2 C dX6_bringUpTo_113 rfl rfl ?_
        refine j_iald C dX6_bringUpTo_114 h_106 ?_
        refine j_iconst C (v := (1 : Int32)) dX6_bringUpTo_115 (by decide) ?_
        refine j_aload_n C dX6_bringUpTo_116 rfl ?_
        refine j_getI C dX6_bringUpTo_117 fl_RX6_9 h0 (by decide) rfl ?_
        refine j_ishl C dX6_bringUpTo_120 ?_
        refine j_ior C dX6_bringUpTo_121 ?_
        refine j_iast C dX6_bringUpTo_122 h_106 (fun s_122 => ?_)
        exact j_vret C dX6_bringUpTo_123
    · refine j_iload_n C dX6_bringUpTo_75 rfl ?_
      refine j_iload C dX6_bringUpTo_76 rfl ?_
      refine j_ishr C dX6_bringUpTo_78 ?_
      refine j_iconst C (v := (1 : Int32)) dX6_bringUpTo_79 (by decide) ?_
      refine j_iand C dX6_bringUpTo_80 ?_
      refine j_if_eq C (tgt := 91) dX6_bringUpTo_81 (by decide) ?_ ?_
      · exact H91 v4 σ
      · refine j_aload_n C dX6_bringUpTo_84 rfl ?_
        refine j_aload_n C dX6_bringUpTo_85 rfl ?_
        refine j_iload C dX6_bringUpTo_86 rfl ?_
        refine j_callVv C (As := [.ref (adr M v2), .int v4]) dX6_bringUpTo_88 (CX6_take l M hD v0 h0 v2 h2 v4 σ) vv_RX6_55 h0 (by decide) rfl rfl ⟨rfl, rfl⟩ (by decide) (Nat.le_of_ble_eq_true rfl) ⟨Nat.zero_le _, Nat.zero_le _⟩ (fun r_88 s_88 => ?_)
        exact H91 v4 s_88
  unfold fX6_bringUpTo
  refine j_iload_n C dX6_bringUpTo_0 rfl ?_
  refine j_aload_n C dX6_bringUpTo_1 rfl ?_
  refine j_getI C dX6_bringUpTo_2 fl_RX6_18 h0 (by decide) rfl ?_
  refine j_icmp_ge C (tgt := 9) dX6_bringUpTo_5 (by decide) ?_ ?_
  · refine j_aload_n C dX6_bringUpTo_9 rfl ?_
    refine j_aload_n C dX6_bringUpTo_10 rfl ?_
    refine j_aload_n C dX6_bringUpTo_11 rfl ?_
    refine j_getI C dX6_bringUpTo_12 fl_RX6_34 h0 (by decide) rfl ?_
    refine j_iload_n C dX6_bringUpTo_15 rfl ?_
    refine j_callVI C (As := [.int ((σ v0 0)), .int v1]) dX6_bringUpTo_16 (CX5_nextHanding l M hD v2 h2 (σ v0 0) v1 σ) vv_RX6_37 h2 (by decide) rfl rfl ⟨rfl, rfl⟩ (by decide) (Nat.le_of_ble_eq_true rfl) ⟨Nat.zero_le _, Nat.zero_le _⟩ (fun r_16 s_16 => ?_)
    refine j_put C dX6_bringUpTo_19 fl_RX6_18 fs_6_3 h0 (by decide) rfl rfl rfl (fun s_19 => ?_)
    refine j_aload_n C dX6_bringUpTo_22 rfl ?_
    refine j_sipush C (v := (501 : Int32)) dX6_bringUpTo_23 (by decide) ?_
    refine j_put C dX6_bringUpTo_26 fl_RX6_21 fs_6_4 h0 (by decide) rfl rfl rfl (fun s_26 => ?_)
    refine j_aload_n C dX6_bringUpTo_29 rfl ?_
    refine j_getR C dX6_bringUpTo_30 fl_RX6_24 h0 (by decide) rfl rfl (by decide) (fun h_30 => ?_)
    refine j_iconst C (v := (0 : Int32)) dX6_bringUpTo_33 (by decide) ?_
    refine j_callSv C (As := [.ref (adr M (rf v0 5)), .int ((0 : Int32))]) dX6_bringUpTo_34 (CJ7_fill_53178 l M hD (rf v0 5) h_30 (0 : Int32) s_26) vs_RX6_43 rfl rfl ⟨rfl, rfl⟩ (by decide) (Nat.le_of_ble_eq_true rfl) ⟨Nat.zero_le _, Nat.zero_le _⟩ (fun r_34 s_34 => ?_)
    refine j_aload_n C dX6_bringUpTo_37 rfl ?_
    refine j_getR C dX6_bringUpTo_38 fl_RX6_28 h0 (by decide) rfl rfl (by decide) (fun h_38 => ?_)
    refine j_iconst C (v := (0 : Int32)) dX6_bringUpTo_41 (by decide) ?_
    refine j_callSv C (As := [.ref (adr M (rf v0 6)), .int ((0 : Int32))]) dX6_bringUpTo_42 (CJ7_fill_53178 l M hD (rf v0 6) h_38 (0 : Int32) s_34) vs_RX6_43 rfl rfl ⟨rfl, rfl⟩ (by decide) (Nat.le_of_ble_eq_true rfl) ⟨Nat.zero_le _, Nat.zero_le _⟩ (fun r_42 s_42 => ?_)
    refine j_aload_n C dX6_bringUpTo_45 rfl ?_
    refine j_getR C dX6_bringUpTo_46 fl_RX6_31 h0 (by decide) rfl rfl (by decide) (fun h_46 => ?_)
    refine j_iconst C (v := (0 : Int32)) dX6_bringUpTo_49 (by decide) ?_
    refine j_callSv C (As := [.ref (adr M (rf v0 7)), .int ((0 : Int32))]) dX6_bringUpTo_50 (CJ7_fill_53178 l M hD (rf v0 7) h_46 (0 : Int32) s_42) vs_RX6_43 rfl rfl ⟨rfl, rfl⟩ (by decide) (Nat.le_of_ble_eq_true rfl) ⟨Nat.zero_le _, Nat.zero_le _⟩ (fun r_50 s_50 => ?_)
    refine j_aload_n C dX6_bringUpTo_53 rfl ?_
    refine j_aload_n C dX6_bringUpTo_54 rfl ?_
    refine j_getI C dX6_bringUpTo_55 fl_RX6_34 h0 (by decide) rfl ?_
    refine j_iload_n C dX6_bringUpTo_58 rfl ?_
    refine j_callVI C (As := [.int ((s_50 v0 0)), .int v1]) dX6_bringUpTo_59 (CX5_heldBy l M hD v2 h2 (s_50 v0 0) v1 s_50) vv_RX6_49 h2 (by decide) rfl rfl ⟨rfl, rfl⟩ (by decide) (Nat.le_of_ble_eq_true rfl) ⟨Nat.zero_le _, Nat.zero_le _⟩ (fun r_59 s_59 => ?_)
    refine j_istore_n C (Ls' := fun v3_62 => [(3, .int v3_62), (0, .ref (adr M v0)), (1, .int v1), (2, .ref (adr M v2))]) dX6_bringUpTo_62 (by decide) (fun _ => rfl) (fun v3_62 => ?_)
    refine j_iconst C (v := (0 : Int32)) dX6_bringUpTo_63 (by decide) ?_
    refine j_istore C (Ls' := fun v4_64 => [(4, .int v4_64), (3, .int v3_62), (0, .ref (adr M v0)), (1, .int v1), (2, .ref (adr M v2))]) dX6_bringUpTo_64 (by decide) (fun _ => rfl) (fun v4_64 => ?_)
    refine j_sub (Ls' := [(0, .ref (adr M v0)), (2, .ref (adr M v2)), (3, .int v3_62), (4, .int v4_64)]) [2, 4, 1, 0] rfl ?_
    exact H66 v3_62 FU v4_64 s_59
  · exact j_vret C dX6_bringUpTo_8
set_option maxRecDepth 20000 in
set_option maxHeartbeats 4000000 in
theorem CX3_isForced (l : Launch) (M : Mc) (hD : Dj M) (v0 : Nat) (h0 : isK v0 3) (v1 : Int32) (v2 : Int32) (σ : Sg) : Ct l M yX3_isForced cX3_isForced 4 (some .boolean) { frames := 0, cells := 0, slots := 0, locals := 0 } vI [.ref (adr M v0), .int v1, .int v2] σ (fX3_isForced v0 v1 v2 σ) := by
  refine ct_of (l := l) hD (by decide) (Nat.le_of_ble_eq_true rfl) ?_
  intro p e s m args below meth c C
  have H2 : ∀  (n : Nat) (v3 : Int32) (τ : Sg), J p l e { frames := 0, cells := 0, slots := 0, locals := 0 } s m args below meth c M 4 vI τ 2 [(0, .ref (adr M v0)), (1, .int v1), (2, .int v2), (3, .int v3)] [] (lq1 (fX3_isForced_2 v0 v1 v2) n v3 τ) := by
    refine j_lq1 (Ls := fun v3 => [(0, .ref (adr M v0)), (1, .int v1), (2, .int v2), (3, .int v3)]) (st := fun _ => []) ?_
    intro k2 hk2 v3 σ
    have H32 : ∀ (v3 : Int32) (τ : Sg), J p l e { frames := 0, cells := 0, slots := 0, locals := 0 } s m args below meth c M 4 vI τ 32 [(0, .ref (adr M v0)), (1, .int v1), (2, .int v2), (3, .int v3)] [] (fX3_isForced_32 v0 v1 v2 v3 k2 τ) := by
      intro v3 σ
      unfold fX3_isForced_32
      refine j_iinc C (v := (1 : Int32)) (Ls' := fun v3_32 => [(3, .int v3_32), (0, .ref (adr M v0)), (1, .int v1), (2, .int v2)]) dX3_isForced_32 3 rfl (by decide) (by decide) (fun _ => rfl) (fun v3_32 => ?_)
      refine j_goto C (tgt := 2) dX3_isForced_35 (by decide) ?_
      refine j_sub (Ls' := [(0, .ref (adr M v0)), (1, .int v1), (2, .int v2), (3, .int v3_32)]) [1, 2, 3, 0] rfl ?_
      exact hk2 v3_32 σ
    unfold fX3_isForced_2
    refine j_iload_n C dX3_isForced_2 rfl ?_
    refine j_aload_n C dX3_isForced_3 rfl ?_
    refine j_getI C dX3_isForced_4 fl_RX3_32 h0 (by decide) rfl ?_
    refine j_icmp_ge C (tgt := 38) dX3_isForced_7 (by decide) ?_ ?_
    · refine j_iconst C (v := (0 : Int32)) dX3_isForced_38 (by decide) ?_
      exact j_zret C dX3_isForced_39
    · refine j_aload_n C dX3_isForced_10 rfl ?_
      refine j_getR C dX3_isForced_11 fl_RX3_36 h0 (by decide) rfl rfl (by decide) (fun h_11 => ?_)
      refine j_iload_n C dX3_isForced_14 rfl ?_
      refine j_iald C dX3_isForced_15 h_11 ?_
      refine j_iload_n C dX3_isForced_16 rfl ?_
      refine j_icmp_ne C (tgt := 32) dX3_isForced_17 (by decide) ?_ ?_
      · exact H32 v3 σ
      · refine j_aload_n C dX3_isForced_20 rfl ?_
        refine j_getR C dX3_isForced_21 fl_RX3_40 h0 (by decide) rfl rfl (by decide) (fun h_21 => ?_)
        refine j_iload_n C dX3_isForced_24 rfl ?_
        refine j_iald C dX3_isForced_25 h_21 ?_
        refine j_iload_n C dX3_isForced_26 rfl ?_
        refine j_icmp_ne C (tgt := 32) dX3_isForced_27 (by decide) ?_ ?_
        · exact H32 v3 σ
        · refine j_iconst C (v := (1 : Int32)) dX3_isForced_30 (by decide) ?_
          exact j_zret C dX3_isForced_31
  unfold fX3_isForced
  refine j_iconst C (v := (0 : Int32)) dX3_isForced_0 (by decide) ?_
  refine j_istore_n C (Ls' := fun v3_1 => [(3, .int v3_1), (0, .ref (adr M v0)), (1, .int v1), (2, .int v2)]) dX3_isForced_1 (by decide) (fun _ => rfl) (fun v3_1 => ?_)
  refine j_sub (Ls' := [(0, .ref (adr M v0)), (1, .int v1), (2, .int v2), (3, .int v3_1)]) [1, 2, 3, 0] rfl ?_
  exact H2 FU v3_1 σ
set_option maxRecDepth 20000 in
set_option maxHeartbeats 4000000 in
theorem CX0_sectionAhead (l : Launch) (M : Mc) (hD : Dj M) (v0 : Nat) (h0 : isK v0 0) (v1 : Int32) (σ : Sg) : Ct l M yX0_sectionAhead cX0_sectionAhead 2 (some .int) { frames := 0, cells := 0, slots := 0, locals := 0 } vI [.ref (adr M v0), .int v1] σ (fX0_sectionAhead v0 v1 σ) := by
  refine ct_of (l := l) hD (by decide) (Nat.le_of_ble_eq_true rfl) ?_
  intro p e s m args below meth c C
  unfold fX0_sectionAhead
  refine j_aload_n C dX0_sectionAhead_0 rfl ?_
  refine j_getR C dX0_sectionAhead_1 fl_RX0_45 h0 (by decide) rfl rfl (by decide) (fun h_1 => ?_)
  refine j_iload_n C dX0_sectionAhead_4 rfl ?_
  refine j_iald C dX0_sectionAhead_5 h_1 ?_
  refine j_if_ne C (tgt := 18) dX0_sectionAhead_6 (by decide) ?_ ?_
  · refine j_aload_n C dX0_sectionAhead_18 rfl ?_
    refine j_getR C dX0_sectionAhead_19 fl_RX0_42 h0 (by decide) rfl rfl (by decide) (fun h_19 => ?_)
    refine j_iload_n C dX0_sectionAhead_22 rfl ?_
    refine j_iald C dX0_sectionAhead_23 h_19 ?_
    refine j_iconst C (v := (1 : Int32)) dX0_sectionAhead_24 (by decide) ?_
    refine j_isub C dX0_sectionAhead_25 ?_
    exact j_iret C dX0_sectionAhead_26
  · refine j_aload_n C dX0_sectionAhead_9 rfl ?_
    refine j_getR C dX0_sectionAhead_10 fl_RX0_42 h0 (by decide) rfl rfl (by decide) (fun h_10 => ?_)
    refine j_iload_n C dX0_sectionAhead_13 rfl ?_
    refine j_iald C dX0_sectionAhead_14 h_10 ?_
    refine j_goto C (tgt := 26) dX0_sectionAhead_15 (by decide) ?_
    exact j_iret C dX0_sectionAhead_26
set_option maxRecDepth 20000 in
set_option maxHeartbeats 4000000 in
theorem CX6_metBeyond (l : Launch) (M : Mc) (hD : Dj M) (v0 : Nat) (h0 : isK v0 6) (v1 : Int32) (v2 : Int32) (σ : Sg) : Ct l M yX6_metBeyond cX6_metBeyond 5 (some .int) { frames := 0, cells := 0, slots := 0, locals := 0 } vI [.ref (adr M v0), .int v1, .int v2] σ (fX6_metBeyond v0 v1 v2 σ) := by
  refine ct_of (l := l) hD (by decide) (Nat.le_of_ble_eq_true rfl) ?_
  intro p e s m args below meth c C
  have H5 : ∀  (n : Nat) (v3 : Int32) (v4 : Int32) (τ : Sg), J p l e { frames := 0, cells := 0, slots := 0, locals := 0 } s m args below meth c M 5 vI τ 5 [(0, .ref (adr M v0)), (1, .int v1), (2, .int v2), (3, .int v3), (4, .int v4)] [] (lq2 (fX6_metBeyond_5 v0 v1 v2) n v3 v4 τ) := by
    refine j_lq2 (Ls := fun v3 v4 => [(0, .ref (adr M v0)), (1, .int v1), (2, .int v2), (3, .int v3), (4, .int v4)]) (st := fun _ _ => []) ?_
    intro k5 hk5 v3 v4 σ
    have H41 : ∀ (v3 : Int32) (v4 : Int32) (τ : Sg), J p l e { frames := 0, cells := 0, slots := 0, locals := 0 } s m args below meth c M 5 vI τ 41 [(0, .ref (adr M v0)), (1, .int v1), (2, .int v2), (3, .int v3), (4, .int v4)] [] (fX6_metBeyond_41 v0 v1 v2 v3 v4 k5 τ) := by
      intro v3 v4 σ
      unfold fX6_metBeyond_41
      refine j_iinc C (v := (1 : Int32)) (Ls' := fun v4_41 => [(4, .int v4_41), (0, .ref (adr M v0)), (1, .int v1), (2, .int v2), (3, .int v3)]) dX6_metBeyond_41 4 rfl (by decide) (by decide) (fun _ => rfl) (fun v4_41 => ?_)
      refine j_goto C (tgt := 5) dX6_metBeyond_44 (by decide) ?_
      refine j_sub (Ls' := [(0, .ref (adr M v0)), (1, .int v1), (2, .int v2), (3, .int v3), (4, .int v4_41)]) [1, 2, 3, 4, 0] rfl ?_
      exact hk5 v3 v4_41 σ
    have H31 : ∀ (v3 : Int32) (v4 : Int32) (τ : Sg), J p l e { frames := 0, cells := 0, slots := 0, locals := 0 } s m args below meth c M 5 vI τ 31 [(0, .ref (adr M v0)), (1, .int v1), (2, .int v2), (3, .int v3), (4, .int v4)] [] (fX6_metBeyond_31 v0 v1 v2 v3 v4 k5 τ) := by
      intro v3 v4 σ
      unfold fX6_metBeyond_31
      refine j_iload_n C dX6_metBeyond_31 rfl ?_
      refine j_aload_n C dX6_metBeyond_32 rfl ?_
      refine j_getR C dX6_metBeyond_33 fl_RX6_31 h0 (by decide) rfl rfl (by decide) (fun h_33 => ?_)
      refine j_iload C dX6_metBeyond_36 rfl ?_
      refine j_iald C dX6_metBeyond_38 h_33 ?_
      refine j_ior C dX6_metBeyond_39 ?_
      refine j_istore_n C (Ls' := fun v3_40 => [(3, .int v3_40), (0, .ref (adr M v0)), (1, .int v1), (2, .int v2), (4, .int v4)]) dX6_metBeyond_40 (by decide) (fun _ => rfl) (fun v3_40 => ?_)
      refine j_sub (Ls' := [(0, .ref (adr M v0)), (1, .int v1), (2, .int v2), (3, .int v3_40), (4, .int v4)]) [1, 2, 3, 0, 4] rfl ?_
      exact H41 v3_40 v4 σ
    unfold fX6_metBeyond_5
    refine j_iload C dX6_metBeyond_5 rfl ?_
    refine j_bipush C (v := (7 : Int32)) dX6_metBeyond_7 (by decide) ?_
    refine j_icmp_ge C (tgt := 47) dX6_metBeyond_9 (by decide) ?_ ?_
    · refine j_iload_n C dX6_metBeyond_47 rfl ?_
      exact j_iret C dX6_metBeyond_48
    · refine j_iload_n C dX6_metBeyond_12 rfl ?_
      refine j_if_ne C (tgt := 25) dX6_metBeyond_13 (by decide) ?_ ?_
      · refine j_iload C dX6_metBeyond_25 rfl ?_
        refine j_iload_n C dX6_metBeyond_27 rfl ?_
        refine j_icmp_ge C (tgt := 41) dX6_metBeyond_28 (by decide) ?_ ?_
        · exact H41 v3 v4 σ
        · exact H31 v3 v4 σ
      · refine j_iload C dX6_metBeyond_16 rfl ?_
        refine j_iload_n C dX6_metBeyond_18 rfl ?_
        refine j_icmp_le C (tgt := 41) dX6_metBeyond_19 (by decide) ?_ ?_
        · exact H41 v3 v4 σ
        · refine j_goto C (tgt := 31) dX6_metBeyond_22 (by decide) ?_
          exact H31 v3 v4 σ
  unfold fX6_metBeyond
  refine j_iconst C (v := (0 : Int32)) dX6_metBeyond_0 (by decide) ?_
  refine j_istore_n C (Ls' := fun v3_1 => [(3, .int v3_1), (0, .ref (adr M v0)), (1, .int v1), (2, .int v2)]) dX6_metBeyond_1 (by decide) (fun _ => rfl) (fun v3_1 => ?_)
  refine j_iconst C (v := (0 : Int32)) dX6_metBeyond_2 (by decide) ?_
  refine j_istore C (Ls' := fun v4_3 => [(4, .int v4_3), (3, .int v3_1), (0, .ref (adr M v0)), (1, .int v1), (2, .int v2)]) dX6_metBeyond_3 (by decide) (fun _ => rfl) (fun v4_3 => ?_)
  refine j_sub (Ls' := [(0, .ref (adr M v0)), (1, .int v1), (2, .int v2), (3, .int v3_1), (4, .int v4_3)]) [2, 3, 4, 1, 0] rfl ?_
  exact H5 FU v3_1 v4_3 σ
set_option maxRecDepth 20000 in
set_option maxHeartbeats 4000000 in
theorem CX0_isBarred (l : Launch) (M : Mc) (hD : Dj M) (v0 : Nat) (h0 : isK v0 0) (v1 : Int32) (v2 : Int32) (v3 : Nat) (h3 : isK v3 6) (σ : Sg) : Ct l M yX0_isBarred cX0_isBarred 13 (some .boolean) { frames := 1, cells := 0, slots := 0, locals := 24 } vI [.ref (adr M v0), .int v1, .int v2, .ref (adr M v3)] σ (fX0_isBarred v0 v1 v2 v3 σ) := by
  refine ct_of (l := l) hD (by decide) (Nat.le_of_ble_eq_true rfl) ?_
  intro p e s m args below meth c C
  have H102 : ∀ (v5 : Int32) (v6 : Int32) (v7 : Int32) (v8 : Int32) (v9 : Int32) (n : Nat) (v10 : Int32) (τ : Sg), J p l e { frames := 1, cells := 0, slots := 0, locals := 24 } s m args below meth c M 13 vI τ 102 [(0, .ref (adr M v0)), (1, .int v1), (3, .ref (adr M v3)), (5, .int v5), (6, .int v6), (7, .int v7), (8, .int v8), (9, .int v9), (10, .int v10)] [] (lq1 (fX0_isBarred_102 v0 v1 v3 v5 v6 v7 v8 v9) n v10 τ) := by
    intro v5 v6 v7 v8 v9
    refine j_lq1 (Ls := fun v10 => [(0, .ref (adr M v0)), (1, .int v1), (3, .ref (adr M v3)), (5, .int v5), (6, .int v6), (7, .int v7), (8, .int v8), (9, .int v9), (10, .int v10)]) (st := fun _ => []) ?_
    intro k102 hk102 v10 σ
    have H237 : ∀ (v10 : Int32) (τ : Sg), J p l e { frames := 1, cells := 0, slots := 0, locals := 24 } s m args below meth c M 13 vI τ 237 [(0, .ref (adr M v0)), (1, .int v1), (3, .ref (adr M v3)), (5, .int v5), (6, .int v6), (7, .int v7), (8, .int v8), (9, .int v9), (10, .int v10)] [] (fX0_isBarred_237 v0 v1 v3 v5 v6 v7 v8 v9 v10 k102 τ) := by
      intro v10 σ
      unfold fX0_isBarred_237
      refine j_iinc C (v := (1 : Int32)) (Ls' := fun v10_237 => [(10, .int v10_237), (0, .ref (adr M v0)), (1, .int v1), (3, .ref (adr M v3)), (5, .int v5), (6, .int v6), (7, .int v7), (8, .int v8), (9, .int v9)]) dX0_isBarred_237 8 rfl (by decide) (by decide) (fun _ => rfl) (fun v10_237 => ?_)
      refine j_goto C (tgt := 102) dX0_isBarred_240 (by decide) ?_
      refine j_sub (Ls' := [(0, .ref (adr M v0)), (1, .int v1), (3, .ref (adr M v3)), (5, .int v5), (6, .int v6), (7, .int v7), (8, .int v8), (9, .int v9), (10, .int v10_237)]) [1, 2, 3, 4, 5, 6, 7, 8, 0] rfl ?_
      exact hk102 v10_237 σ
    have H218 : ∀ (v10 : Int32) (w0 : Int32) (τ : Sg), J p l e { frames := 1, cells := 0, slots := 0, locals := 24 } s m args below meth c M 13 vI τ 218 [(0, .ref (adr M v0)), (1, .int v1), (3, .ref (adr M v3)), (5, .int v5), (6, .int v6), (7, .int v7), (8, .int v8), (9, .int v9), (10, .int v10)] [.int w0] (fX0_isBarred_218 v0 v1 v3 v5 v6 v7 v8 v9 v10 w0 k102 τ) := by
      intro v10 w0 σ
      unfold fX0_isBarred_218
      refine j_istore C (Ls' := fun v12_218 => [(12, .int v12_218), (0, .ref (adr M v0)), (1, .int v1), (3, .ref (adr M v3)), (5, .int v5), (6, .int v6), (7, .int v7), (8, .int v8), (9, .int v9), (10, .int v10)]) dX0_isBarred_218 (by decide) (fun _ => rfl) (fun v12_218 => ?_)
      refine j_iload C dX0_isBarred_220 rfl ?_
      refine j_iload C dX0_isBarred_222 rfl ?_
      refine j_ishr C dX0_isBarred_224 ?_
      refine j_iconst C (v := (1 : Int32)) dX0_isBarred_225 (by decide) ?_
      refine j_iand C dX0_isBarred_226 ?_
      refine j_if_ne C (tgt := 237) dX0_isBarred_227 (by decide) ?_ ?_
      · refine j_sub (Ls' := [(0, .ref (adr M v0)), (1, .int v1), (3, .ref (adr M v3)), (5, .int v5), (6, .int v6), (7, .int v7), (8, .int v8), (9, .int v9), (10, .int v10)]) [1, 2, 3, 4, 5, 6, 7, 8, 9] rfl ?_
        exact H237 v10 σ
      · refine j_iload C dX0_isBarred_230 rfl ?_
        refine j_if_ne C (tgt := 237) dX0_isBarred_232 (by decide) ?_ ?_
        · refine j_sub (Ls' := [(0, .ref (adr M v0)), (1, .int v1), (3, .ref (adr M v3)), (5, .int v5), (6, .int v6), (7, .int v7), (8, .int v8), (9, .int v9), (10, .int v10)]) [1, 2, 3, 4, 5, 6, 7, 8, 9] rfl ?_
          exact H237 v10 σ
        · refine j_iconst C (v := (1 : Int32)) dX0_isBarred_235 (by decide) ?_
          exact j_zret C dX0_isBarred_236
    have H217 : ∀ (v10 : Int32) (τ : Sg), J p l e { frames := 1, cells := 0, slots := 0, locals := 24 } s m args below meth c M 13 vI τ 217 [(0, .ref (adr M v0)), (1, .int v1), (3, .ref (adr M v3)), (5, .int v5), (6, .int v6), (7, .int v7), (8, .int v8), (9, .int v9), (10, .int v10)] [] (fX0_isBarred_217 v0 v1 v3 v5 v6 v7 v8 v9 v10 k102 τ) := by
      intro v10 σ
      unfold fX0_isBarred_217
      refine j_iconst C (v := (0 : Int32)) dX0_isBarred_217 (by decide) ?_
      exact H218 v10 (0 : Int32) σ
    have H180 : ∀ (v10 : Int32) (w0 : Int32) (τ : Sg), J p l e { frames := 1, cells := 0, slots := 0, locals := 24 } s m args below meth c M 13 vI τ 180 [(0, .ref (adr M v0)), (1, .int v1), (3, .ref (adr M v3)), (5, .int v5), (6, .int v6), (7, .int v7), (8, .int v8), (9, .int v9), (10, .int v10)] [.int w0] (fX0_isBarred_180 v0 v1 v3 v5 v6 v7 v8 v9 v10 w0 k102 τ) := by
      intro v10 w0 σ
      unfold fX0_isBarred_180
      refine j_istore C (Ls' := fun v11_180 => [(11, .int v11_180), (0, .ref (adr M v0)), (1, .int v1), (3, .ref (adr M v3)), (5, .int v5), (6, .int v6), (7, .int v7), (8, .int v8), (9, .int v9), (10, .int v10)]) dX0_isBarred_180 (by decide) (fun _ => rfl) (fun v11_180 => ?_)
      refine j_iload C dX0_isBarred_182 rfl ?_
      refine j_if_eq C (tgt := 217) dX0_isBarred_184 (by decide) ?_ ?_
      · refine j_sub (Ls' := [(0, .ref (adr M v0)), (1, .int v1), (3, .ref (adr M v3)), (5, .int v5), (6, .int v6), (7, .int v7), (8, .int v8), (9, .int v9), (10, .int v10)]) [1, 2, 3, 4, 5, 6, 7, 8, 9] rfl ?_
        exact H217 v10 σ
      · refine j_iload C dX0_isBarred_187 rfl ?_
        refine j_aload_n C dX0_isBarred_189 rfl ?_
        refine j_getR C dX0_isBarred_190 fl_RX0_35 h0 (by decide) rfl rfl (by decide) (fun h_190 => ?_)
        refine j_iload C dX0_isBarred_193 rfl ?_
        refine j_bipush C (v := (7 : Int32)) dX0_isBarred_195 (by decide) ?_
        refine j_imul C dX0_isBarred_197 ?_
        refine j_iload C dX0_isBarred_198 rfl ?_
        refine j_iadd C dX0_isBarred_200 ?_
        refine j_iald C dX0_isBarred_201 h_190 ?_
        refine j_aload_n C dX0_isBarred_202 rfl ?_
        refine j_getR C dX0_isBarred_203 fl_RX0_219 h3 (by decide) rfl rfl (by decide) (fun h_203 => ?_)
        refine j_iload C dX0_isBarred_206 rfl ?_
        refine j_iald C dX0_isBarred_208 h_203 ?_
        refine j_iadd C dX0_isBarred_209 ?_
        refine j_icmp_gt C (tgt := 217) dX0_isBarred_210 (by decide) ?_ ?_
        · refine j_sub (Ls' := [(0, .ref (adr M v0)), (1, .int v1), (3, .ref (adr M v3)), (5, .int v5), (6, .int v6), (7, .int v7), (8, .int v8), (9, .int v9), (10, .int v10)]) [1, 2, 3, 4, 5, 6, 7, 8, 9] rfl ?_
          exact H217 v10 σ
        · refine j_iconst C (v := (1 : Int32)) dX0_isBarred_213 (by decide) ?_
          refine j_goto C (tgt := 218) dX0_isBarred_214 (by decide) ?_
          refine j_sub (Ls' := [(0, .ref (adr M v0)), (1, .int v1), (3, .ref (adr M v3)), (5, .int v5), (6, .int v6), (7, .int v7), (8, .int v8), (9, .int v9), (10, .int v10)]) [1, 2, 3, 4, 5, 6, 7, 8, 9] rfl ?_
          exact H218 v10 (1 : Int32) σ
    unfold fX0_isBarred_102
    refine j_iload C dX0_isBarred_102 rfl ?_
    refine j_aload_n C dX0_isBarred_104 rfl ?_
    refine j_getR C dX0_isBarred_105 fl_RX0_12 h0 (by decide) rfl rfl (by decide) (fun h_105 => ?_)
    refine j_getR C dX0_isBarred_108 fl_RX0_80 h_105 (by decide) rfl rfl (by decide) (fun h_108 => ?_)
    refine j_getI C dX0_isBarred_111 fl_RX0_84 h_108 (by decide) rfl ?_
    refine j_icmp_ge C (tgt := 243) dX0_isBarred_114 (by decide) ?_ ?_
    · refine j_iconst C (v := (0 : Int32)) dX0_isBarred_243 (by decide) ?_
      exact j_zret C dX0_isBarred_244
    · refine j_aload_n C dX0_isBarred_117 rfl ?_
      refine j_getR C dX0_isBarred_118 fl_RX0_45 h0 (by decide) rfl rfl (by decide) (fun h_118 => ?_)
      refine j_iload C dX0_isBarred_121 rfl ?_
      refine j_iald C dX0_isBarred_123 h_118 ?_
      refine j_iload C dX0_isBarred_124 rfl ?_
      refine j_icmp_ne C (tgt := 237) dX0_isBarred_126 (by decide) ?_ ?_
      · exact H237 v10 σ
      · refine j_aload_n C dX0_isBarred_129 rfl ?_
        refine j_getR C dX0_isBarred_130 fl_RX0_48 h0 (by decide) rfl rfl (by decide) (fun h_130 => ?_)
        refine j_iload C dX0_isBarred_133 rfl ?_
        refine j_iald C dX0_isBarred_135 h_130 ?_
        refine j_aload_n C dX0_isBarred_136 rfl ?_
        refine j_getR C dX0_isBarred_137 fl_RX0_48 h0 (by decide) rfl rfl (by decide) (fun h_137 => ?_)
        refine j_iload_n C dX0_isBarred_140 rfl ?_
        refine j_iald C dX0_isBarred_141 h_137 ?_
        refine j_icmp_lt C (tgt := 237) dX0_isBarred_142 (by decide) ?_ ?_
        · exact H237 v10 σ
        · refine j_aload_n C dX0_isBarred_145 rfl ?_
          refine j_getR C dX0_isBarred_146 fl_RX0_39 h0 (by decide) rfl rfl (by decide) (fun h_146 => ?_)
          refine j_iload C dX0_isBarred_149 rfl ?_
          refine j_iald C dX0_isBarred_151 h_146 ?_
          refine j_iload C dX0_isBarred_152 rfl ?_
          refine j_ishr C dX0_isBarred_154 ?_
          refine j_iconst C (v := (1 : Int32)) dX0_isBarred_155 (by decide) ?_
          refine j_iand C dX0_isBarred_156 ?_
          refine j_if_ne C (tgt := 163) dX0_isBarred_157 (by decide) ?_ ?_
          · refine j_aload_n C dX0_isBarred_163 rfl ?_
            refine j_getI C dX0_isBarred_164 fl_RX0_63 h0 (by decide) rfl ?_
            refine j_iload C dX0_isBarred_167 rfl ?_
            refine j_ishr C dX0_isBarred_169 ?_
            refine j_iconst C (v := (1 : Int32)) dX0_isBarred_170 (by decide) ?_
            refine j_iand C dX0_isBarred_171 ?_
            refine j_if_eq C (tgt := 179) dX0_isBarred_172 (by decide) ?_ ?_
            · refine j_iconst C (v := (0 : Int32)) dX0_isBarred_179 (by decide) ?_
              exact H180 v10 (0 : Int32) σ
            · refine j_iconst C (v := (1 : Int32)) dX0_isBarred_175 (by decide) ?_
              refine j_goto C (tgt := 180) dX0_isBarred_176 (by decide) ?_
              exact H180 v10 (1 : Int32) σ
          · refine j_goto C (tgt := 237) dX0_isBarred_160 (by decide) ?_
            exact H237 v10 σ
  have H35 : ∀ (v4 : Int32) (v5 : Int32) (w0 : Int32) (τ : Sg), J p l e { frames := 1, cells := 0, slots := 0, locals := 24 } s m args below meth c M 13 vI τ 35 [(0, .ref (adr M v0)), (1, .int v1), (2, .int v2), (3, .ref (adr M v3)), (4, .int v4), (5, .int v5)] [.int w0] (fX0_isBarred_35 v0 v1 v2 v3 v4 v5 w0 τ) := by
    intro v4 v5 w0 σ
    unfold fX0_isBarred_35
    refine j_istore C (Ls' := fun v6_35 => [(6, .int v6_35), (0, .ref (adr M v0)), (1, .int v1), (2, .int v2), (3, .ref (adr M v3)), (4, .int v4), (5, .int v5)]) dX0_isBarred_35 (by decide) (fun _ => rfl) (fun v6_35 => ?_)
    refine j_iload_n C dX0_isBarred_37 rfl ?_
    refine j_aload_n C dX0_isBarred_38 rfl ?_
    refine j_getR C dX0_isBarred_39 fl_RX0_12 h0 (by decide) rfl rfl (by decide) (fun h_39 => ?_)
    refine j_getR C dX0_isBarred_42 fl_RX0_137 h_39 (by decide) rfl rfl (by decide) (fun h_42 => ?_)
    refine j_getR C dX0_isBarred_45 fl_RX0_156 h_42 (by decide) rfl rfl (by decide) (fun h_45 => ?_)
    refine j_iload C dX0_isBarred_48 rfl ?_
    refine j_iald C dX0_isBarred_50 h_45 ?_
    refine j_iadd C dX0_isBarred_51 ?_
    refine j_iconst C (v := (5 : Int32)) dX0_isBarred_52 (by decide) ?_
    refine j_iadd C dX0_isBarred_53 ?_
    refine j_istore C (Ls' := fun v7_54 => [(7, .int v7_54), (6, .int v6_35), (0, .ref (adr M v0)), (1, .int v1), (2, .int v2), (3, .ref (adr M v3)), (4, .int v4), (5, .int v5)]) dX0_isBarred_54 (by decide) (fun _ => rfl) (fun v7_54 => ?_)
    refine j_iconst C (v := (1 : Int32)) dX0_isBarred_56 (by decide) ?_
    refine j_aload_n C dX0_isBarred_57 rfl ?_
    refine j_getR C dX0_isBarred_58 fl_RX0_45 h0 (by decide) rfl rfl (by decide) (fun h_58 => ?_)
    refine j_iload_n C dX0_isBarred_61 rfl ?_
    refine j_iald C dX0_isBarred_62 h_58 ?_
    refine j_isub C dX0_isBarred_63 ?_
    refine j_istore C (Ls' := fun v8_64 => [(8, .int v8_64), (7, .int v7_54), (6, .int v6_35), (0, .ref (adr M v0)), (1, .int v1), (2, .int v2), (3, .ref (adr M v3)), (4, .int v4), (5, .int v5)]) dX0_isBarred_64 (by decide) (fun _ => rfl) (fun v8_64 => ?_)
    refine j_aload_n C dX0_isBarred_66 rfl ?_
    refine j_getI C dX0_isBarred_67 fl_RX0_67 h0 (by decide) rfl ?_
    refine j_aload_n C dX0_isBarred_70 rfl ?_
    refine j_getR C dX0_isBarred_71 fl_RX0_57 h0 (by decide) rfl rfl (by decide) (fun h_71 => ?_)
    refine j_iload C dX0_isBarred_74 rfl ?_
    refine j_bipush C (v := (7 : Int32)) dX0_isBarred_76 (by decide) ?_
    refine j_imul C dX0_isBarred_78 ?_
    refine j_iload C dX0_isBarred_79 rfl ?_
    refine j_iadd C dX0_isBarred_81 ?_
    refine j_iald C dX0_isBarred_82 h_71 ?_
    refine j_ior C dX0_isBarred_83 ?_
    refine j_aload_n C dX0_isBarred_84 rfl ?_
    refine j_iload C dX0_isBarred_85 rfl ?_
    refine j_aload_n C dX0_isBarred_87 rfl ?_
    refine j_getR C dX0_isBarred_88 fl_RX0_45 h0 (by decide) rfl rfl (by decide) (fun h_88 => ?_)
    refine j_iload_n C dX0_isBarred_91 rfl ?_
    refine j_iald C dX0_isBarred_92 h_88 ?_
    refine j_callVI C (As := [.int v4, .int ((σ (rf v0 7) (v1).toNatClampNeg))]) dX0_isBarred_93 (CX6_metBeyond l M hD v3 h3 v4 (σ (rf v0 7) (v1).toNatClampNeg) σ) vv_RX0_235 h3 (by decide) rfl rfl ⟨rfl, rfl⟩ (by decide) (Nat.le_of_ble_eq_true rfl) ⟨Nat.zero_le _, Nat.zero_le _⟩ (fun r_93 s_93 => ?_)
    refine j_ior C dX0_isBarred_96 ?_
    refine j_istore C (Ls' := fun v9_97 => [(9, .int v9_97), (8, .int v8_64), (7, .int v7_54), (6, .int v6_35), (0, .ref (adr M v0)), (1, .int v1), (2, .int v2), (3, .ref (adr M v3)), (4, .int v4), (5, .int v5)]) dX0_isBarred_97 (by decide) (fun _ => rfl) (fun v9_97 => ?_)
    refine j_iconst C (v := (0 : Int32)) dX0_isBarred_99 (by decide) ?_
    refine j_istore C (Ls' := fun v10_100 => [(10, .int v10_100), (9, .int v9_97), (8, .int v8_64), (7, .int v7_54), (6, .int v6_35), (0, .ref (adr M v0)), (1, .int v1), (2, .int v2), (3, .ref (adr M v3)), (4, .int v4), (5, .int v5)]) dX0_isBarred_100 (by decide) (fun _ => rfl) (fun v10_100 => ?_)
    refine j_sub (Ls' := [(0, .ref (adr M v0)), (1, .int v1), (3, .ref (adr M v3)), (5, .int v5), (6, .int v6_35), (7, .int v7_54), (8, .int v8_64), (9, .int v9_97), (10, .int v10_100)]) [5, 6, 8, 10, 4, 3, 2, 1, 0] rfl ?_
    exact H102 v5 v6_35 v7_54 v8_64 v9_97 FU v10_100 s_93
  unfold fX0_isBarred
  refine j_aload_n C dX0_isBarred_0 rfl ?_
  refine j_getR C dX0_isBarred_1 fl_RX0_42 h0 (by decide) rfl rfl (by decide) (fun h_1 => ?_)
  refine j_iload_n C dX0_isBarred_4 rfl ?_
  refine j_iald C dX0_isBarred_5 h_1 ?_
  refine j_istore C (Ls' := fun v4_6 => [(4, .int v4_6), (0, .ref (adr M v0)), (1, .int v1), (2, .int v2), (3, .ref (adr M v3))]) dX0_isBarred_6 (by decide) (fun _ => rfl) (fun v4_6 => ?_)
  refine j_aload_n C dX0_isBarred_8 rfl ?_
  refine j_iload_n C dX0_isBarred_9 rfl ?_
  refine j_callVI C (As := [.int v1]) dX0_isBarred_10 (CX0_sectionAhead l M hD v0 h0 v1 σ) vv_RX0_216 h0 (by decide) rfl rfl ⟨rfl, rfl⟩ (by decide) (Nat.le_of_ble_eq_true rfl) ⟨Nat.zero_le _, Nat.zero_le _⟩ (fun r_10 s_10 => ?_)
  refine j_istore C (Ls' := fun v5_13 => [(5, .int v5_13), (4, .int v4_6), (0, .ref (adr M v0)), (1, .int v1), (2, .int v2), (3, .ref (adr M v3))]) dX0_isBarred_13 (by decide) (fun _ => rfl) (fun v5_13 => ?_)
  refine j_aload_n C dX0_isBarred_15 rfl ?_
  refine j_getR C dX0_isBarred_16 fl_RX0_45 h0 (by decide) rfl rfl (by decide) (fun h_16 => ?_)
  refine j_iload_n C dX0_isBarred_19 rfl ?_
  refine j_iald C dX0_isBarred_20 h_16 ?_
  refine j_if_ne C (tgt := 31) dX0_isBarred_21 (by decide) ?_ ?_
  · refine j_iload C dX0_isBarred_31 rfl ?_
    refine j_iconst C (v := (1 : Int32)) dX0_isBarred_33 (by decide) ?_
    refine j_isub C dX0_isBarred_34 ?_
    refine j_sub (Ls' := [(0, .ref (adr M v0)), (1, .int v1), (2, .int v2), (3, .ref (adr M v3)), (4, .int v4_6), (5, .int v5_13)]) [2, 3, 4, 5, 1, 0] rfl ?_
    exact H35 v4_6 v5_13 (v4_6 - (1 : Int32)) s_10
  · refine j_iload C dX0_isBarred_24 rfl ?_
    refine j_iconst C (v := (1 : Int32)) dX0_isBarred_26 (by decide) ?_
    refine j_iadd C dX0_isBarred_27 ?_
    refine j_goto C (tgt := 35) dX0_isBarred_28 (by decide) ?_
    refine j_sub (Ls' := [(0, .ref (adr M v0)), (1, .int v1), (2, .int v2), (3, .ref (adr M v3)), (4, .int v4_6), (5, .int v5_13)]) [2, 3, 4, 5, 1, 0] rfl ?_
    exact H35 v4_6 v5_13 (v4_6 + (1 : Int32)) s_10
set_option maxRecDepth 20000 in
set_option maxHeartbeats 4000000 in
theorem CX0_whyNot (l : Launch) (M : Mc) (hD : Dj M) (v0 : Nat) (h0 : isK v0 0) (v1 : Int32) (v2 : Int32) (σ : Sg) : Ct l M yX0_whyNot cX0_whyNot 8 (some .int) { frames := 2, cells := 0, slots := 0, locals := 56 } vI [.ref (adr M v0), .int v1, .int v2] σ (fX0_whyNot v0 v1 v2 σ) := by
  refine ct_of (l := l) hD (by decide) (Nat.le_of_ble_eq_true rfl) ?_
  intro p e s m args below meth c C
  have H64 : ∀ (v3 : Nat) (h3 : isK v3 6) (v4 : Int32) (w0 : Int32) (τ : Sg), J p l e { frames := 2, cells := 0, slots := 0, locals := 56 } s m args below meth c M 8 vI τ 64 [(0, .ref (adr M v0)), (1, .int v1), (2, .int v2), (3, .ref (adr M v3)), (4, .int v4)] [.int w0] (fX0_whyNot_64 v0 v1 v2 v3 v4 w0 τ) := by
    intro v3 h3 v4 w0 σ
    unfold fX0_whyNot_64
    refine j_istore C (Ls' := fun v6_64 => [(6, .int v6_64), (0, .ref (adr M v0)), (1, .int v1), (2, .int v2), (3, .ref (adr M v3)), (4, .int v4)]) dX0_whyNot_64 (by decide) (fun _ => rfl) (fun v6_64 => ?_)
    refine j_iload_n C dX0_whyNot_66 rfl ?_
    refine j_iload C dX0_whyNot_67 rfl ?_
    refine j_icmp_ge C (tgt := 74) dX0_whyNot_69 (by decide) ?_ ?_
    · refine j_iload_n C dX0_whyNot_74 rfl ?_
      refine j_aload_n C dX0_whyNot_75 rfl ?_
      refine j_getR C dX0_whyNot_76 fl_RX0_225 h3 (by decide) rfl rfl (by decide) (fun h_76 => ?_)
      refine j_iload C dX0_whyNot_79 rfl ?_
      refine j_iald C dX0_whyNot_81 h_76 ?_
      refine j_icmp_ge C (tgt := 87) dX0_whyNot_82 (by decide) ?_ ?_
      · refine j_aload_n C dX0_whyNot_87 rfl ?_
        refine j_getR C dX0_whyNot_88 fl_RX0_57 h0 (by decide) rfl rfl (by decide) (fun h_88 => ?_)
        refine j_iload C dX0_whyNot_91 rfl ?_
        refine j_iald C dX0_whyNot_93 h_88 ?_
        refine j_aload_n C dX0_whyNot_94 rfl ?_
        refine j_getR C dX0_whyNot_95 fl_RX0_57 h0 (by decide) rfl rfl (by decide) (fun h_95 => ?_)
        refine j_bipush C (v := (7 : Int32)) dX0_whyNot_98 (by decide) ?_
        refine j_iload C dX0_whyNot_100 rfl ?_
        refine j_iadd C dX0_whyNot_102 ?_
        refine j_iald C dX0_whyNot_103 h_95 ?_
        refine j_ior C dX0_whyNot_104 ?_
        refine j_aload_n C dX0_whyNot_105 rfl ?_
        refine j_getI C dX0_whyNot_106 fl_RX0_67 h0 (by decide) rfl ?_
        refine j_ior C dX0_whyNot_109 ?_
        refine j_istore C (Ls' := fun v7_110 => [(7, .int v7_110), (6, .int v6_64), (0, .ref (adr M v0)), (1, .int v1), (2, .int v2), (3, .ref (adr M v3)), (4, .int v4)]) dX0_whyNot_110 (by decide) (fun _ => rfl) (fun v7_110 => ?_)
        refine j_aload_n C dX0_whyNot_112 rfl ?_
        refine j_getR C dX0_whyNot_113 fl_RX0_228 h3 (by decide) rfl rfl (by decide) (fun h_113 => ?_)
        refine j_iload C dX0_whyNot_116 rfl ?_
        refine j_iald C dX0_whyNot_118 h_113 ?_
        refine j_iload C dX0_whyNot_119 rfl ?_
        refine j_iconst C (v := (-1 : Int32)) dX0_whyNot_121 (by decide) ?_
        refine j_ixor C dX0_whyNot_122 ?_
        refine j_iand C dX0_whyNot_123 ?_
        refine j_if_eq C (tgt := 129) dX0_whyNot_124 (by decide) ?_ ?_
        · refine j_aload_n C dX0_whyNot_129 rfl ?_
          refine j_iload_n C dX0_whyNot_130 rfl ?_
          refine j_iload_n C dX0_whyNot_131 rfl ?_
          refine j_aload_n C dX0_whyNot_132 rfl ?_
          refine j_callVI C (As := [.int v1, .int v2, .ref (adr M v3)]) dX0_whyNot_133 (CX0_isBarred l M hD v0 h0 v1 v2 v3 h3 σ) vv_RX0_231 h0 (by decide) rfl rfl ⟨rfl, rfl⟩ (by decide) (Nat.le_of_ble_eq_true rfl) ⟨Nat.zero_le _, Nat.zero_le _⟩ (fun r_133 s_133 => ?_)
          refine j_if_eq C (tgt := 141) dX0_whyNot_136 (by decide) ?_ ?_
          · refine j_iload_n C dX0_whyNot_141 rfl ?_
            refine j_aload_n C dX0_whyNot_142 rfl ?_
            refine j_getR C dX0_whyNot_143 fl_RX0_60 h0 (by decide) rfl rfl (by decide) (fun h_143 => ?_)
            refine j_aload_n C dX0_whyNot_146 rfl ?_
            refine j_getR C dX0_whyNot_147 fl_RX0_45 h0 (by decide) rfl rfl (by decide) (fun h_147 => ?_)
            refine j_iload_n C dX0_whyNot_150 rfl ?_
            refine j_iald C dX0_whyNot_151 h_147 ?_
            refine j_bipush C (v := (7 : Int32)) dX0_whyNot_152 (by decide) ?_
            refine j_imul C dX0_whyNot_154 ?_
            refine j_iload C dX0_whyNot_155 rfl ?_
            refine j_iadd C dX0_whyNot_157 ?_
            refine j_iald C dX0_whyNot_158 h_143 ?_
            refine j_isub C dX0_whyNot_159 ?_
            refine j_bipush C (v := (10 : Int32)) dX0_whyNot_160 (by decide) ?_
            refine j_icmp_ge C (tgt := 169) dX0_whyNot_162 (by decide) ?_ ?_
            · refine j_iconst C (v := (0 : Int32)) dX0_whyNot_169 (by decide) ?_
              exact j_iret C dX0_whyNot_170
            · refine j_iconst C (v := (5 : Int32)) dX0_whyNot_165 (by decide) ?_
              refine j_goto C (tgt := 170) dX0_whyNot_166 (by decide) ?_
              exact j_iret C dX0_whyNot_170
          · refine j_iconst C (v := (4 : Int32)) dX0_whyNot_139 (by decide) ?_
            exact j_iret C dX0_whyNot_140
        · refine j_iconst C (v := (3 : Int32)) dX0_whyNot_127 (by decide) ?_
          exact j_iret C dX0_whyNot_128
      · refine j_iconst C (v := (2 : Int32)) dX0_whyNot_85 (by decide) ?_
        exact j_iret C dX0_whyNot_86
    · refine j_iconst C (v := (1 : Int32)) dX0_whyNot_72 (by decide) ?_
      exact j_iret C dX0_whyNot_73
  have H31 : ∀ (v3 : Nat) (h3 : isK v3 6) (v4 : Int32) (w0 : Int32) (τ : Sg), J p l e { frames := 2, cells := 0, slots := 0, locals := 56 } s m args below meth c M 8 vI τ 31 [(0, .ref (adr M v0)), (1, .int v1), (2, .int v2), (3, .ref (adr M v3)), (4, .int v4)] [.int w0] (fX0_whyNot_31 v0 v1 v2 v3 v4 w0 τ) := by
    intro v3 h3 v4 w0 σ
    unfold fX0_whyNot_31
    refine j_istore C (Ls' := fun v5_31 => [(5, .int v5_31), (0, .ref (adr M v0)), (1, .int v1), (2, .int v2), (3, .ref (adr M v3)), (4, .int v4)]) dX0_whyNot_31 (by decide) (fun _ => rfl) (fun v5_31 => ?_)
    refine j_iload C dX0_whyNot_33 rfl ?_
    refine j_if_eq C (tgt := 60) dX0_whyNot_35 (by decide) ?_ ?_
    · refine j_aload_n C dX0_whyNot_60 rfl ?_
      refine j_getI C dX0_whyNot_61 fl_RX0_222 h3 (by decide) rfl ?_
      refine j_sub (Ls' := [(0, .ref (adr M v0)), (1, .int v1), (2, .int v2), (3, .ref (adr M v3)), (4, .int v4)]) [1, 2, 3, 4, 5] rfl ?_
      exact H64 v3 h3 v4 (σ v3 4) σ
    · refine j_aload_n C dX0_whyNot_38 rfl ?_
      refine j_getR C dX0_whyNot_39 fl_RX0_35 h0 (by decide) rfl rfl (by decide) (fun h_39 => ?_)
      refine j_iload_n C dX0_whyNot_42 rfl ?_
      refine j_bipush C (v := (7 : Int32)) dX0_whyNot_43 (by decide) ?_
      refine j_imul C dX0_whyNot_45 ?_
      refine j_iload C dX0_whyNot_46 rfl ?_
      refine j_iadd C dX0_whyNot_48 ?_
      refine j_iald C dX0_whyNot_49 h_39 ?_
      refine j_aload_n C dX0_whyNot_50 rfl ?_
      refine j_getR C dX0_whyNot_51 fl_RX0_219 h3 (by decide) rfl rfl (by decide) (fun h_51 => ?_)
      refine j_iload_n C dX0_whyNot_54 rfl ?_
      refine j_iald C dX0_whyNot_55 h_51 ?_
      refine j_iadd C dX0_whyNot_56 ?_
      refine j_goto C (tgt := 64) dX0_whyNot_57 (by decide) ?_
      refine j_sub (Ls' := [(0, .ref (adr M v0)), (1, .int v1), (2, .int v2), (3, .ref (adr M v3)), (4, .int v4)]) [1, 2, 3, 4, 5] rfl ?_
      exact H64 v3 h3 v4 ((σ (rf v0 4) (((v1 * (7 : Int32)) + v4)).toNatClampNeg) + (σ (rf v3 5) (v1).toNatClampNeg)) σ
  unfold fX0_whyNot
  refine j_aload_n C dX0_whyNot_0 rfl ?_
  refine j_getR C dX0_whyNot_1 fl_RX0_31 h0 (by decide) rfl rfl (by decide) (fun h_1 => ?_)
  refine j_iload_n C dX0_whyNot_4 rfl ?_
  refine j_aald C (t0 := 5) dX0_whyNot_5 h_1 (by decide) rfl (fun h_5 => ?_)
  refine j_astore_n C (Ls' := [(3, .ref (adr M (rf (rf v0 3) (v1).toNatClampNeg))), (0, .ref (adr M v0)), (1, .int v1), (2, .int v2)]) dX0_whyNot_6 (by decide) rfl ?_
  refine j_aload_n C dX0_whyNot_7 rfl ?_
  refine j_getR C dX0_whyNot_8 fl_RX0_42 h0 (by decide) rfl rfl (by decide) (fun h_8 => ?_)
  refine j_iload_n C dX0_whyNot_11 rfl ?_
  refine j_iald C dX0_whyNot_12 h_8 ?_
  refine j_istore C (Ls' := fun v4_13 => [(4, .int v4_13), (3, .ref (adr M (rf (rf v0 3) (v1).toNatClampNeg))), (0, .ref (adr M v0)), (1, .int v1), (2, .int v2)]) dX0_whyNot_13 (by decide) (fun _ => rfl) (fun v4_13 => ?_)
  refine j_aload_n C dX0_whyNot_15 rfl ?_
  refine j_getI C dX0_whyNot_16 fl_RX0_63 h0 (by decide) rfl ?_
  refine j_iload_n C dX0_whyNot_19 rfl ?_
  refine j_ishr C dX0_whyNot_20 ?_
  refine j_iconst C (v := (1 : Int32)) dX0_whyNot_21 (by decide) ?_
  refine j_iand C dX0_whyNot_22 ?_
  refine j_if_eq C (tgt := 30) dX0_whyNot_23 (by decide) ?_ ?_
  · refine j_iconst C (v := (0 : Int32)) dX0_whyNot_30 (by decide) ?_
    refine j_sub (Ls' := [(0, .ref (adr M v0)), (1, .int v1), (2, .int v2), (3, .ref (adr M (rf (rf v0 3) (v1).toNatClampNeg))), (4, .int v4_13)]) [2, 3, 4, 1, 0] rfl ?_
    exact H31 (rf (rf v0 3) (v1).toNatClampNeg) h_5 v4_13 (0 : Int32) σ
  · refine j_iconst C (v := (1 : Int32)) dX0_whyNot_26 (by decide) ?_
    refine j_goto C (tgt := 31) dX0_whyNot_27 (by decide) ?_
    refine j_sub (Ls' := [(0, .ref (adr M v0)), (1, .int v1), (2, .int v2), (3, .ref (adr M (rf (rf v0 3) (v1).toNatClampNeg))), (4, .int v4_13)]) [2, 3, 4, 1, 0] rfl ?_
    exact H31 (rf (rf v0 3) (v1).toNatClampNeg) h_5 v4_13 (1 : Int32) σ
set_option maxRecDepth 20000 in
set_option maxHeartbeats 4000000 in
theorem CX1_noteReason (l : Launch) (M : Mc) (hD : Dj M) (v0 : Nat) (h0 : isK v0 1) (v1 : Int32) (v2 : Int32) (v3 : Int32) (σ : Sg) : Ct l M yX1_noteReason cX1_noteReason 4 none { frames := 0, cells := 0, slots := 0, locals := 0 } vV [.ref (adr M v0), .int v1, .int v2, .int v3] σ (fX1_noteReason v0 v1 v2 v3 σ) := by
  refine ct_of (l := l) hD (by decide) (Nat.le_of_ble_eq_true rfl) ?_
  intro p e s m args below meth c C
  unfold fX1_noteReason
  refine j_aload_n C dX1_noteReason_0 rfl ?_
  refine j_getR C dX1_noteReason_1 fl_RX1_19 h0 (by decide) rfl rfl (by decide) (fun h_1 => ?_)
  refine j_iload_n C dX1_noteReason_4 rfl ?_
  refine j_sipush C (v := (501 : Int32)) dX1_noteReason_5 (by decide) ?_
  refine j_imul C dX1_noteReason_8 ?_
  refine j_iload_n C dX1_noteReason_9 rfl ?_
  refine j_iadd C dX1_noteReason_10 ?_
  refine j_iload_n C dX1_noteReason_11 rfl ?_
  refine j_i2b C dX1_noteReason_12 ?_
  refine j_bast C dX1_noteReason_13 h_1 (fun s_13 => ?_)
  exact j_vret C dX1_noteReason_14
set_option maxRecDepth 20000 in
set_option maxHeartbeats 4000000 in
theorem CX1_noteLeft (l : Launch) (M : Mc) (hD : Dj M) (v0 : Nat) (h0 : isK v0 1) (v1 : Int32) (v2 : Int32) (v3 : Int32) (σ : Sg) : Ct l M yX1_noteLeft cX1_noteLeft 5 none { frames := 0, cells := 0, slots := 0, locals := 0 } vV [.ref (adr M v0), .int v1, .int v2, .int v3] σ (fX1_noteLeft v0 v1 v2 v3 σ) := by
  refine ct_of (l := l) hD (by decide) (Nat.le_of_ble_eq_true rfl) ?_
  intro p e s m args below meth c C
  unfold fX1_noteLeft
  refine j_iload_n C dX1_noteLeft_0 rfl ?_
  refine j_bipush C (v := (7 : Int32)) dX1_noteLeft_1 (by decide) ?_
  refine j_imul C dX1_noteLeft_3 ?_
  refine j_iload_n C dX1_noteLeft_4 rfl ?_
  refine j_iadd C dX1_noteLeft_5 ?_
  refine j_istore C (Ls' := fun v4_6 => [(4, .int v4_6), (0, .ref (adr M v0)), (1, .int v1), (2, .int v2), (3, .int v3)]) dX1_noteLeft_6 (by decide) (fun _ => rfl) (fun v4_6 => ?_)
  refine j_aload_n C dX1_noteLeft_8 rfl ?_
  refine j_getR C dX1_noteLeft_9 fl_RX1_27 h0 (by decide) rfl rfl (by decide) (fun h_9 => ?_)
  refine j_iload C dX1_noteLeft_12 rfl ?_
  refine j_iald C dX1_noteLeft_14 h_9 ?_
  refine j_iconst C (v := (-1 : Int32)) dX1_noteLeft_15 (by decide) ?_
  refine j_icmp_ne C (tgt := 27) dX1_noteLeft_16 (by decide) ?_ ?_
  · exact j_vret C dX1_noteLeft_27
  · refine j_aload_n C dX1_noteLeft_19 rfl ?_
    refine j_getR C dX1_noteLeft_20 fl_RX1_27 h0 (by decide) rfl rfl (by decide) (fun h_20 => ?_)
    refine j_iload C dX1_noteLeft_23 rfl ?_
    refine j_iload_n C dX1_noteLeft_25 rfl ?_
    refine j_iast C dX1_noteLeft_26 h_20 (fun s_26 => ?_)
    exact j_vret C dX1_noteLeft_27
set_option maxRecDepth 20000 in
set_option maxHeartbeats 4000000 in
theorem CX0_leave (l : Launch) (M : Mc) (hD : Dj M) (v0 : Nat) (h0 : isK v0 0) (v1 : Int32) (v2 : Int32) (σ : Sg) : Ct l M yX0_leave cX0_leave 4 none { frames := 1, cells := 0, slots := 0, locals := 24 } vV [.ref (adr M v0), .int v1, .int v2] σ (fX0_leave v0 v1 v2 σ) := by
  refine ct_of (l := l) hD (by decide) (Nat.le_of_ble_eq_true rfl) ?_
  intro p e s m args below meth c C
  unfold fX0_leave
  refine j_aload_n C dX0_leave_0 rfl ?_
  refine j_getR C dX0_leave_1 fl_RX0_42 h0 (by decide) rfl rfl (by decide) (fun h_1 => ?_)
  refine j_iload_n C dX0_leave_4 rfl ?_
  refine j_iald C dX0_leave_5 h_1 ?_
  refine j_istore_n C (Ls' := fun v3_6 => [(3, .int v3_6), (0, .ref (adr M v0)), (1, .int v1), (2, .int v2)]) dX0_leave_6 (by decide) (fun _ => rfl) (fun v3_6 => ?_)
  refine j_aload_n C dX0_leave_7 rfl ?_
  refine j_getR C dX0_leave_8 fl_RX0_21 h0 (by decide) rfl rfl (by decide) (fun h_8 => ?_)
  refine j_iload_n C dX0_leave_11 rfl ?_
  refine j_iload_n C dX0_leave_12 rfl ?_
  refine j_iload_n C dX0_leave_13 rfl ?_
  refine j_callVv C (As := [.int v1, .int v3_6, .int v2]) dX0_leave_14 (CX1_noteLeft l M hD (rf v0 1) h_8 v1 v3_6 v2 σ) vv_RX0_213 h_8 (by decide) rfl rfl ⟨rfl, rfl⟩ (by decide) (Nat.le_of_ble_eq_true rfl) ⟨Nat.zero_le _, Nat.zero_le _⟩ (fun r_14 s_14 => ?_)
  refine j_aload_n C dX0_leave_17 rfl ?_
  refine j_getR C dX0_leave_18 fl_RX0_60 h0 (by decide) rfl rfl (by decide) (fun h_18 => ?_)
  refine j_aload_n C dX0_leave_21 rfl ?_
  refine j_getR C dX0_leave_22 fl_RX0_45 h0 (by decide) rfl rfl (by decide) (fun h_22 => ?_)
  refine j_iload_n C dX0_leave_25 rfl ?_
  refine j_iald C dX0_leave_26 h_22 ?_
  refine j_bipush C (v := (7 : Int32)) dX0_leave_27 (by decide) ?_
  refine j_imul C dX0_leave_29 ?_
  refine j_iload_n C dX0_leave_30 rfl ?_
  refine j_iadd C dX0_leave_31 ?_
  refine j_iload_n C dX0_leave_32 rfl ?_
  refine j_iast C dX0_leave_33 h_18 (fun s_33 => ?_)
  refine j_aload_n C dX0_leave_34 rfl ?_
  refine j_getR C dX0_leave_35 fl_RX0_54 h0 (by decide) rfl rfl (by decide) (fun h_35 => ?_)
  refine j_iload_n C dX0_leave_38 rfl ?_
  refine j_iload_n C dX0_leave_39 rfl ?_
  refine j_iast C dX0_leave_40 h_35 (fun s_40 => ?_)
  refine j_aload_n C dX0_leave_41 rfl ?_
  refine j_getR C dX0_leave_42 fl_RX0_42 h0 (by decide) rfl rfl (by decide) (fun h_42 => ?_)
  refine j_iload_n C dX0_leave_45 rfl ?_
  refine j_bipush C (v := (100 : Int32)) dX0_leave_46 (by decide) ?_
  refine j_aload_n C dX0_leave_48 rfl ?_
  refine j_iload_n C dX0_leave_49 rfl ?_
  refine j_callVI C (As := [.int v1]) dX0_leave_50 (CX0_sectionAhead l M hD v0 h0 v1 s_40) vv_RX0_216 h0 (by decide) rfl rfl ⟨rfl, rfl⟩ (by decide) (Nat.le_of_ble_eq_true rfl) ⟨Nat.zero_le _, Nat.zero_le _⟩ (fun r_50 s_50 => ?_)
  refine j_iadd C dX0_leave_53 ?_
  refine j_iast C dX0_leave_54 h_42 (fun s_54 => ?_)
  exact j_vret C dX0_leave_55
set_option maxRecDepth 20000 in
set_option maxHeartbeats 4000000 in
theorem CX0_letLeave (l : Launch) (M : Mc) (hD : Dj M) (v0 : Nat) (h0 : isK v0 0) (v1 : Int32) (σ : Sg) : Ct l M yX0_letLeave cX0_letLeave 5 (some .boolean) { frames := 3, cells := 0, slots := 0, locals := 83 } vI [.ref (adr M v0), .int v1] σ (fX0_letLeave v0 v1 σ) := by
  refine ct_of (l := l) hD (by decide) (Nat.le_of_ble_eq_true rfl) ?_
  intro p e s m args below meth c C
  have H4 : ∀  (n : Nat) (v2 : Int32) (v3 : Int32) (τ : Sg), J p l e { frames := 3, cells := 0, slots := 0, locals := 83 } s m args below meth c M 5 vI τ 4 [(0, .ref (adr M v0)), (1, .int v1), (2, .int v2), (3, .int v3)] [] (lq2 (fX0_letLeave_4 v0 v1) n v2 v3 τ) := by
    refine j_lq2 (Ls := fun v2 v3 => [(0, .ref (adr M v0)), (1, .int v1), (2, .int v2), (3, .int v3)]) (st := fun _ _ => []) ?_
    intro k4 hk4 v2 v3 σ
    have H94 : ∀ (v2 : Int32) (v3 : Int32) (τ : Sg), J p l e { frames := 3, cells := 0, slots := 0, locals := 83 } s m args below meth c M 5 vI τ 94 [(0, .ref (adr M v0)), (1, .int v1), (2, .int v2), (3, .int v3)] [] (fX0_letLeave_94 v0 v1 v2 v3 k4 τ) := by
      intro v2 v3 σ
      unfold fX0_letLeave_94
      refine j_iinc C (v := (1 : Int32)) (Ls' := fun v3_94 => [(3, .int v3_94), (0, .ref (adr M v0)), (1, .int v1), (2, .int v2)]) dX0_letLeave_94 3 rfl (by decide) (by decide) (fun _ => rfl) (fun v3_94 => ?_)
      refine j_goto C (tgt := 4) dX0_letLeave_97 (by decide) ?_
      refine j_sub (Ls' := [(0, .ref (adr M v0)), (1, .int v1), (2, .int v2), (3, .int v3_94)]) [1, 2, 3, 0] rfl ?_
      exact hk4 v2 v3_94 σ
    have H70 : ∀ (v2 : Int32) (v3 : Int32) (v4 : Int32) (τ : Sg), J p l e { frames := 3, cells := 0, slots := 0, locals := 83 } s m args below meth c M 5 vI τ 70 [(0, .ref (adr M v0)), (1, .int v1), (2, .int v2), (3, .int v3), (4, .int v4)] [] (fX0_letLeave_70 v0 v1 v2 v3 v4 k4 τ) := by
      intro v2 v3 v4 σ
      unfold fX0_letLeave_70
      refine j_aload_n C dX0_letLeave_70 rfl ?_
      refine j_getR C dX0_letLeave_71 fl_RX0_21 h0 (by decide) rfl rfl (by decide) (fun h_71 => ?_)
      refine j_iload_n C dX0_letLeave_74 rfl ?_
      refine j_iload_n C dX0_letLeave_75 rfl ?_
      refine j_iload C dX0_letLeave_76 rfl ?_
      refine j_callVv C (As := [.int v3, .int v1, .int v4]) dX0_letLeave_78 (CX1_noteReason l M hD (rf v0 1) h_71 v3 v1 v4 σ) vv_RX0_207 h_71 (by decide) rfl rfl ⟨rfl, rfl⟩ (by decide) (Nat.le_of_ble_eq_true rfl) ⟨Nat.zero_le _, Nat.zero_le _⟩ (fun r_78 s_78 => ?_)
      refine j_iload C dX0_letLeave_81 rfl ?_
      refine j_if_ne C (tgt := 94) dX0_letLeave_83 (by decide) ?_ ?_
      · refine j_sub (Ls' := [(0, .ref (adr M v0)), (1, .int v1), (2, .int v2), (3, .int v3)]) [0, 1, 2, 3] rfl ?_
        exact H94 v2 v3 s_78
      · refine j_aload_n C dX0_letLeave_86 rfl ?_
        refine j_iload_n C dX0_letLeave_87 rfl ?_
        refine j_iload_n C dX0_letLeave_88 rfl ?_
        refine j_callVv C (As := [.int v3, .int v1]) dX0_letLeave_89 (CX0_leave l M hD v0 h0 v3 v1 s_78) vv_RX0_210 h0 (by decide) rfl rfl ⟨rfl, rfl⟩ (by decide) (Nat.le_of_ble_eq_true rfl) ⟨Nat.zero_le _, Nat.zero_le _⟩ (fun r_89 s_89 => ?_)
        refine j_iconst C (v := (1 : Int32)) dX0_letLeave_92 (by decide) ?_
        refine j_istore_n C (Ls' := fun v2_93 => [(2, .int v2_93), (0, .ref (adr M v0)), (1, .int v1), (3, .int v3), (4, .int v4)]) dX0_letLeave_93 (by decide) (fun _ => rfl) (fun v2_93 => ?_)
        refine j_sub (Ls' := [(0, .ref (adr M v0)), (1, .int v1), (2, .int v2_93), (3, .int v3)]) [1, 2, 0, 3] rfl ?_
        exact H94 v2_93 v3 s_89
    have H68 : ∀ (v2 : Int32) (v3 : Int32) (w0 : Int32) (τ : Sg), J p l e { frames := 3, cells := 0, slots := 0, locals := 83 } s m args below meth c M 5 vI τ 68 [(0, .ref (adr M v0)), (1, .int v1), (2, .int v2), (3, .int v3)] [.int w0] (fX0_letLeave_68 v0 v1 v2 v3 w0 k4 τ) := by
      intro v2 v3 w0 σ
      unfold fX0_letLeave_68
      refine j_istore C (Ls' := fun v4_68 => [(4, .int v4_68), (0, .ref (adr M v0)), (1, .int v1), (2, .int v2), (3, .int v3)]) dX0_letLeave_68 (by decide) (fun _ => rfl) (fun v4_68 => ?_)
      refine j_sub (Ls' := [(0, .ref (adr M v0)), (1, .int v1), (2, .int v2), (3, .int v3), (4, .int v4_68)]) [1, 2, 3, 4, 0] rfl ?_
      exact H70 v2 v3 v4_68 σ
    unfold fX0_letLeave_4
    refine j_iload_n C dX0_letLeave_4 rfl ?_
    refine j_aload_n C dX0_letLeave_5 rfl ?_
    refine j_getR C dX0_letLeave_6 fl_RX0_12 h0 (by decide) rfl rfl (by decide) (fun h_6 => ?_)
    refine j_getR C dX0_letLeave_9 fl_RX0_80 h_6 (by decide) rfl rfl (by decide) (fun h_9 => ?_)
    refine j_getI C dX0_letLeave_12 fl_RX0_84 h_9 (by decide) rfl ?_
    refine j_icmp_ge C (tgt := 100) dX0_letLeave_15 (by decide) ?_ ?_
    · refine j_iload_n C dX0_letLeave_100 rfl ?_
      exact j_zret C dX0_letLeave_101
    · refine j_iconst C (v := (-1 : Int32)) dX0_letLeave_18 (by decide) ?_
      refine j_istore C (Ls' := fun v4_19 => [(4, .int v4_19), (0, .ref (adr M v0)), (1, .int v1), (2, .int v2), (3, .int v3)]) dX0_letLeave_19 (by decide) (fun _ => rfl) (fun v4_19 => ?_)
      refine j_aload_n C dX0_letLeave_21 rfl ?_
      refine j_iload_n C dX0_letLeave_22 rfl ?_
      refine j_callVI C (As := [.int v3]) dX0_letLeave_23 (CX0_isAtStation l M hD v0 h0 v3 σ) vv_RX0_190 h0 (by decide) rfl rfl ⟨rfl, rfl⟩ (by decide) (Nat.le_of_ble_eq_true rfl) ⟨Nat.zero_le _, Nat.zero_le _⟩ (fun r_23 s_23 => ?_)
      refine j_if_eq C (tgt := 70) dX0_letLeave_26 (by decide) ?_ ?_
      · refine j_sub (Ls' := [(0, .ref (adr M v0)), (1, .int v1), (2, .int v2), (3, .int v3), (4, .int v4_19)]) [1, 2, 3, 4, 0] rfl ?_
        exact H70 v2 v3 v4_19 s_23
      · refine j_aload_n C dX0_letLeave_29 rfl ?_
        refine j_getR C dX0_letLeave_30 fl_RX0_31 h0 (by decide) rfl rfl (by decide) (fun h_30 => ?_)
        refine j_iload_n C dX0_letLeave_33 rfl ?_
        refine j_aald C (t0 := 5) dX0_letLeave_34 h_30 (by decide) rfl (fun h_34 => ?_)
        refine j_iload_n C dX0_letLeave_35 rfl ?_
        refine j_aload_n C dX0_letLeave_36 rfl ?_
        refine j_getR C dX0_letLeave_37 fl_RX0_12 h0 (by decide) rfl rfl (by decide) (fun h_37 => ?_)
        refine j_getR C dX0_letLeave_40 fl_RX0_193 h_37 (by decide) rfl rfl (by decide) (fun h_40 => ?_)
        refine j_callVv C (As := [.int v1, .ref (adr M (rf (rf v0 0) 2))]) dX0_letLeave_43 (CX6_bringUpTo l M hD (rf (rf v0 3) (v3).toNatClampNeg) h_34 v1 (rf (rf v0 0) 2) h_40 s_23) vv_RX0_197 h_34 (by decide) rfl rfl ⟨rfl, rfl⟩ (by decide) (Nat.le_of_ble_eq_true rfl) ⟨Nat.zero_le _, Nat.zero_le _⟩ (fun r_43 s_43 => ?_)
        refine j_aload_n C dX0_letLeave_46 rfl ?_
        refine j_getR C dX0_letLeave_47 fl_RX0_12 h0 (by decide) rfl rfl (by decide) (fun h_47 => ?_)
        refine j_iload_n C dX0_letLeave_50 rfl ?_
        refine j_iload_n C dX0_letLeave_51 rfl ?_
        refine j_callVI C (As := [.int v3, .int v1]) dX0_letLeave_52 (CX3_isForced l M hD (rf v0 0) h_47 v3 v1 s_43) vv_RX0_201 h_47 (by decide) rfl rfl ⟨rfl, rfl⟩ (by decide) (Nat.le_of_ble_eq_true rfl) ⟨Nat.zero_le _, Nat.zero_le _⟩ (fun r_52 s_52 => ?_)
        refine j_if_eq C (tgt := 62) dX0_letLeave_55 (by decide) ?_ ?_
        · refine j_aload_n C dX0_letLeave_62 rfl ?_
          refine j_iload_n C dX0_letLeave_63 rfl ?_
          refine j_iload_n C dX0_letLeave_64 rfl ?_
          refine j_callVI C (As := [.int v3, .int v1]) dX0_letLeave_65 (CX0_whyNot l M hD v0 h0 v3 v1 s_52) vv_RX0_204 h0 (by decide) rfl rfl ⟨rfl, rfl⟩ (by decide) (Nat.le_of_ble_eq_true rfl) ⟨Nat.zero_le _, Nat.zero_le _⟩ (fun r_65 s_65 => ?_)
          refine j_sub (Ls' := [(0, .ref (adr M v0)), (1, .int v1), (2, .int v2), (3, .int v3)]) [1, 2, 3, 4] rfl ?_
          exact H68 v2 v3 r_65 s_65
        · refine j_iconst C (v := (0 : Int32)) dX0_letLeave_58 (by decide) ?_
          refine j_goto C (tgt := 68) dX0_letLeave_59 (by decide) ?_
          refine j_sub (Ls' := [(0, .ref (adr M v0)), (1, .int v1), (2, .int v2), (3, .int v3)]) [1, 2, 3, 4] rfl ?_
          exact H68 v2 v3 (0 : Int32) s_52
  unfold fX0_letLeave
  refine j_iconst C (v := (0 : Int32)) dX0_letLeave_0 (by decide) ?_
  refine j_istore_n C (Ls' := fun v2_1 => [(2, .int v2_1), (0, .ref (adr M v0)), (1, .int v1)]) dX0_letLeave_1 (by decide) (fun _ => rfl) (fun v2_1 => ?_)
  refine j_iconst C (v := (0 : Int32)) dX0_letLeave_2 (by decide) ?_
  refine j_istore_n C (Ls' := fun v3_3 => [(3, .int v3_3), (2, .int v2_1), (0, .ref (adr M v0)), (1, .int v1)]) dX0_letLeave_3 (by decide) (fun _ => rfl) (fun v3_3 => ?_)
  refine j_sub (Ls' := [(0, .ref (adr M v0)), (1, .int v1), (2, .int v2_1), (3, .int v3_3)]) [2, 3, 1, 0] rfl ?_
  exact H4 FU v2_1 v3_3 σ
