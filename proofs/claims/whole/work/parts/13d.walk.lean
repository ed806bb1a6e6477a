set_option maxRecDepth 20000 in
set_option maxHeartbeats 4000000 in
theorem CX11_lates (l : Launch) (M : Mc) (hD : Dj M) (v0 : Nat) (h0 : isK v0 11) (v1 : Int32) (σ : Sg) : Ct l M yX11_lates cX11_lates 4 (some .int) { frames := 1, cells := 0, slots := 0, locals := 21 } vI [.ref (adr M v0), .int v1] σ (fX11_lates v0 v1 σ) := by
  refine ct_of (l := l) hD (by decide) (Nat.le_of_ble_eq_true rfl) ?_
  intro p e s m args below meth c C
  have H4 : ∀  (n : Nat) (v2 : Int32) (v3 : Int32) (τ : Sg), J p l e { frames := 1, cells := 0, slots := 0, locals := 21 } s m args below meth c M 4 vI τ 4 [(0, .ref (adr M v0)), (1, .int v1), (2, .int v2), (3, .int v3)] [] (lq2 (fX11_lates_4 v0 v1) n v2 v3 τ) := by
    refine j_lq2 (Ls := fun v2 v3 => [(0, .ref (adr M v0)), (1, .int v1), (2, .int v2), (3, .int v3)]) (st := fun _ _ => []) ?_
    intro k4 hk4 v2 v3 σ
    have H52 : ∀ (v3 : Int32) (w0 : Int32) (w1 : Int32) (τ : Sg), J p l e { frames := 1, cells := 0, slots := 0, locals := 21 } s m args below meth c M 4 vI τ 52 [(0, .ref (adr M v0)), (1, .int v1), (3, .int v3)] [.int w0, .int w1] (fX11_lates_52 v0 v1 v3 w0 w1 k4 τ) := by
      intro v3 w0 w1 σ
      unfold fX11_lates_52
      refine j_iadd C dX11_lates_52 ?_
      refine j_istore_n C (Ls' := fun v2_53 => [(2, .int v2_53), (0, .ref (adr M v0)), (1, .int v1), (3, .int v3)]) dX11_lates_53 (by decide) (fun _ => rfl) (fun v2_53 => ?_)
      refine j_iinc C (v := (1 : Int32)) (Ls' := fun v3_54 => [(3, .int v3_54), (2, .int v2_53), (0, .ref (adr M v0)), (1, .int v1)]) dX11_lates_54 3 rfl (by decide) (by decide) (fun _ => rfl) (fun v3_54 => ?_)
      refine j_goto C (tgt := 4) dX11_lates_57 (by decide) ?_
      refine j_sub (Ls' := [(0, .ref (adr M v0)), (1, .int v1), (2, .int v2_53), (3, .int v3_54)]) [2, 3, 1, 0] rfl ?_
      exact hk4 v2_53 v3_54 σ
    have H51 : ∀ (v3 : Int32) (w0 : Int32) (τ : Sg), J p l e { frames := 1, cells := 0, slots := 0, locals := 21 } s m args below meth c M 4 vI τ 51 [(0, .ref (adr M v0)), (1, .int v1), (3, .int v3)] [.int w0] (fX11_lates_51 v0 v1 v3 w0 k4 τ) := by
      intro v3 w0 σ
      unfold fX11_lates_51
      refine j_iconst C (v := (0 : Int32)) dX11_lates_51 (by decide) ?_
      exact H52 v3 (0 : Int32) w0 σ
    unfold fX11_lates_4
    refine j_iload_n C dX11_lates_4 rfl ?_
    refine j_aload_n C dX11_lates_5 rfl ?_
    refine j_getR C dX11_lates_6 fl_RX11_7 h0 (by decide) rfl rfl (by decide) (fun h_6 => ?_)
    refine j_bipush C (v := (40 : Int32)) dX11_lates_9 (by decide) ?_
    refine j_iald C dX11_lates_11 h_6 ?_
    refine j_icmp_ge C (tgt := 60) dX11_lates_12 (by decide) ?_ ?_
    · refine j_iload_n C dX11_lates_60 rfl ?_
      exact j_iret C dX11_lates_61
    · refine j_iload_n C dX11_lates_15 rfl ?_
      refine j_aload_n C dX11_lates_16 rfl ?_
      refine j_getR C dX11_lates_17 fl_RX11_28 h0 (by decide) rfl rfl (by decide) (fun h_17 => ?_)
      refine j_iload_n C dX11_lates_20 rfl ?_
      refine j_zald C dX11_lates_21 h_17 ?_
      refine j_if_eq C (tgt := 51) dX11_lates_22 (by decide) ?_ ?_
      · refine j_sub (Ls' := [(0, .ref (adr M v0)), (1, .int v1), (3, .int v3)]) [0, 1, 3] rfl ?_
        exact H51 v3 v2 σ
      · refine j_aload_n C dX11_lates_25 rfl ?_
        refine j_iload_n C dX11_lates_26 rfl ?_
        refine j_callVI C (As := [.int v3]) dX11_lates_27 (CX11_formOf l M hD v0 h0 v3 σ) vv_RX11_169 h0 (by decide) rfl rfl ⟨rfl, rfl⟩ (by decide) (Nat.le_of_ble_eq_true rfl) ⟨Nat.zero_le _, Nat.zero_le _⟩ (fun r_27 s_27 => ?_)
        refine j_iconst C (v := (1 : Int32)) dX11_lates_30 (by decide) ?_
        refine j_icmp_ne C (tgt := 51) dX11_lates_31 (by decide) ?_ ?_
        · refine j_sub (Ls' := [(0, .ref (adr M v0)), (1, .int v1), (3, .int v3)]) [0, 1, 3] rfl ?_
          exact H51 v3 v2 s_27
        · refine j_aload_n C dX11_lates_34 rfl ?_
          refine j_iload_n C dX11_lates_35 rfl ?_
          refine j_callVI C (As := [.int v3]) dX11_lates_36 (CX11_trainOf l M hD v0 h0 v3 s_27) vv_RX11_172 h0 (by decide) rfl rfl ⟨rfl, rfl⟩ (by decide) (Nat.le_of_ble_eq_true rfl) ⟨Nat.zero_le _, Nat.zero_le _⟩ (fun r_36 s_36 => ?_)
          refine j_iload_n C dX11_lates_39 rfl ?_
          refine j_icmp_ne C (tgt := 51) dX11_lates_40 (by decide) ?_ ?_
          · refine j_sub (Ls' := [(0, .ref (adr M v0)), (1, .int v1), (3, .int v3)]) [0, 1, 3] rfl ?_
            exact H51 v3 v2 s_36
          · refine j_aload_n C dX11_lates_43 rfl ?_
            refine j_iload_n C dX11_lates_44 rfl ?_
            refine j_callVI C (As := [.int v3]) dX11_lates_45 (CX11_numberOf l M hD v0 h0 v3 s_36) vv_RX11_195 h0 (by decide) rfl rfl ⟨rfl, rfl⟩ (by decide) (Nat.le_of_ble_eq_true rfl) ⟨Nat.zero_le _, Nat.zero_le _⟩ (fun r_45 s_45 => ?_)
            refine j_goto C (tgt := 52) dX11_lates_48 (by decide) ?_
            refine j_sub (Ls' := [(0, .ref (adr M v0)), (1, .int v1), (3, .int v3)]) [0, 1, 3] rfl ?_
            exact H52 v3 r_45 v2 s_45
  unfold fX11_lates
  refine j_iconst C (v := (0 : Int32)) dX11_lates_0 (by decide) ?_
  refine j_istore_n C (Ls' := fun v2_1 => [(2, .int v2_1), (0, .ref (adr M v0)), (1, .int v1)]) dX11_lates_1 (by decide) (fun _ => rfl) (fun v2_1 => ?_)
  refine j_iconst C (v := (0 : Int32)) dX11_lates_2 (by decide) ?_
  refine j_istore_n C (Ls' := fun v3_3 => [(3, .int v3_3), (2, .int v2_1), (0, .ref (adr M v0)), (1, .int v1)]) dX11_lates_3 (by decide) (fun _ => rfl) (fun v3_3 => ?_)
  refine j_sub (Ls' := [(0, .ref (adr M v0)), (1, .int v1), (2, .int v2_1), (3, .int v3_3)]) [2, 3, 1, 0] rfl ?_
  exact H4 FU v2_1 v3_3 σ
set_option maxRecDepth 20000 in
set_option maxHeartbeats 4000000 in
theorem CX11_hasMeet (l : Launch) (M : Mc) (hD : Dj M) (v0 : Nat) (h0 : isK v0 11) (v1 : Int32) (v2 : Int32) (v3 : Int32) (σ : Sg) : Ct l M yX11_hasMeet cX11_hasMeet 4 (some .boolean) { frames := 1, cells := 0, slots := 0, locals := 21 } vI [.ref (adr M v0), .int v1, .int v2, .int v3] σ (fX11_hasMeet v0 v1 v2 v3 σ) := by
  refine ct_of (l := l) hD (by decide) (Nat.le_of_ble_eq_true rfl) ?_
  intro p e s m args below meth c C
  have H35 : ∀  (τ : Sg), J p l e { frames := 1, cells := 0, slots := 0, locals := 21 } s m args below meth c M 4 vI τ 35 [(0, .ref (adr M v0)), (1, .int v1), (2, .int v2), (3, .int v3)] [] (fX11_hasMeet_35 v0 v1 v2 v3 τ) := by
    intro  σ
    unfold fX11_hasMeet_35
    refine j_aload_n C dX11_hasMeet_35 rfl ?_
    refine j_iload_n C dX11_hasMeet_36 rfl ?_
    refine j_callVI C (As := [.int v1]) dX11_hasMeet_37 (CX11_trainOf l M hD v0 h0 v1 σ) vv_RX11_172 h0 (by decide) rfl rfl ⟨rfl, rfl⟩ (by decide) (Nat.le_of_ble_eq_true rfl) ⟨Nat.zero_le _, Nat.zero_le _⟩ (fun r_37 s_37 => ?_)
    refine j_iload_n C dX11_hasMeet_40 rfl ?_
    refine j_icmp_ne C (tgt := 57) dX11_hasMeet_41 (by decide) ?_ ?_
    · refine j_iconst C (v := (0 : Int32)) dX11_hasMeet_57 (by decide) ?_
      exact j_zret C dX11_hasMeet_58
    · refine j_aload_n C dX11_hasMeet_44 rfl ?_
      refine j_iload_n C dX11_hasMeet_45 rfl ?_
      refine j_callVI C (As := [.int v1]) dX11_hasMeet_46 (CX11_otherOf l M hD v0 h0 v1 s_37) vv_RX11_198 h0 (by decide) rfl rfl ⟨rfl, rfl⟩ (by decide) (Nat.le_of_ble_eq_true rfl) ⟨Nat.zero_le _, Nat.zero_le _⟩ (fun r_46 s_46 => ?_)
      refine j_iload_n C dX11_hasMeet_49 rfl ?_
      refine j_icmp_ne C (tgt := 57) dX11_hasMeet_50 (by decide) ?_ ?_
      · refine j_iconst C (v := (0 : Int32)) dX11_hasMeet_57 (by decide) ?_
        exact j_zret C dX11_hasMeet_58
      · refine j_iconst C (v := (1 : Int32)) dX11_hasMeet_53 (by decide) ?_
        refine j_goto C (tgt := 58) dX11_hasMeet_54 (by decide) ?_
        exact j_zret C dX11_hasMeet_58
  unfold fX11_hasMeet
  refine j_aload_n C dX11_hasMeet_0 rfl ?_
  refine j_getR C dX11_hasMeet_1 fl_RX11_28 h0 (by decide) rfl rfl (by decide) (fun h_1 => ?_)
  refine j_iload_n C dX11_hasMeet_4 rfl ?_
  refine j_zald C dX11_hasMeet_5 h_1 ?_
  refine j_if_eq C (tgt := 57) dX11_hasMeet_6 (by decide) ?_ ?_
  · refine j_iconst C (v := (0 : Int32)) dX11_hasMeet_57 (by decide) ?_
    exact j_zret C dX11_hasMeet_58
  · refine j_aload_n C dX11_hasMeet_9 rfl ?_
    refine j_iload_n C dX11_hasMeet_10 rfl ?_
    refine j_callVI C (As := [.int v1]) dX11_hasMeet_11 (CX11_formOf l M hD v0 h0 v1 σ) vv_RX11_169 h0 (by decide) rfl rfl ⟨rfl, rfl⟩ (by decide) (Nat.le_of_ble_eq_true rfl) ⟨Nat.zero_le _, Nat.zero_le _⟩ (fun r_11 s_11 => ?_)
    refine j_if_ne C (tgt := 57) dX11_hasMeet_14 (by decide) ?_ ?_
    · refine j_iconst C (v := (0 : Int32)) dX11_hasMeet_57 (by decide) ?_
      exact j_zret C dX11_hasMeet_58
    · refine j_aload_n C dX11_hasMeet_17 rfl ?_
      refine j_iload_n C dX11_hasMeet_18 rfl ?_
      refine j_callVI C (As := [.int v1]) dX11_hasMeet_19 (CX11_trainOf l M hD v0 h0 v1 s_11) vv_RX11_172 h0 (by decide) rfl rfl ⟨rfl, rfl⟩ (by decide) (Nat.le_of_ble_eq_true rfl) ⟨Nat.zero_le _, Nat.zero_le _⟩ (fun r_19 s_19 => ?_)
      refine j_iload_n C dX11_hasMeet_22 rfl ?_
      refine j_icmp_ne C (tgt := 35) dX11_hasMeet_23 (by decide) ?_ ?_
      · exact H35 s_19
      · refine j_aload_n C dX11_hasMeet_26 rfl ?_
        refine j_iload_n C dX11_hasMeet_27 rfl ?_
        refine j_callVI C (As := [.int v1]) dX11_hasMeet_28 (CX11_otherOf l M hD v0 h0 v1 s_19) vv_RX11_198 h0 (by decide) rfl rfl ⟨rfl, rfl⟩ (by decide) (Nat.le_of_ble_eq_true rfl) ⟨Nat.zero_le _, Nat.zero_le _⟩ (fun r_28 s_28 => ?_)
        refine j_iload_n C dX11_hasMeet_31 rfl ?_
        refine j_icmp_eq C (tgt := 53) dX11_hasMeet_32 (by decide) ?_ ?_
        · refine j_iconst C (v := (1 : Int32)) dX11_hasMeet_53 (by decide) ?_
          refine j_goto C (tgt := 58) dX11_hasMeet_54 (by decide) ?_
          exact j_zret C dX11_hasMeet_58
        · exact H35 s_28
set_option maxRecDepth 20000 in
set_option maxHeartbeats 4000000 in
theorem CX11_isMore (l : Launch) (M : Mc) (hD : Dj M) (v0 : Nat) (h0 : isK v0 11) (v1 : Int32) (v2 : Int32) (σ : Sg) : Ct l M yX11_isMore cX11_isMore 3 (some .boolean) { frames := 0, cells := 0, slots := 0, locals := 0 } vI [.ref (adr M v0), .int v1, .int v2] σ (fX11_isMore v0 v1 v2 σ) := by
  refine ct_of (l := l) hD (by decide) (Nat.le_of_ble_eq_true rfl) ?_
  intro p e s m args below meth c C
  have H16 : ∀  (τ : Sg), J p l e { frames := 0, cells := 0, slots := 0, locals := 0 } s m args below meth c M 3 vI τ 16 [(0, .ref (adr M v0)), (1, .int v1), (2, .int v2)] [] (fX11_isMore_16 v0 v1 v2 τ) := by
    intro  σ
    unfold fX11_isMore_16
    refine j_aload_n C dX11_isMore_16 rfl ?_
    refine j_getI C dX11_isMore_17 fl_RX11_201 h0 (by decide) rfl ?_
    refine j_iload_n C dX11_isMore_20 rfl ?_
    refine j_icmp_ne C (tgt := 36) dX11_isMore_21 (by decide) ?_ ?_
    · refine j_iconst C (v := (0 : Int32)) dX11_isMore_36 (by decide) ?_
      exact j_zret C dX11_isMore_37
    · refine j_aload_n C dX11_isMore_24 rfl ?_
      refine j_getI C dX11_isMore_25 fl_RX11_204 h0 (by decide) rfl ?_
      refine j_iload_n C dX11_isMore_28 rfl ?_
      refine j_icmp_ne C (tgt := 36) dX11_isMore_29 (by decide) ?_ ?_
      · refine j_iconst C (v := (0 : Int32)) dX11_isMore_36 (by decide) ?_
        exact j_zret C dX11_isMore_37
      · refine j_iconst C (v := (1 : Int32)) dX11_isMore_32 (by decide) ?_
        refine j_goto C (tgt := 37) dX11_isMore_33 (by decide) ?_
        exact j_zret C dX11_isMore_37
  unfold fX11_isMore
  refine j_aload_n C dX11_isMore_0 rfl ?_
  refine j_getI C dX11_isMore_1 fl_RX11_201 h0 (by decide) rfl ?_
  refine j_iload_n C dX11_isMore_4 rfl ?_
  refine j_icmp_ne C (tgt := 16) dX11_isMore_5 (by decide) ?_ ?_
  · exact H16 σ
  · refine j_aload_n C dX11_isMore_8 rfl ?_
    refine j_getI C dX11_isMore_9 fl_RX11_204 h0 (by decide) rfl ?_
    refine j_iload_n C dX11_isMore_12 rfl ?_
    refine j_icmp_eq C (tgt := 32) dX11_isMore_13 (by decide) ?_ ?_
    · refine j_iconst C (v := (1 : Int32)) dX11_isMore_32 (by decide) ?_
      refine j_goto C (tgt := 37) dX11_isMore_33 (by decide) ?_
      exact j_zret C dX11_isMore_37
    · exact H16 σ
set_option maxRecDepth 20000 in
set_option maxHeartbeats 4000000 in
theorem CX11_mayByTime (l : Launch) (M : Mc) (hD : Dj M) (v0 : Nat) (h0 : isK v0 11) (v1 : Int32) (v2 : Int32) (σ : Sg) : Ct l M yX11_mayByTime cX11_mayByTime 4 (some .boolean) { frames := 2, cells := 0, slots := 0, locals := 46 } vI [.ref (adr M v0), .int v1, .int v2] σ (fX11_mayByTime v0 v1 v2 σ) := by
  refine ct_of (l := l) hD (by decide) (Nat.le_of_ble_eq_true rfl) ?_
  intro p e s m args below meth c C
  have H18 : ∀  (τ : Sg), J p l e { frames := 2, cells := 0, slots := 0, locals := 46 } s m args below meth c M 4 vI τ 18 [(0, .ref (adr M v0)), (1, .int v1), (2, .int v2)] [] (fX11_mayByTime_18 v0 v1 v2 τ) := by
    intro  σ
    unfold fX11_mayByTime_18
    refine j_iload_n C dX11_mayByTime_18 rfl ?_
    refine j_aload_n C dX11_mayByTime_19 rfl ?_
    refine j_iload_n C dX11_mayByTime_20 rfl ?_
    refine j_aload_n C dX11_mayByTime_21 rfl ?_
    refine j_getR C dX11_mayByTime_22 fl_RX11_35 h0 (by decide) rfl rfl (by decide) (fun h_22 => ?_)
    refine j_iload_n C dX11_mayByTime_25 rfl ?_
    refine j_iald C dX11_mayByTime_26 h_22 ?_
    refine j_callVI C (As := [.int v1, .int ((σ (rf v0 12) (v1).toNatClampNeg))]) dX11_mayByTime_27 (CX11_dueAt l M hD v0 h0 v1 (σ (rf v0 12) (v1).toNatClampNeg) σ) vv_RX11_153 h0 (by decide) rfl rfl ⟨rfl, rfl⟩ (by decide) (Nat.le_of_ble_eq_true rfl) ⟨Nat.zero_le _, Nat.zero_le _⟩ (fun r_27 s_27 => ?_)
    refine j_aload_n C dX11_mayByTime_30 rfl ?_
    refine j_iload_n C dX11_mayByTime_31 rfl ?_
    refine j_callVI C (As := [.int v1]) dX11_mayByTime_32 (CX11_lates l M hD v0 h0 v1 s_27) vv_RX11_207 h0 (by decide) rfl rfl ⟨rfl, rfl⟩ (by decide) (Nat.le_of_ble_eq_true rfl) ⟨Nat.zero_le _, Nat.zero_le _⟩ (fun r_32 s_32 => ?_)
    refine j_iadd C dX11_mayByTime_35 ?_
    refine j_icmp_lt C (tgt := 43) dX11_mayByTime_36 (by decide) ?_ ?_
    · refine j_iconst C (v := (0 : Int32)) dX11_mayByTime_43 (by decide) ?_
      exact j_zret C dX11_mayByTime_44
    · refine j_iconst C (v := (1 : Int32)) dX11_mayByTime_39 (by decide) ?_
      refine j_goto C (tgt := 44) dX11_mayByTime_40 (by decide) ?_
      exact j_zret C dX11_mayByTime_44
  have H47 : ∀  (n : Nat) (v3 : Int32) (τ : Sg), J p l e { frames := 2, cells := 0, slots := 0, locals := 46 } s m args below meth c M 4 vI τ 47 [(0, .ref (adr M v0)), (1, .int v1), (2, .int v2), (3, .int v3)] [] (lq1 (fX11_mayByTime_47 v0 v1 v2) n v3 τ) := by
    refine j_lq1 (Ls := fun v3 => [(0, .ref (adr M v0)), (1, .int v1), (2, .int v2), (3, .int v3)]) (st := fun _ => []) ?_
    intro k47 hk47 v3 σ
    have H96 : ∀ (v3 : Int32) (τ : Sg), J p l e { frames := 2, cells := 0, slots := 0, locals := 46 } s m args below meth c M 4 vI τ 96 [(0, .ref (adr M v0)), (1, .int v1), (2, .int v2), (3, .int v3)] [] (fX11_mayByTime_96 v0 v1 v2 v3 k47 τ) := by
      intro v3 σ
      unfold fX11_mayByTime_96
      refine j_iinc C (v := (1 : Int32)) (Ls' := fun v3_96 => [(3, .int v3_96), (0, .ref (adr M v0)), (1, .int v1), (2, .int v2)]) dX11_mayByTime_96 3 rfl (by decide) (by decide) (fun _ => rfl) (fun v3_96 => ?_)
      refine j_goto C (tgt := 47) dX11_mayByTime_99 (by decide) ?_
      refine j_sub (Ls' := [(0, .ref (adr M v0)), (1, .int v1), (2, .int v2), (3, .int v3_96)]) [1, 2, 3, 0] rfl ?_
      exact hk47 v3_96 σ
    unfold fX11_mayByTime_47
    refine j_iload_n C dX11_mayByTime_47 rfl ?_
    refine j_aload_n C dX11_mayByTime_48 rfl ?_
    refine j_getR C dX11_mayByTime_49 fl_RX11_7 h0 (by decide) rfl rfl (by decide) (fun h_49 => ?_)
    refine j_bipush C (v := (40 : Int32)) dX11_mayByTime_52 (by decide) ?_
    refine j_iald C dX11_mayByTime_54 h_49 ?_
    refine j_icmp_ge C (tgt := 102) dX11_mayByTime_55 (by decide) ?_ ?_
    · refine j_iconst C (v := (0 : Int32)) dX11_mayByTime_102 (by decide) ?_
      exact j_zret C dX11_mayByTime_103
    · refine j_aload_n C dX11_mayByTime_58 rfl ?_
      refine j_getR C dX11_mayByTime_59 fl_RX11_28 h0 (by decide) rfl rfl (by decide) (fun h_59 => ?_)
      refine j_iload_n C dX11_mayByTime_62 rfl ?_
      refine j_zald C dX11_mayByTime_63 h_59 ?_
      refine j_if_eq C (tgt := 96) dX11_mayByTime_64 (by decide) ?_ ?_
      · exact H96 v3 σ
      · refine j_aload_n C dX11_mayByTime_67 rfl ?_
        refine j_iload_n C dX11_mayByTime_68 rfl ?_
        refine j_callVI C (As := [.int v3]) dX11_mayByTime_69 (CX11_formOf l M hD v0 h0 v3 σ) vv_RX11_169 h0 (by decide) rfl rfl ⟨rfl, rfl⟩ (by decide) (Nat.le_of_ble_eq_true rfl) ⟨Nat.zero_le _, Nat.zero_le _⟩ (fun r_69 s_69 => ?_)
        refine j_iconst C (v := (3 : Int32)) dX11_mayByTime_72 (by decide) ?_
        refine j_icmp_ne C (tgt := 96) dX11_mayByTime_73 (by decide) ?_ ?_
        · exact H96 v3 s_69
        · refine j_aload_n C dX11_mayByTime_76 rfl ?_
          refine j_iload_n C dX11_mayByTime_77 rfl ?_
          refine j_callVI C (As := [.int v3]) dX11_mayByTime_78 (CX11_trainOf l M hD v0 h0 v3 s_69) vv_RX11_172 h0 (by decide) rfl rfl ⟨rfl, rfl⟩ (by decide) (Nat.le_of_ble_eq_true rfl) ⟨Nat.zero_le _, Nat.zero_le _⟩ (fun r_78 s_78 => ?_)
          refine j_iload_n C dX11_mayByTime_81 rfl ?_
          refine j_icmp_ne C (tgt := 96) dX11_mayByTime_82 (by decide) ?_ ?_
          · exact H96 v3 s_78
          · refine j_aload_n C dX11_mayByTime_85 rfl ?_
            refine j_iload_n C dX11_mayByTime_86 rfl ?_
            refine j_callVI C (As := [.int v3]) dX11_mayByTime_87 (CX11_numberOf l M hD v0 h0 v3 s_78) vv_RX11_195 h0 (by decide) rfl rfl ⟨rfl, rfl⟩ (by decide) (Nat.le_of_ble_eq_true rfl) ⟨Nat.zero_le _, Nat.zero_le _⟩ (fun r_87 s_87 => ?_)
            refine j_iload_n C dX11_mayByTime_90 rfl ?_
            refine j_icmp_gt C (tgt := 96) dX11_mayByTime_91 (by decide) ?_ ?_
            · exact H96 v3 s_87
            · refine j_iconst C (v := (1 : Int32)) dX11_mayByTime_94 (by decide) ?_
              exact j_zret C dX11_mayByTime_95
  unfold fX11_mayByTime
  refine j_aload_n C dX11_mayByTime_0 rfl ?_
  refine j_iload_n C dX11_mayByTime_1 rfl ?_
  refine j_callVI C (As := [.int v1]) dX11_mayByTime_2 (CX11_kindOf l M hD v0 h0 v1 σ) vv_RX11_136 h0 (by decide) rfl rfl ⟨rfl, rfl⟩ (by decide) (Nat.le_of_ble_eq_true rfl) ⟨Nat.zero_le _, Nat.zero_le _⟩ (fun r_2 s_2 => ?_)
  refine j_iconst C (v := (1 : Int32)) dX11_mayByTime_5 (by decide) ?_
  refine j_icmp_eq C (tgt := 18) dX11_mayByTime_6 (by decide) ?_ ?_
  · exact H18 s_2
  · refine j_aload_n C dX11_mayByTime_9 rfl ?_
    refine j_iload_n C dX11_mayByTime_10 rfl ?_
    refine j_callVI C (As := [.int v1]) dX11_mayByTime_11 (CX11_kindOf l M hD v0 h0 v1 s_2) vv_RX11_136 h0 (by decide) rfl rfl ⟨rfl, rfl⟩ (by decide) (Nat.le_of_ble_eq_true rfl) ⟨Nat.zero_le _, Nat.zero_le _⟩ (fun r_11 s_11 => ?_)
    refine j_iconst C (v := (2 : Int32)) dX11_mayByTime_14 (by decide) ?_
    refine j_icmp_ne C (tgt := 45) dX11_mayByTime_15 (by decide) ?_ ?_
    · refine j_iconst C (v := (0 : Int32)) dX11_mayByTime_45 (by decide) ?_
      refine j_istore_n C (Ls' := fun v3_46 => [(3, .int v3_46), (0, .ref (adr M v0)), (1, .int v1), (2, .int v2)]) dX11_mayByTime_46 (by decide) (fun _ => rfl) (fun v3_46 => ?_)
      refine j_sub (Ls' := [(0, .ref (adr M v0)), (1, .int v1), (2, .int v2), (3, .int v3_46)]) [1, 2, 3, 0] rfl ?_
      exact H47 FU v3_46 s_11
    · exact H18 s_11
set_option maxRecDepth 20000 in
set_option maxHeartbeats 4000000 in
theorem CX11_mayByWaits (l : Launch) (M : Mc) (hD : Dj M) (v0 : Nat) (h0 : isK v0 11) (v1 : Int32) (v2 : Int32) (σ : Sg) : Ct l M yX11_mayByWaits cX11_mayByWaits 4 (some .boolean) { frames := 1, cells := 0, slots := 0, locals := 21 } vI [.ref (adr M v0), .int v1, .int v2] σ (fX11_mayByWaits v0 v1 v2 σ) := by
  refine ct_of (l := l) hD (by decide) (Nat.le_of_ble_eq_true rfl) ?_
  intro p e s m args below meth c C
  have H2 : ∀  (n : Nat) (v3 : Int32) (τ : Sg), J p l e { frames := 1, cells := 0, slots := 0, locals := 21 } s m args below meth c M 4 vI τ 2 [(0, .ref (adr M v0)), (1, .int v1), (2, .int v2), (3, .int v3)] [] (lq1 (fX11_mayByWaits_2 v0 v1 v2) n v3 τ) := by
    refine j_lq1 (Ls := fun v3 => [(0, .ref (adr M v0)), (1, .int v1), (2, .int v2), (3, .int v3)]) (st := fun _ => []) ?_
    intro k2 hk2 v3 σ
    have H65 : ∀ (v3 : Int32) (τ : Sg), J p l e { frames := 1, cells := 0, slots := 0, locals := 21 } s m args below meth c M 4 vI τ 65 [(0, .ref (adr M v0)), (1, .int v1), (2, .int v2), (3, .int v3)] [] (fX11_mayByWaits_65 v0 v1 v2 v3 k2 τ) := by
      intro v3 σ
      unfold fX11_mayByWaits_65
      refine j_iinc C (v := (1 : Int32)) (Ls' := fun v3_65 => [(3, .int v3_65), (0, .ref (adr M v0)), (1, .int v1), (2, .int v2)]) dX11_mayByWaits_65 3 rfl (by decide) (by decide) (fun _ => rfl) (fun v3_65 => ?_)
      refine j_goto C (tgt := 2) dX11_mayByWaits_68 (by decide) ?_
      refine j_sub (Ls' := [(0, .ref (adr M v0)), (1, .int v1), (2, .int v2), (3, .int v3_65)]) [1, 2, 3, 0] rfl ?_
      exact hk2 v3_65 σ
    unfold fX11_mayByWaits_2
    refine j_iload_n C dX11_mayByWaits_2 rfl ?_
    refine j_aload_n C dX11_mayByWaits_3 rfl ?_
    refine j_getR C dX11_mayByWaits_4 fl_RX11_7 h0 (by decide) rfl rfl (by decide) (fun h_4 => ?_)
    refine j_bipush C (v := (40 : Int32)) dX11_mayByWaits_7 (by decide) ?_
    refine j_iald C dX11_mayByWaits_9 h_4 ?_
    refine j_icmp_ge C (tgt := 71) dX11_mayByWaits_10 (by decide) ?_ ?_
    · refine j_iconst C (v := (1 : Int32)) dX11_mayByWaits_71 (by decide) ?_
      exact j_zret C dX11_mayByWaits_72
    · refine j_aload_n C dX11_mayByWaits_13 rfl ?_
      refine j_getR C dX11_mayByWaits_14 fl_RX11_28 h0 (by decide) rfl rfl (by decide) (fun h_14 => ?_)
      refine j_iload_n C dX11_mayByWaits_17 rfl ?_
      refine j_zald C dX11_mayByWaits_18 h_14 ?_
      refine j_if_eq C (tgt := 65) dX11_mayByWaits_19 (by decide) ?_ ?_
      · exact H65 v3 σ
      · refine j_aload_n C dX11_mayByWaits_22 rfl ?_
        refine j_iload_n C dX11_mayByWaits_23 rfl ?_
        refine j_callVI C (As := [.int v3]) dX11_mayByWaits_24 (CX11_formOf l M hD v0 h0 v3 σ) vv_RX11_169 h0 (by decide) rfl rfl ⟨rfl, rfl⟩ (by decide) (Nat.le_of_ble_eq_true rfl) ⟨Nat.zero_le _, Nat.zero_le _⟩ (fun r_24 s_24 => ?_)
        refine j_iconst C (v := (2 : Int32)) dX11_mayByWaits_27 (by decide) ?_
        refine j_icmp_ne C (tgt := 65) dX11_mayByWaits_28 (by decide) ?_ ?_
        · exact H65 v3 s_24
        · refine j_aload_n C dX11_mayByWaits_31 rfl ?_
          refine j_iload_n C dX11_mayByWaits_32 rfl ?_
          refine j_callVI C (As := [.int v3]) dX11_mayByWaits_33 (CX11_trainOf l M hD v0 h0 v3 s_24) vv_RX11_172 h0 (by decide) rfl rfl ⟨rfl, rfl⟩ (by decide) (Nat.le_of_ble_eq_true rfl) ⟨Nat.zero_le _, Nat.zero_le _⟩ (fun r_33 s_33 => ?_)
          refine j_iload_n C dX11_mayByWaits_36 rfl ?_
          refine j_icmp_ne C (tgt := 65) dX11_mayByWaits_37 (by decide) ?_ ?_
          · exact H65 v3 s_33
          · refine j_aload_n C dX11_mayByWaits_40 rfl ?_
            refine j_iload_n C dX11_mayByWaits_41 rfl ?_
            refine j_callVI C (As := [.int v3]) dX11_mayByWaits_42 (CX11_stationOf l M hD v0 h0 v3 s_33) vv_RX11_120 h0 (by decide) rfl rfl ⟨rfl, rfl⟩ (by decide) (Nat.le_of_ble_eq_true rfl) ⟨Nat.zero_le _, Nat.zero_le _⟩ (fun r_42 s_42 => ?_)
            refine j_aload_n C dX11_mayByWaits_45 rfl ?_
            refine j_getR C dX11_mayByWaits_46 fl_RX11_35 h0 (by decide) rfl rfl (by decide) (fun h_46 => ?_)
            refine j_iload_n C dX11_mayByWaits_49 rfl ?_
            refine j_iald C dX11_mayByWaits_50 h_46 ?_
            refine j_icmp_ne C (tgt := 65) dX11_mayByWaits_51 (by decide) ?_ ?_
            · exact H65 v3 s_42
            · refine j_aload_n C dX11_mayByWaits_54 rfl ?_
              refine j_iload_n C dX11_mayByWaits_55 rfl ?_
              refine j_callVI C (As := [.int v3]) dX11_mayByWaits_56 (CX11_numberOf l M hD v0 h0 v3 s_42) vv_RX11_195 h0 (by decide) rfl rfl ⟨rfl, rfl⟩ (by decide) (Nat.le_of_ble_eq_true rfl) ⟨Nat.zero_le _, Nat.zero_le _⟩ (fun r_56 s_56 => ?_)
              refine j_iload_n C dX11_mayByWaits_59 rfl ?_
              refine j_icmp_le C (tgt := 65) dX11_mayByWaits_60 (by decide) ?_ ?_
              · exact H65 v3 s_56
              · refine j_iconst C (v := (0 : Int32)) dX11_mayByWaits_63 (by decide) ?_
                exact j_zret C dX11_mayByWaits_64
  unfold fX11_mayByWaits
  refine j_iconst C (v := (0 : Int32)) dX11_mayByWaits_0 (by decide) ?_
  refine j_istore_n C (Ls' := fun v3_1 => [(3, .int v3_1), (0, .ref (adr M v0)), (1, .int v1), (2, .int v2)]) dX11_mayByWaits_1 (by decide) (fun _ => rfl) (fun v3_1 => ?_)
  refine j_sub (Ls' := [(0, .ref (adr M v0)), (1, .int v1), (2, .int v2), (3, .int v3_1)]) [1, 2, 3, 0] rfl ?_
  exact H2 FU v3_1 σ
set_option maxRecDepth 20000 in
set_option maxHeartbeats 4000000 in
theorem CX11_isMet (l : Launch) (M : Mc) (hD : Dj M) (v0 : Nat) (h0 : isK v0 11) (v1 : Int32) (v2 : Int32) (σ : Sg) : Ct l M yX11_isMet cX11_isMet 3 (some .boolean) { frames := 0, cells := 0, slots := 0, locals := 0 } vI [.ref (adr M v0), .int v1, .int v2] σ (fX11_isMet v0 v1 v2 σ) := by
  refine ct_of (l := l) hD (by decide) (Nat.le_of_ble_eq_true rfl) ?_
  intro p e s m args below meth c C
  unfold fX11_isMet
  refine j_aload_n C dX11_isMet_0 rfl ?_
  refine j_getR C dX11_isMet_1 fl_RX11_32 h0 (by decide) rfl rfl (by decide) (fun h_1 => ?_)
  refine j_iload_n C dX11_isMet_4 rfl ?_
  refine j_iald C dX11_isMet_5 h_1 ?_
  refine j_iconst C (v := (3 : Int32)) dX11_isMet_6 (by decide) ?_
  refine j_icmp_eq C (tgt := 24) dX11_isMet_7 (by decide) ?_ ?_
  · refine j_iconst C (v := (1 : Int32)) dX11_isMet_24 (by decide) ?_
    refine j_goto C (tgt := 29) dX11_isMet_25 (by decide) ?_
    exact j_zret C dX11_isMet_29
  · refine j_aload_n C dX11_isMet_10 rfl ?_
    refine j_getR C dX11_isMet_11 fl_RX11_65 h0 (by decide) rfl rfl (by decide) (fun h_11 => ?_)
    refine j_bipush C (v := (7 : Int32)) dX11_isMet_14 (by decide) ?_
    refine j_iload_n C dX11_isMet_16 rfl ?_
    refine j_imul C dX11_isMet_17 ?_
    refine j_iload_n C dX11_isMet_18 rfl ?_
    refine j_iadd C dX11_isMet_19 ?_
    refine j_zald C dX11_isMet_20 h_11 ?_
    refine j_if_eq C (tgt := 28) dX11_isMet_21 (by decide) ?_ ?_
    · refine j_iconst C (v := (0 : Int32)) dX11_isMet_28 (by decide) ?_
      exact j_zret C dX11_isMet_29
    · refine j_iconst C (v := (1 : Int32)) dX11_isMet_24 (by decide) ?_
      refine j_goto C (tgt := 29) dX11_isMet_25 (by decide) ?_
      exact j_zret C dX11_isMet_29
set_option maxRecDepth 20000 in
set_option maxHeartbeats 4000000 in
theorem CX11_mayByMeets (l : Launch) (M : Mc) (hD : Dj M) (v0 : Nat) (h0 : isK v0 11) (v1 : Int32) (σ : Sg) : Ct l M yX11_mayByMeets cX11_mayByMeets 4 (some .boolean) { frames := 2, cells := 0, slots := 0, locals := 44 } vI [.ref (adr M v0), .int v1] σ (fX11_mayByMeets v0 v1 σ) := by
  refine ct_of (l := l) hD (by decide) (Nat.le_of_ble_eq_true rfl) ?_
  intro p e s m args below meth c C
  have H2 : ∀  (n : Nat) (v2 : Int32) (τ : Sg), J p l e { frames := 2, cells := 0, slots := 0, locals := 44 } s m args below meth c M 4 vI τ 2 [(0, .ref (adr M v0)), (1, .int v1), (2, .int v2)] [] (lq1 (fX11_mayByMeets_2 v0 v1) n v2 τ) := by
    refine j_lq1 (Ls := fun v2 => [(0, .ref (adr M v0)), (1, .int v1), (2, .int v2)]) (st := fun _ => []) ?_
    intro k2 hk2 v2 σ
    have H104 : ∀ (v2 : Int32) (τ : Sg), J p l e { frames := 2, cells := 0, slots := 0, locals := 44 } s m args below meth c M 4 vI τ 104 [(0, .ref (adr M v0)), (1, .int v1), (2, .int v2)] [] (fX11_mayByMeets_104 v0 v1 v2 k2 τ) := by
      intro v2 σ
      unfold fX11_mayByMeets_104
      refine j_iinc C (v := (1 : Int32)) (Ls' := fun v2_104 => [(2, .int v2_104), (0, .ref (adr M v0)), (1, .int v1)]) dX11_mayByMeets_104 2 rfl (by decide) (by decide) (fun _ => rfl) (fun v2_104 => ?_)
      refine j_goto C (tgt := 2) dX11_mayByMeets_107 (by decide) ?_
      refine j_sub (Ls' := [(0, .ref (adr M v0)), (1, .int v1), (2, .int v2_104)]) [1, 2, 0] rfl ?_
      exact hk2 v2_104 σ
    have H37 : ∀ (v2 : Int32) (n : Nat) (v3 : Int32) (τ : Sg), J p l e { frames := 2, cells := 0, slots := 0, locals := 44 } s m args below meth c M 4 vI τ 37 [(0, .ref (adr M v0)), (1, .int v1), (2, .int v2), (3, .int v3)] [] (lq1 (fX11_mayByMeets_37 v0 v1 v2 k2) n v3 τ) := by
      intro v2
      refine j_lq1 (Ls := fun v3 => [(0, .ref (adr M v0)), (1, .int v1), (2, .int v2), (3, .int v3)]) (st := fun _ => []) ?_
      intro k37 hk37 v3 σ
      have H74 : ∀ (v3 : Int32) (τ : Sg), J p l e { frames := 2, cells := 0, slots := 0, locals := 44 } s m args below meth c M 4 vI τ 74 [(0, .ref (adr M v0)), (1, .int v1), (2, .int v2), (3, .int v3)] [] (fX11_mayByMeets_74 v0 v1 v2 v3 k2 k37 τ) := by
        intro v3 σ
        unfold fX11_mayByMeets_74
        refine j_iinc C (v := (1 : Int32)) (Ls' := fun v3_74 => [(3, .int v3_74), (0, .ref (adr M v0)), (1, .int v1), (2, .int v2)]) dX11_mayByMeets_74 3 rfl (by decide) (by decide) (fun _ => rfl) (fun v3_74 => ?_)
        refine j_goto C (tgt := 37) dX11_mayByMeets_77 (by decide) ?_
        refine j_sub (Ls' := [(0, .ref (adr M v0)), (1, .int v1), (2, .int v2), (3, .int v3_74)]) [1, 2, 3, 0] rfl ?_
        exact hk37 v3_74 σ
      unfold fX11_mayByMeets_37
      refine j_iload_n C dX11_mayByMeets_37 rfl ?_
      refine j_aload_n C dX11_mayByMeets_38 rfl ?_
      refine j_getR C dX11_mayByMeets_39 fl_RX11_7 h0 (by decide) rfl rfl (by decide) (fun h_39 => ?_)
      refine j_bipush C (v := (40 : Int32)) dX11_mayByMeets_42 (by decide) ?_
      refine j_iald C dX11_mayByMeets_44 h_39 ?_
      refine j_icmp_ge C (tgt := 80) dX11_mayByMeets_45 (by decide) ?_ ?_
      · refine j_aload_n C dX11_mayByMeets_80 rfl ?_
        refine j_iload_n C dX11_mayByMeets_81 rfl ?_
        refine j_iload_n C dX11_mayByMeets_82 rfl ?_
        refine j_callVI C (As := [.int v1, .int v2]) dX11_mayByMeets_83 (CX11_isMore l M hD v0 h0 v1 v2 σ) vv_RX11_216 h0 (by decide) rfl rfl ⟨rfl, rfl⟩ (by decide) (Nat.le_of_ble_eq_true rfl) ⟨Nat.zero_le _, Nat.zero_le _⟩ (fun r_83 s_83 => ?_)
        refine j_if_eq C (tgt := 104) dX11_mayByMeets_86 (by decide) ?_ ?_
        · refine j_sub (Ls' := [(0, .ref (adr M v0)), (1, .int v1), (2, .int v2)]) [0, 1, 2] rfl ?_
          exact H104 v2 s_83
        · refine j_aload_n C dX11_mayByMeets_89 rfl ?_
          refine j_getI C dX11_mayByMeets_90 fl_RX11_219 h0 (by decide) rfl ?_
          refine j_aload_n C dX11_mayByMeets_93 rfl ?_
          refine j_getR C dX11_mayByMeets_94 fl_RX11_35 h0 (by decide) rfl rfl (by decide) (fun h_94 => ?_)
          refine j_iload_n C dX11_mayByMeets_97 rfl ?_
          refine j_iald C dX11_mayByMeets_98 h_94 ?_
          refine j_icmp_ne C (tgt := 104) dX11_mayByMeets_99 (by decide) ?_ ?_
          · refine j_sub (Ls' := [(0, .ref (adr M v0)), (1, .int v1), (2, .int v2)]) [0, 1, 2] rfl ?_
            exact H104 v2 s_83
          · refine j_iconst C (v := (0 : Int32)) dX11_mayByMeets_102 (by decide) ?_
            exact j_zret C dX11_mayByMeets_103
      · refine j_aload_n C dX11_mayByMeets_48 rfl ?_
        refine j_iload_n C dX11_mayByMeets_49 rfl ?_
        refine j_iload_n C dX11_mayByMeets_50 rfl ?_
        refine j_iload_n C dX11_mayByMeets_51 rfl ?_
        refine j_callVI C (As := [.int v3, .int v1, .int v2]) dX11_mayByMeets_52 (CX11_hasMeet l M hD v0 h0 v3 v1 v2 σ) vv_RX11_213 h0 (by decide) rfl rfl ⟨rfl, rfl⟩ (by decide) (Nat.le_of_ble_eq_true rfl) ⟨Nat.zero_le _, Nat.zero_le _⟩ (fun r_52 s_52 => ?_)
        refine j_if_eq C (tgt := 74) dX11_mayByMeets_55 (by decide) ?_ ?_
        · exact H74 v3 s_52
        · refine j_aload_n C dX11_mayByMeets_58 rfl ?_
          refine j_iload_n C dX11_mayByMeets_59 rfl ?_
          refine j_callVI C (As := [.int v3]) dX11_mayByMeets_60 (CX11_stationOf l M hD v0 h0 v3 s_52) vv_RX11_120 h0 (by decide) rfl rfl ⟨rfl, rfl⟩ (by decide) (Nat.le_of_ble_eq_true rfl) ⟨Nat.zero_le _, Nat.zero_le _⟩ (fun r_60 s_60 => ?_)
          refine j_aload_n C dX11_mayByMeets_63 rfl ?_
          refine j_getR C dX11_mayByMeets_64 fl_RX11_35 h0 (by decide) rfl rfl (by decide) (fun h_64 => ?_)
          refine j_iload_n C dX11_mayByMeets_67 rfl ?_
          refine j_iald C dX11_mayByMeets_68 h_64 ?_
          refine j_icmp_ne C (tgt := 74) dX11_mayByMeets_69 (by decide) ?_ ?_
          · exact H74 v3 s_60
          · refine j_iconst C (v := (0 : Int32)) dX11_mayByMeets_72 (by decide) ?_
            exact j_zret C dX11_mayByMeets_73
    unfold fX11_mayByMeets_2
    refine j_iload_n C dX11_mayByMeets_2 rfl ?_
    refine j_aload_n C dX11_mayByMeets_3 rfl ?_
    refine j_getR C dX11_mayByMeets_4 fl_RX11_7 h0 (by decide) rfl rfl (by decide) (fun h_4 => ?_)
    refine j_bipush C (v := (14 : Int32)) dX11_mayByMeets_7 (by decide) ?_
    refine j_iald C dX11_mayByMeets_9 h_4 ?_
    refine j_icmp_ge C (tgt := 110) dX11_mayByMeets_10 (by decide) ?_ ?_
    · refine j_iconst C (v := (1 : Int32)) dX11_mayByMeets_110 (by decide) ?_
      exact j_zret C dX11_mayByMeets_111
    · refine j_iload_n C dX11_mayByMeets_13 rfl ?_
      refine j_iload_n C dX11_mayByMeets_14 rfl ?_
      refine j_icmp_eq C (tgt := 104) dX11_mayByMeets_15 (by decide) ?_ ?_
      · exact H104 v2 σ
      · refine j_aload_n C dX11_mayByMeets_18 rfl ?_
        refine j_iload_n C dX11_mayByMeets_19 rfl ?_
        refine j_aload_n C dX11_mayByMeets_20 rfl ?_
        refine j_getR C dX11_mayByMeets_21 fl_RX11_35 h0 (by decide) rfl rfl (by decide) (fun h_21 => ?_)
        refine j_iload_n C dX11_mayByMeets_24 rfl ?_
        refine j_iald C dX11_mayByMeets_25 h_21 ?_
        refine j_callVI C (As := [.int v2, .int ((σ (rf v0 12) (v1).toNatClampNeg))]) dX11_mayByMeets_26 (CX11_isMet l M hD v0 h0 v2 (σ (rf v0 12) (v1).toNatClampNeg) σ) vv_RX11_210 h0 (by decide) rfl rfl ⟨rfl, rfl⟩ (by decide) (Nat.le_of_ble_eq_true rfl) ⟨Nat.zero_le _, Nat.zero_le _⟩ (fun r_26 s_26 => ?_)
        refine j_if_eq C (tgt := 35) dX11_mayByMeets_29 (by decide) ?_ ?_
        · refine j_iconst C (v := (0 : Int32)) dX11_mayByMeets_35 (by decide) ?_
          refine j_istore_n C (Ls' := fun v3_36 => [(3, .int v3_36), (0, .ref (adr M v0)), (1, .int v1), (2, .int v2)]) dX11_mayByMeets_36 (by decide) (fun _ => rfl) (fun v3_36 => ?_)
          refine j_sub (Ls' := [(0, .ref (adr M v0)), (1, .int v1), (2, .int v2), (3, .int v3_36)]) [1, 2, 3, 0] rfl ?_
          exact H37 v2 FU v3_36 s_26
        · refine j_goto C (tgt := 104) dX11_mayByMeets_32 (by decide) ?_
          exact H104 v2 s_26
  unfold fX11_mayByMeets
  refine j_iconst C (v := (0 : Int32)) dX11_mayByMeets_0 (by decide) ?_
  refine j_istore_n C (Ls' := fun v2_1 => [(2, .int v2_1), (0, .ref (adr M v0)), (1, .int v1)]) dX11_mayByMeets_1 (by decide) (fun _ => rfl) (fun v2_1 => ?_)
  refine j_sub (Ls' := [(0, .ref (adr M v0)), (1, .int v1), (2, .int v2_1)]) [1, 2, 0] rfl ?_
  exact H2 FU v2_1 σ
set_option maxRecDepth 20000 in
set_option maxHeartbeats 4000000 in
theorem CX11_isBehind (l : Launch) (M : Mc) (hD : Dj M) (v0 : Nat) (h0 : isK v0 11) (v1 : Int32) (v2 : Int32) (σ : Sg) : Ct l M yX11_isBehind cX11_isBehind 3 (some .boolean) { frames := 0, cells := 0, slots := 0, locals := 0 } vI [.ref (adr M v0), .int v1, .int v2] σ (fX11_isBehind v0 v1 v2 σ) := by
  refine ct_of (l := l) hD (by decide) (Nat.le_of_ble_eq_true rfl) ?_
  intro p e s m args below meth c C
  unfold fX11_isBehind
  refine j_aload_n C dX11_isBehind_0 rfl ?_
  refine j_getR C dX11_isBehind_1 fl_RX11_38 h0 (by decide) rfl rfl (by decide) (fun h_1 => ?_)
  refine j_iload_n C dX11_isBehind_4 rfl ?_
  refine j_iald C dX11_isBehind_5 h_1 ?_
  refine j_if_ne C (tgt := 27) dX11_isBehind_6 (by decide) ?_ ?_
  · refine j_iload_n C dX11_isBehind_27 rfl ?_
    refine j_aload_n C dX11_isBehind_28 rfl ?_
    refine j_getR C dX11_isBehind_29 fl_RX11_35 h0 (by decide) rfl rfl (by decide) (fun h_29 => ?_)
    refine j_iload_n C dX11_isBehind_32 rfl ?_
    refine j_iald C dX11_isBehind_33 h_29 ?_
    refine j_icmp_ge C (tgt := 41) dX11_isBehind_34 (by decide) ?_ ?_
    · refine j_iconst C (v := (0 : Int32)) dX11_isBehind_41 (by decide) ?_
      exact j_zret C dX11_isBehind_42
    · refine j_iconst C (v := (1 : Int32)) dX11_isBehind_37 (by decide) ?_
      refine j_goto C (tgt := 42) dX11_isBehind_38 (by decide) ?_
      exact j_zret C dX11_isBehind_42
  · refine j_iload_n C dX11_isBehind_9 rfl ?_
    refine j_aload_n C dX11_isBehind_10 rfl ?_
    refine j_getR C dX11_isBehind_11 fl_RX11_35 h0 (by decide) rfl rfl (by decide) (fun h_11 => ?_)
    refine j_iload_n C dX11_isBehind_14 rfl ?_
    refine j_iald C dX11_isBehind_15 h_11 ?_
    refine j_icmp_le C (tgt := 23) dX11_isBehind_16 (by decide) ?_ ?_
    · refine j_iconst C (v := (0 : Int32)) dX11_isBehind_23 (by decide) ?_
      refine j_goto C (tgt := 42) dX11_isBehind_24 (by decide) ?_
      exact j_zret C dX11_isBehind_42
    · refine j_iconst C (v := (1 : Int32)) dX11_isBehind_19 (by decide) ?_
      refine j_goto C (tgt := 42) dX11_isBehind_20 (by decide) ?_
      exact j_zret C dX11_isBehind_42
set_option maxRecDepth 20000 in
set_option maxHeartbeats 4000000 in
theorem CX11_sectionAhead (l : Launch) (M : Mc) (hD : Dj M) (v0 : Nat) (h0 : isK v0 11) (v1 : Int32) (σ : Sg) : Ct l M yX11_sectionAhead cX11_sectionAhead 2 (some .int) { frames := 0, cells := 0, slots := 0, locals := 0 } vI [.ref (adr M v0), .int v1] σ (fX11_sectionAhead v0 v1 σ) := by
  refine ct_of (l := l) hD (by decide) (Nat.le_of_ble_eq_true rfl) ?_
  intro p e s m args below meth c C
  unfold fX11_sectionAhead
  refine j_aload_n C dX11_sectionAhead_0 rfl ?_
  refine j_getR C dX11_sectionAhead_1 fl_RX11_38 h0 (by decide) rfl rfl (by decide) (fun h_1 => ?_)
  refine j_iload_n C dX11_sectionAhead_4 rfl ?_
  refine j_iald C dX11_sectionAhead_5 h_1 ?_
  refine j_if_ne C (tgt := 18) dX11_sectionAhead_6 (by decide) ?_ ?_
  · refine j_aload_n C dX11_sectionAhead_18 rfl ?_
    refine j_getR C dX11_sectionAhead_19 fl_RX11_35 h0 (by decide) rfl rfl (by decide) (fun h_19 => ?_)
    refine j_iload_n C dX11_sectionAhead_22 rfl ?_
    refine j_iald C dX11_sectionAhead_23 h_19 ?_
    refine j_iconst C (v := (1 : Int32)) dX11_sectionAhead_24 (by decide) ?_
    refine j_isub C dX11_sectionAhead_25 ?_
    exact j_iret C dX11_sectionAhead_26
  · refine j_aload_n C dX11_sectionAhead_9 rfl ?_
    refine j_getR C dX11_sectionAhead_10 fl_RX11_35 h0 (by decide) rfl rfl (by decide) (fun h_10 => ?_)
    refine j_iload_n C dX11_sectionAhead_13 rfl ?_
    refine j_iald C dX11_sectionAhead_14 h_10 ?_
    refine j_goto C (tgt := 26) dX11_sectionAhead_15 (by decide) ?_
    exact j_iret C dX11_sectionAhead_26
set_option maxRecDepth 20000 in
set_option maxHeartbeats 4000000 in
theorem CX11_goesOver (l : Launch) (M : Mc) (hD : Dj M) (v0 : Nat) (h0 : isK v0 11) (v1 : Int32) (v2 : Int32) (σ : Sg) : Ct l M yX11_goesOver cX11_goesOver 3 (some .boolean) { frames := 2, cells := 0, slots := 0, locals := 42 } vI [.ref (adr M v0), .int v1, .int v2] σ (fX11_goesOver v0 v1 v2 σ) := by
  refine ct_of (l := l) hD (by decide) (Nat.le_of_ble_eq_true rfl) ?_
  intro p e s m args below meth c C
  unfold fX11_goesOver
  refine j_aload_n C dX11_goesOver_0 rfl ?_
  refine j_iload_n C dX11_goesOver_1 rfl ?_
  refine j_callVI C (As := [.int v1]) dX11_goesOver_2 (CX11_wayOf l M hD v0 h0 v1 σ) vv_RX11_140 h0 (by decide) rfl rfl ⟨rfl, rfl⟩ (by decide) (Nat.le_of_ble_eq_true rfl) ⟨Nat.zero_le _, Nat.zero_le _⟩ (fun r_2 s_2 => ?_)
  refine j_if_ne C (tgt := 27) dX11_goesOver_5 (by decide) ?_ ?_
  · refine j_iload_n C dX11_goesOver_27 rfl ?_
    refine j_aload_n C dX11_goesOver_28 rfl ?_
    refine j_iload_n C dX11_goesOver_29 rfl ?_
    refine j_callVI C (As := [.int v1]) dX11_goesOver_30 (CX11_toOf l M hD v0 h0 v1 s_2) vv_RX11_112 h0 (by decide) rfl rfl ⟨rfl, rfl⟩ (by decide) (Nat.le_of_ble_eq_true rfl) ⟨Nat.zero_le _, Nat.zero_le _⟩ (fun r_30 s_30 => ?_)
    refine j_aload_n C dX11_goesOver_33 rfl ?_
    refine j_iload_n C dX11_goesOver_34 rfl ?_
    refine j_callVI C (As := [.int v1]) dX11_goesOver_35 (CX11_fromOf l M hD v0 h0 v1 s_30) vv_RX11_115 h0 (by decide) rfl rfl ⟨rfl, rfl⟩ (by decide) (Nat.le_of_ble_eq_true rfl) ⟨Nat.zero_le _, Nat.zero_le _⟩ (fun r_35 s_35 => ?_)
    refine j_iconst C (v := (1 : Int32)) dX11_goesOver_38 (by decide) ?_
    refine j_isub C dX11_goesOver_39 ?_
    refine j_callSI C (As := [.int v2, .int r_30, .int ((r_35 - (1 : Int32)))]) dX11_goesOver_40 (CX11_in l M hD v2 r_30 (r_35 - (1 : Int32)) s_35) vs_RX11_108 rfl rfl ⟨rfl, rfl⟩ (by decide) (Nat.le_of_ble_eq_true rfl) ⟨Nat.zero_le _, Nat.zero_le _⟩ (fun r_40 s_40 => ?_)
    exact j_zret C dX11_goesOver_43
  · refine j_iload_n C dX11_goesOver_8 rfl ?_
    refine j_aload_n C dX11_goesOver_9 rfl ?_
    refine j_iload_n C dX11_goesOver_10 rfl ?_
    refine j_callVI C (As := [.int v1]) dX11_goesOver_11 (CX11_fromOf l M hD v0 h0 v1 s_2) vv_RX11_115 h0 (by decide) rfl rfl ⟨rfl, rfl⟩ (by decide) (Nat.le_of_ble_eq_true rfl) ⟨Nat.zero_le _, Nat.zero_le _⟩ (fun r_11 s_11 => ?_)
    refine j_aload_n C dX11_goesOver_14 rfl ?_
    refine j_iload_n C dX11_goesOver_15 rfl ?_
    refine j_callVI C (As := [.int v1]) dX11_goesOver_16 (CX11_toOf l M hD v0 h0 v1 s_11) vv_RX11_112 h0 (by decide) rfl rfl ⟨rfl, rfl⟩ (by decide) (Nat.le_of_ble_eq_true rfl) ⟨Nat.zero_le _, Nat.zero_le _⟩ (fun r_16 s_16 => ?_)
    refine j_iconst C (v := (1 : Int32)) dX11_goesOver_19 (by decide) ?_
    refine j_isub C dX11_goesOver_20 ?_
    refine j_callSI C (As := [.int v2, .int r_11, .int ((r_16 - (1 : Int32)))]) dX11_goesOver_21 (CX11_in l M hD v2 r_11 (r_16 - (1 : Int32)) s_16) vs_RX11_108 rfl rfl ⟨rfl, rfl⟩ (by decide) (Nat.le_of_ble_eq_true rfl) ⟨Nat.zero_le _, Nat.zero_le _⟩ (fun r_21 s_21 => ?_)
    refine j_goto C (tgt := 43) dX11_goesOver_24 (by decide) ?_
    exact j_zret C dX11_goesOver_43
set_option maxRecDepth 20000 in
set_option maxHeartbeats 4000000 in
theorem CX11_mayAgainst (l : Launch) (M : Mc) (hD : Dj M) (v0 : Nat) (h0 : isK v0 11) (v1 : Int32) (v2 : Int32) (v3 : Int32) (σ : Sg) : Ct l M yX11_mayAgainst cX11_mayAgainst 6 (some .boolean) { frames := 3, cells := 0, slots := 0, locals := 65 } vI [.ref (adr M v0), .int v1, .int v2, .int v3] σ (fX11_mayAgainst v0 v1 v2 v3 σ) := by
  refine ct_of (l := l) hD (by decide) (Nat.le_of_ble_eq_true rfl) ?_
  intro p e s m args below meth c C
  have H197 : ∀ (v4 : Int32) (v5 : Int32) (τ : Sg), J p l e { frames := 3, cells := 0, slots := 0, locals := 65 } s m args below meth c M 6 vI τ 197 [(0, .ref (adr M v0)), (2, .int v2), (3, .int v3), (4, .int v4), (5, .int v5)] [] (fX11_mayAgainst_197 v0 v2 v3 v4 v5 τ) := by
    intro v4 v5 σ
    unfold fX11_mayAgainst_197
    refine j_iload_n C dX11_mayAgainst_197 rfl ?_
    refine j_aload_n C dX11_mayAgainst_198 rfl ?_
    refine j_getR C dX11_mayAgainst_199 fl_RX11_7 h0 (by decide) rfl rfl (by decide) (fun h_199 => ?_)
    refine j_bipush C (v := (8 : Int32)) dX11_mayAgainst_202 (by decide) ?_
    refine j_iload C dX11_mayAgainst_204 rfl ?_
    refine j_iadd C dX11_mayAgainst_206 ?_
    refine j_iald C dX11_mayAgainst_207 h_199 ?_
    refine j_iadd C dX11_mayAgainst_208 ?_
    refine j_iconst C (v := (5 : Int32)) dX11_mayAgainst_209 (by decide) ?_
    refine j_iadd C dX11_mayAgainst_210 ?_
    refine j_aload_n C dX11_mayAgainst_211 rfl ?_
    refine j_iload_n C dX11_mayAgainst_212 rfl ?_
    refine j_iload C dX11_mayAgainst_213 rfl ?_
    refine j_callVI C (As := [.int v2, .int v5]) dX11_mayAgainst_215 (CX11_dueAt l M hD v0 h0 v2 v5 σ) vv_RX11_153 h0 (by decide) rfl rfl ⟨rfl, rfl⟩ (by decide) (Nat.le_of_ble_eq_true rfl) ⟨Nat.zero_le _, Nat.zero_le _⟩ (fun r_215 s_215 => ?_)
    refine j_aload_n C dX11_mayAgainst_218 rfl ?_
    refine j_iload_n C dX11_mayAgainst_219 rfl ?_
    refine j_callVI C (As := [.int v2]) dX11_mayAgainst_220 (CX11_lates l M hD v0 h0 v2 s_215) vv_RX11_207 h0 (by decide) rfl rfl ⟨rfl, rfl⟩ (by decide) (Nat.le_of_ble_eq_true rfl) ⟨Nat.zero_le _, Nat.zero_le _⟩ (fun r_220 s_220 => ?_)
    refine j_iadd C dX11_mayAgainst_223 ?_
    refine j_icmp_gt C (tgt := 231) dX11_mayAgainst_224 (by decide) ?_ ?_
    · refine j_iconst C (v := (0 : Int32)) dX11_mayAgainst_231 (by decide) ?_
      exact j_zret C dX11_mayAgainst_232
    · refine j_iconst C (v := (1 : Int32)) dX11_mayAgainst_227 (by decide) ?_
      refine j_goto C (tgt := 232) dX11_mayAgainst_228 (by decide) ?_
      exact j_zret C dX11_mayAgainst_232
  have H177 : ∀ (v4 : Int32) (w0 : Int32) (τ : Sg), J p l e { frames := 3, cells := 0, slots := 0, locals := 65 } s m args below meth c M 6 vI τ 177 [(0, .ref (adr M v0)), (2, .int v2), (3, .int v3), (4, .int v4)] [.int w0] (fX11_mayAgainst_177 v0 v2 v3 v4 w0 τ) := by
    intro v4 w0 σ
    unfold fX11_mayAgainst_177
    refine j_istore C (Ls' := fun v5_177 => [(5, .int v5_177), (0, .ref (adr M v0)), (2, .int v2), (3, .int v3), (4, .int v4)]) dX11_mayAgainst_177 (by decide) (fun _ => rfl) (fun v5_177 => ?_)
    refine j_aload_n C dX11_mayAgainst_179 rfl ?_
    refine j_iload_n C dX11_mayAgainst_180 rfl ?_
    refine j_callVI C (As := [.int v2]) dX11_mayAgainst_181 (CX11_kindOf l M hD v0 h0 v2 σ) vv_RX11_136 h0 (by decide) rfl rfl ⟨rfl, rfl⟩ (by decide) (Nat.le_of_ble_eq_true rfl) ⟨Nat.zero_le _, Nat.zero_le _⟩ (fun r_181 s_181 => ?_)
    refine j_iconst C (v := (1 : Int32)) dX11_mayAgainst_184 (by decide) ?_
    refine j_icmp_eq C (tgt := 197) dX11_mayAgainst_185 (by decide) ?_ ?_
    · refine j_sub (Ls' := [(0, .ref (adr M v0)), (2, .int v2), (3, .int v3), (4, .int v4), (5, .int v5_177)]) [1, 2, 3, 4, 0] rfl ?_
      exact H197 v4 v5_177 s_181
    · refine j_aload_n C dX11_mayAgainst_188 rfl ?_
      refine j_iload_n C dX11_mayAgainst_189 rfl ?_
      refine j_callVI C (As := [.int v2]) dX11_mayAgainst_190 (CX11_kindOf l M hD v0 h0 v2 s_181) vv_RX11_136 h0 (by decide) rfl rfl ⟨rfl, rfl⟩ (by decide) (Nat.le_of_ble_eq_true rfl) ⟨Nat.zero_le _, Nat.zero_le _⟩ (fun r_190 s_190 => ?_)
      refine j_iconst C (v := (2 : Int32)) dX11_mayAgainst_193 (by decide) ?_
      refine j_icmp_ne C (tgt := 231) dX11_mayAgainst_194 (by decide) ?_ ?_
      · refine j_iconst C (v := (0 : Int32)) dX11_mayAgainst_231 (by decide) ?_
        exact j_zret C dX11_mayAgainst_232
      · refine j_sub (Ls' := [(0, .ref (adr M v0)), (2, .int v2), (3, .int v3), (4, .int v4), (5, .int v5_177)]) [1, 2, 3, 4, 0] rfl ?_
        exact H197 v4 v5_177 s_190
  have H149 : ∀ (v4 : Int32) (τ : Sg), J p l e { frames := 3, cells := 0, slots := 0, locals := 65 } s m args below meth c M 6 vI τ 149 [(0, .ref (adr M v0)), (1, .int v1), (2, .int v2), (3, .int v3), (4, .int v4)] [] (fX11_mayAgainst_149 v0 v1 v2 v3 v4 τ) := by
    intro v4 σ
    unfold fX11_mayAgainst_149
    refine j_aload_n C dX11_mayAgainst_149 rfl ?_
    refine j_getR C dX11_mayAgainst_150 fl_RX11_38 h0 (by decide) rfl rfl (by decide) (fun h_150 => ?_)
    refine j_iload_n C dX11_mayAgainst_153 rfl ?_
    refine j_iald C dX11_mayAgainst_154 h_150 ?_
    refine j_if_ne C (tgt := 169) dX11_mayAgainst_155 (by decide) ?_ ?_
    · refine j_aload_n C dX11_mayAgainst_169 rfl ?_
      refine j_getR C dX11_mayAgainst_170 fl_RX11_35 h0 (by decide) rfl rfl (by decide) (fun h_170 => ?_)
      refine j_iload_n C dX11_mayAgainst_173 rfl ?_
      refine j_iald C dX11_mayAgainst_174 h_170 ?_
      refine j_iconst C (v := (1 : Int32)) dX11_mayAgainst_175 (by decide) ?_
      refine j_isub C dX11_mayAgainst_176 ?_
      refine j_sub (Ls' := [(0, .ref (adr M v0)), (2, .int v2), (3, .int v3), (4, .int v4)]) [0, 2, 3, 4] rfl ?_
      exact H177 v4 ((σ (rf v0 12) (v1).toNatClampNeg) - (1 : Int32)) σ
    · refine j_aload_n C dX11_mayAgainst_158 rfl ?_
      refine j_getR C dX11_mayAgainst_159 fl_RX11_35 h0 (by decide) rfl rfl (by decide) (fun h_159 => ?_)
      refine j_iload_n C dX11_mayAgainst_162 rfl ?_
      refine j_iald C dX11_mayAgainst_163 h_159 ?_
      refine j_iconst C (v := (1 : Int32)) dX11_mayAgainst_164 (by decide) ?_
      refine j_iadd C dX11_mayAgainst_165 ?_
      refine j_goto C (tgt := 177) dX11_mayAgainst_166 (by decide) ?_
      refine j_sub (Ls' := [(0, .ref (adr M v0)), (2, .int v2), (3, .int v3), (4, .int v4)]) [0, 2, 3, 4] rfl ?_
      exact H177 v4 ((σ (rf v0 12) (v1).toNatClampNeg) + (1 : Int32)) σ
  have H81 : ∀ (v4 : Int32) (n : Nat) (v5 : Int32) (τ : Sg), J p l e { frames := 3, cells := 0, slots := 0, locals := 65 } s m args below meth c M 6 vI τ 81 [(0, .ref (adr M v0)), (1, .int v1), (2, .int v2), (3, .int v3), (4, .int v4), (5, .int v5)] [] (lq1 (fX11_mayAgainst_81 v0 v1 v2 v3 v4) n v5 τ) := by
    intro v4
    refine j_lq1 (Ls := fun v5 => [(0, .ref (adr M v0)), (1, .int v1), (2, .int v2), (3, .int v3), (4, .int v4), (5, .int v5)]) (st := fun _ => []) ?_
    intro k81 hk81 v5 σ
    have H120 : ∀ (v5 : Int32) (τ : Sg), J p l e { frames := 3, cells := 0, slots := 0, locals := 65 } s m args below meth c M 6 vI τ 120 [(0, .ref (adr M v0)), (1, .int v1), (2, .int v2), (3, .int v3), (4, .int v4), (5, .int v5)] [] (fX11_mayAgainst_120 v0 v1 v2 v3 v4 v5 k81 τ) := by
      intro v5 σ
      unfold fX11_mayAgainst_120
      refine j_iinc C (v := (1 : Int32)) (Ls' := fun v5_120 => [(5, .int v5_120), (0, .ref (adr M v0)), (1, .int v1), (2, .int v2), (3, .int v3), (4, .int v4)]) dX11_mayAgainst_120 5 rfl (by decide) (by decide) (fun _ => rfl) (fun v5_120 => ?_)
      refine j_goto C (tgt := 81) dX11_mayAgainst_123 (by decide) ?_
      refine j_sub (Ls' := [(0, .ref (adr M v0)), (1, .int v1), (2, .int v2), (3, .int v3), (4, .int v4), (5, .int v5_120)]) [1, 2, 3, 4, 5, 0] rfl ?_
      exact hk81 v5_120 σ
    unfold fX11_mayAgainst_81
    refine j_iload C dX11_mayAgainst_81 rfl ?_
    refine j_aload_n C dX11_mayAgainst_83 rfl ?_
    refine j_getR C dX11_mayAgainst_84 fl_RX11_7 h0 (by decide) rfl rfl (by decide) (fun h_84 => ?_)
    refine j_bipush C (v := (40 : Int32)) dX11_mayAgainst_87 (by decide) ?_
    refine j_iald C dX11_mayAgainst_89 h_84 ?_
    refine j_icmp_ge C (tgt := 126) dX11_mayAgainst_90 (by decide) ?_ ?_
    · refine j_aload_n C dX11_mayAgainst_126 rfl ?_
      refine j_iload_n C dX11_mayAgainst_127 rfl ?_
      refine j_iload_n C dX11_mayAgainst_128 rfl ?_
      refine j_callVI C (As := [.int v1, .int v2]) dX11_mayAgainst_129 (CX11_isMore l M hD v0 h0 v1 v2 σ) vv_RX11_216 h0 (by decide) rfl rfl ⟨rfl, rfl⟩ (by decide) (Nat.le_of_ble_eq_true rfl) ⟨Nat.zero_le _, Nat.zero_le _⟩ (fun r_129 s_129 => ?_)
      refine j_if_eq C (tgt := 149) dX11_mayAgainst_132 (by decide) ?_ ?_
      · refine j_sub (Ls' := [(0, .ref (adr M v0)), (1, .int v1), (2, .int v2), (3, .int v3), (4, .int v4)]) [0, 1, 2, 3, 4] rfl ?_
        exact H149 v4 s_129
      · refine j_aload_n C dX11_mayAgainst_135 rfl ?_
        refine j_iload_n C dX11_mayAgainst_136 rfl ?_
        refine j_aload_n C dX11_mayAgainst_137 rfl ?_
        refine j_getI C dX11_mayAgainst_138 fl_RX11_219 h0 (by decide) rfl ?_
        refine j_callVI C (As := [.int v1, .int ((s_129 v0 34))]) dX11_mayAgainst_141 (CX11_isBehind l M hD v0 h0 v1 (s_129 v0 34) s_129) vv_RX11_228 h0 (by decide) rfl rfl ⟨rfl, rfl⟩ (by decide) (Nat.le_of_ble_eq_true rfl) ⟨Nat.zero_le _, Nat.zero_le _⟩ (fun r_141 s_141 => ?_)
        refine j_if_eq C (tgt := 149) dX11_mayAgainst_144 (by decide) ?_ ?_
        · refine j_sub (Ls' := [(0, .ref (adr M v0)), (1, .int v1), (2, .int v2), (3, .int v3), (4, .int v4)]) [0, 1, 2, 3, 4] rfl ?_
          exact H149 v4 s_141
        · refine j_iconst C (v := (1 : Int32)) dX11_mayAgainst_147 (by decide) ?_
          exact j_zret C dX11_mayAgainst_148
    · refine j_aload_n C dX11_mayAgainst_93 rfl ?_
      refine j_iload C dX11_mayAgainst_94 rfl ?_
      refine j_iload_n C dX11_mayAgainst_96 rfl ?_
      refine j_iload_n C dX11_mayAgainst_97 rfl ?_
      refine j_callVI C (As := [.int v5, .int v1, .int v2]) dX11_mayAgainst_98 (CX11_hasMeet l M hD v0 h0 v5 v1 v2 σ) vv_RX11_213 h0 (by decide) rfl rfl ⟨rfl, rfl⟩ (by decide) (Nat.le_of_ble_eq_true rfl) ⟨Nat.zero_le _, Nat.zero_le _⟩ (fun r_98 s_98 => ?_)
      refine j_if_eq C (tgt := 120) dX11_mayAgainst_101 (by decide) ?_ ?_
      · exact H120 v5 s_98
      · refine j_aload_n C dX11_mayAgainst_104 rfl ?_
        refine j_iload_n C dX11_mayAgainst_105 rfl ?_
        refine j_aload_n C dX11_mayAgainst_106 rfl ?_
        refine j_iload C dX11_mayAgainst_107 rfl ?_
        refine j_callVI C (As := [.int v5]) dX11_mayAgainst_109 (CX11_stationOf l M hD v0 h0 v5 s_98) vv_RX11_120 h0 (by decide) rfl rfl ⟨rfl, rfl⟩ (by decide) (Nat.le_of_ble_eq_true rfl) ⟨Nat.zero_le _, Nat.zero_le _⟩ (fun r_109 s_109 => ?_)
        refine j_callVI C (As := [.int v1, .int r_109]) dX11_mayAgainst_112 (CX11_isBehind l M hD v0 h0 v1 r_109 s_109) vv_RX11_228 h0 (by decide) rfl rfl ⟨rfl, rfl⟩ (by decide) (Nat.le_of_ble_eq_true rfl) ⟨Nat.zero_le _, Nat.zero_le _⟩ (fun r_112 s_112 => ?_)
        refine j_if_eq C (tgt := 120) dX11_mayAgainst_115 (by decide) ?_ ?_
        · exact H120 v5 s_112
        · refine j_iconst C (v := (1 : Int32)) dX11_mayAgainst_118 (by decide) ?_
          exact j_zret C dX11_mayAgainst_119
  unfold fX11_mayAgainst
  refine j_aload_n C dX11_mayAgainst_0 rfl ?_
  refine j_iload_n C dX11_mayAgainst_1 rfl ?_
  refine j_callVI C (As := [.int v1]) dX11_mayAgainst_2 (CX11_sectionAhead l M hD v0 h0 v1 σ) vv_RX11_222 h0 (by decide) rfl rfl ⟨rfl, rfl⟩ (by decide) (Nat.le_of_ble_eq_true rfl) ⟨Nat.zero_le _, Nat.zero_le _⟩ (fun r_2 s_2 => ?_)
  refine j_istore C (Ls' := fun v4_5 => [(4, .int v4_5), (0, .ref (adr M v0)), (1, .int v1), (2, .int v2), (3, .int v3)]) dX11_mayAgainst_5 (by decide) (fun _ => rfl) (fun v4_5 => ?_)
  refine j_aload_n C dX11_mayAgainst_7 rfl ?_
  refine j_getR C dX11_mayAgainst_8 fl_RX11_38 h0 (by decide) rfl rfl (by decide) (fun h_8 => ?_)
  refine j_iload_n C dX11_mayAgainst_11 rfl ?_
  refine j_iald C dX11_mayAgainst_12 h_8 ?_
  refine j_aload_n C dX11_mayAgainst_13 rfl ?_
  refine j_getR C dX11_mayAgainst_14 fl_RX11_38 h0 (by decide) rfl rfl (by decide) (fun h_14 => ?_)
  refine j_iload_n C dX11_mayAgainst_17 rfl ?_
  refine j_iald C dX11_mayAgainst_18 h_14 ?_
  refine j_icmp_eq C (tgt := 76) dX11_mayAgainst_19 (by decide) ?_ ?_
  · refine j_iconst C (v := (1 : Int32)) dX11_mayAgainst_76 (by decide) ?_
    exact j_zret C dX11_mayAgainst_77
  · refine j_aload_n C dX11_mayAgainst_22 rfl ?_
    refine j_getR C dX11_mayAgainst_23 fl_RX11_32 h0 (by decide) rfl rfl (by decide) (fun h_23 => ?_)
    refine j_iload_n C dX11_mayAgainst_26 rfl ?_
    refine j_iald C dX11_mayAgainst_27 h_23 ?_
    refine j_iconst C (v := (3 : Int32)) dX11_mayAgainst_28 (by decide) ?_
    refine j_icmp_eq C (tgt := 76) dX11_mayAgainst_29 (by decide) ?_ ?_
    · refine j_iconst C (v := (1 : Int32)) dX11_mayAgainst_76 (by decide) ?_
      exact j_zret C dX11_mayAgainst_77
    · refine j_aload_n C dX11_mayAgainst_32 rfl ?_
      refine j_iload_n C dX11_mayAgainst_33 rfl ?_
      refine j_iload C dX11_mayAgainst_34 rfl ?_
      refine j_callVI C (As := [.int v2, .int v4_5]) dX11_mayAgainst_36 (CX11_goesOver l M hD v0 h0 v2 v4_5 s_2) vv_RX11_225 h0 (by decide) rfl rfl ⟨rfl, rfl⟩ (by decide) (Nat.le_of_ble_eq_true rfl) ⟨Nat.zero_le _, Nat.zero_le _⟩ (fun r_36 s_36 => ?_)
      refine j_if_eq C (tgt := 76) dX11_mayAgainst_39 (by decide) ?_ ?_
      · refine j_iconst C (v := (1 : Int32)) dX11_mayAgainst_76 (by decide) ?_
        exact j_zret C dX11_mayAgainst_77
      · refine j_aload_n C dX11_mayAgainst_42 rfl ?_
        refine j_getR C dX11_mayAgainst_43 fl_RX11_68 h0 (by decide) rfl rfl (by decide) (fun h_43 => ?_)
        refine j_bipush C (v := (7 : Int32)) dX11_mayAgainst_46 (by decide) ?_
        refine j_iload_n C dX11_mayAgainst_48 rfl ?_
        refine j_imul C dX11_mayAgainst_49 ?_
        refine j_aload_n C dX11_mayAgainst_50 rfl ?_
        refine j_getR C dX11_mayAgainst_51 fl_RX11_35 h0 (by decide) rfl rfl (by decide) (fun h_51 => ?_)
        refine j_iload_n C dX11_mayAgainst_54 rfl ?_
        refine j_iald C dX11_mayAgainst_55 h_51 ?_
        refine j_iadd C dX11_mayAgainst_56 ?_
        refine j_zald C dX11_mayAgainst_57 h_43 ?_
        refine j_if_ne C (tgt := 76) dX11_mayAgainst_58 (by decide) ?_ ?_
        · refine j_iconst C (v := (1 : Int32)) dX11_mayAgainst_76 (by decide) ?_
          exact j_zret C dX11_mayAgainst_77
        · refine j_aload_n C dX11_mayAgainst_61 rfl ?_
          refine j_iload_n C dX11_mayAgainst_62 rfl ?_
          refine j_aload_n C dX11_mayAgainst_63 rfl ?_
          refine j_getR C dX11_mayAgainst_64 fl_RX11_38 h0 (by decide) rfl rfl (by decide) (fun h_64 => ?_)
          refine j_iload_n C dX11_mayAgainst_67 rfl ?_
          refine j_iald C dX11_mayAgainst_68 h_64 ?_
          refine j_iload_n C dX11_mayAgainst_69 rfl ?_
          refine j_callVI C (As := [.int v2, .int ((s_36 (rf v0 13) (v2).toNatClampNeg)), .int v1]) dX11_mayAgainst_70 (CX11_isOver l M hD v0 h0 v2 (s_36 (rf v0 13) (v2).toNatClampNeg) v1 s_36) vv_RX11_159 h0 (by decide) rfl rfl ⟨rfl, rfl⟩ (by decide) (Nat.le_of_ble_eq_true rfl) ⟨Nat.zero_le _, Nat.zero_le _⟩ (fun r_70 s_70 => ?_)
          refine j_if_ne C (tgt := 78) dX11_mayAgainst_73 (by decide) ?_ ?_
          · refine j_iconst C (v := (0 : Int32)) dX11_mayAgainst_78 (by decide) ?_
            refine j_istore C (Ls' := fun v5_79 => [(5, .int v5_79), (4, .int v4_5), (0, .ref (adr M v0)), (1, .int v1), (2, .int v2), (3, .int v3)]) dX11_mayAgainst_79 (by decide) (fun _ => rfl) (fun v5_79 => ?_)
            refine j_sub (Ls' := [(0, .ref (adr M v0)), (1, .int v1), (2, .int v2), (3, .int v3), (4, .int v4_5), (5, .int v5_79)]) [2, 3, 4, 5, 1, 0] rfl ?_
            exact H81 v4_5 FU v5_79 s_70
          · refine j_iconst C (v := (1 : Int32)) dX11_mayAgainst_76 (by decide) ?_
            exact j_zret C dX11_mayAgainst_77
set_option maxRecDepth 20000 in
set_option maxHeartbeats 4000000 in
theorem CX11_whyNot (l : Launch) (M : Mc) (hD : Dj M) (v0 : Nat) (h0 : isK v0 11) (v1 : Int32) (v2 : Int32) (σ : Sg) : Ct l M yX11_whyNot cX11_whyNot 4 (some .int) { frames := 4, cells := 0, slots := 0, locals := 90 } vI [.ref (adr M v0), .int v1, .int v2] σ (fX11_whyNot v0 v1 v2 σ) := by
  refine ct_of (l := l) hD (by decide) (Nat.le_of_ble_eq_true rfl) ?_
  intro p e s m args below meth c C
  have H40 : ∀  (n : Nat) (v3 : Int32) (τ : Sg), J p l e { frames := 4, cells := 0, slots := 0, locals := 90 } s m args below meth c M 4 vI τ 40 [(0, .ref (adr M v0)), (1, .int v1), (2, .int v2), (3, .int v3)] [] (lq1 (fX11_whyNot_40 v0 v1 v2) n v3 τ) := by
    refine j_lq1 (Ls := fun v3 => [(0, .ref (adr M v0)), (1, .int v1), (2, .int v2), (3, .int v3)]) (st := fun _ => []) ?_
    intro k40 hk40 v3 σ
    have H68 : ∀ (v3 : Int32) (τ : Sg), J p l e { frames := 4, cells := 0, slots := 0, locals := 90 } s m args below meth c M 4 vI τ 68 [(0, .ref (adr M v0)), (1, .int v1), (2, .int v2), (3, .int v3)] [] (fX11_whyNot_68 v0 v1 v2 v3 k40 τ) := by
      intro v3 σ
      unfold fX11_whyNot_68
      refine j_iinc C (v := (1 : Int32)) (Ls' := fun v3_68 => [(3, .int v3_68), (0, .ref (adr M v0)), (1, .int v1), (2, .int v2)]) dX11_whyNot_68 3 rfl (by decide) (by decide) (fun _ => rfl) (fun v3_68 => ?_)
      refine j_goto C (tgt := 40) dX11_whyNot_71 (by decide) ?_
      refine j_sub (Ls' := [(0, .ref (adr M v0)), (1, .int v1), (2, .int v2), (3, .int v3_68)]) [1, 2, 3, 0] rfl ?_
      exact hk40 v3_68 σ
    unfold fX11_whyNot_40
    refine j_iload_n C dX11_whyNot_40 rfl ?_
    refine j_aload_n C dX11_whyNot_41 rfl ?_
    refine j_getR C dX11_whyNot_42 fl_RX11_7 h0 (by decide) rfl rfl (by decide) (fun h_42 => ?_)
    refine j_bipush C (v := (14 : Int32)) dX11_whyNot_45 (by decide) ?_
    refine j_iald C dX11_whyNot_47 h_42 ?_
    refine j_icmp_ge C (tgt := 74) dX11_whyNot_48 (by decide) ?_ ?_
    · refine j_iload_n C dX11_whyNot_74 rfl ?_
      refine j_aload_n C dX11_whyNot_75 rfl ?_
      refine j_getR C dX11_whyNot_76 fl_RX11_53 h0 (by decide) rfl rfl (by decide) (fun h_76 => ?_)
      refine j_bipush C (v := (7 : Int32)) dX11_whyNot_79 (by decide) ?_
      refine j_aload_n C dX11_whyNot_81 rfl ?_
      refine j_getR C dX11_whyNot_82 fl_RX11_38 h0 (by decide) rfl rfl (by decide) (fun h_82 => ?_)
      refine j_iload_n C dX11_whyNot_85 rfl ?_
      refine j_iald C dX11_whyNot_86 h_82 ?_
      refine j_imul C dX11_whyNot_87 ?_
      refine j_aload_n C dX11_whyNot_88 rfl ?_
      refine j_getR C dX11_whyNot_89 fl_RX11_35 h0 (by decide) rfl rfl (by decide) (fun h_89 => ?_)
      refine j_iload_n C dX11_whyNot_92 rfl ?_
      refine j_iald C dX11_whyNot_93 h_89 ?_
      refine j_iadd C dX11_whyNot_94 ?_
      refine j_iald C dX11_whyNot_95 h_76 ?_
      refine j_isub C dX11_whyNot_96 ?_
      refine j_bipush C (v := (10 : Int32)) dX11_whyNot_97 (by decide) ?_
      refine j_icmp_ge C (tgt := 106) dX11_whyNot_99 (by decide) ?_ ?_
      · refine j_iconst C (v := (0 : Int32)) dX11_whyNot_106 (by decide) ?_
        exact j_iret C dX11_whyNot_107
      · refine j_iconst C (v := (5 : Int32)) dX11_whyNot_102 (by decide) ?_
        refine j_goto C (tgt := 107) dX11_whyNot_103 (by decide) ?_
        exact j_iret C dX11_whyNot_107
    · refine j_iload_n C dX11_whyNot_51 rfl ?_
      refine j_iload_n C dX11_whyNot_52 rfl ?_
      refine j_icmp_eq C (tgt := 68) dX11_whyNot_53 (by decide) ?_ ?_
      · exact H68 v3 σ
      · refine j_aload_n C dX11_whyNot_56 rfl ?_
        refine j_iload_n C dX11_whyNot_57 rfl ?_
        refine j_iload_n C dX11_whyNot_58 rfl ?_
        refine j_iload_n C dX11_whyNot_59 rfl ?_
        refine j_callVI C (As := [.int v1, .int v3, .int v2]) dX11_whyNot_60 (CX11_mayAgainst l M hD v0 h0 v1 v3 v2 σ) vv_RX11_240 h0 (by decide) rfl rfl ⟨rfl, rfl⟩ (by decide) (Nat.le_of_ble_eq_true rfl) ⟨Nat.zero_le _, Nat.zero_le _⟩ (fun r_60 s_60 => ?_)
        refine j_if_ne C (tgt := 68) dX11_whyNot_63 (by decide) ?_ ?_
        · exact H68 v3 s_60
        · refine j_iconst C (v := (4 : Int32)) dX11_whyNot_66 (by decide) ?_
          exact j_iret C dX11_whyNot_67
  unfold fX11_whyNot
  refine j_aload_n C dX11_whyNot_0 rfl ?_
  refine j_iload_n C dX11_whyNot_1 rfl ?_
  refine j_iload_n C dX11_whyNot_2 rfl ?_
  refine j_callVv C (As := [.int v1, .int v2]) dX11_whyNot_3 (CX11_findHeld l M hD v0 h0 v1 v2 σ) vv_RX11_178 h0 (by decide) rfl rfl ⟨rfl, rfl⟩ (by decide) (Nat.le_of_ble_eq_true rfl) ⟨Nat.zero_le _, Nat.zero_le _⟩ (fun r_3 s_3 => ?_)
  refine j_aload_n C dX11_whyNot_6 rfl ?_
  refine j_iload_n C dX11_whyNot_7 rfl ?_
  refine j_iload_n C dX11_whyNot_8 rfl ?_
  refine j_callVI C (As := [.int v1, .int v2]) dX11_whyNot_9 (CX11_mayByTime l M hD v0 h0 v1 v2 s_3) vv_RX11_231 h0 (by decide) rfl rfl ⟨rfl, rfl⟩ (by decide) (Nat.le_of_ble_eq_true rfl) ⟨Nat.zero_le _, Nat.zero_le _⟩ (fun r_9 s_9 => ?_)
  refine j_if_ne C (tgt := 17) dX11_whyNot_12 (by decide) ?_ ?_
  · refine j_aload_n C dX11_whyNot_17 rfl ?_
    refine j_iload_n C dX11_whyNot_18 rfl ?_
    refine j_iload_n C dX11_whyNot_19 rfl ?_
    refine j_callVI C (As := [.int v1, .int v2]) dX11_whyNot_20 (CX11_mayByWaits l M hD v0 h0 v1 v2 s_9) vv_RX11_234 h0 (by decide) rfl rfl ⟨rfl, rfl⟩ (by decide) (Nat.le_of_ble_eq_true rfl) ⟨Nat.zero_le _, Nat.zero_le _⟩ (fun r_20 s_20 => ?_)
    refine j_if_ne C (tgt := 28) dX11_whyNot_23 (by decide) ?_ ?_
    · refine j_aload_n C dX11_whyNot_28 rfl ?_
      refine j_iload_n C dX11_whyNot_29 rfl ?_
      refine j_callVI C (As := [.int v1]) dX11_whyNot_30 (CX11_mayByMeets l M hD v0 h0 v1 s_20) vv_RX11_237 h0 (by decide) rfl rfl ⟨rfl, rfl⟩ (by decide) (Nat.le_of_ble_eq_true rfl) ⟨Nat.zero_le _, Nat.zero_le _⟩ (fun r_30 s_30 => ?_)
      refine j_if_ne C (tgt := 38) dX11_whyNot_33 (by decide) ?_ ?_
      · refine j_iconst C (v := (0 : Int32)) dX11_whyNot_38 (by decide) ?_
        refine j_istore_n C (Ls' := fun v3_39 => [(3, .int v3_39), (0, .ref (adr M v0)), (1, .int v1), (2, .int v2)]) dX11_whyNot_39 (by decide) (fun _ => rfl) (fun v3_39 => ?_)
        refine j_sub (Ls' := [(0, .ref (adr M v0)), (1, .int v1), (2, .int v2), (3, .int v3_39)]) [1, 2, 3, 0] rfl ?_
        exact H40 FU v3_39 s_30
      · refine j_iconst C (v := (3 : Int32)) dX11_whyNot_36 (by decide) ?_
        exact j_iret C dX11_whyNot_37
    · refine j_iconst C (v := (2 : Int32)) dX11_whyNot_26 (by decide) ?_
      exact j_iret C dX11_whyNot_27
  · refine j_iconst C (v := (1 : Int32)) dX11_whyNot_15 (by decide) ?_
    exact j_iret C dX11_whyNot_16
