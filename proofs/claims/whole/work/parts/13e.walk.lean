set_option maxRecDepth 20000 in
set_option maxHeartbeats 4000000 in
theorem CX11_goes (l : Launch) (M : Mc) (hD : Dj M) (v0 : Nat) (h0 : isK v0 11) (v1 : Int32) (v2 : Int32) (σ : Sg) : Ct l M yX11_goes cX11_goes 3 none { frames := 1, cells := 0, slots := 0, locals := 21 } vV [.ref (adr M v0), .int v1, .int v2] σ (fX11_goes v0 v1 v2 σ) := by
  refine ct_of (l := l) hD (by decide) (Nat.le_of_ble_eq_true rfl) ?_
  intro p e s m args below meth c C
  have H58 : ∀  (τ : Sg), J p l e { frames := 1, cells := 0, slots := 0, locals := 21 } s m args below meth c M 3 vV τ 58 [(0, .ref (adr M v0)), (1, .int v1), (2, .int v2)] [] (fX11_goes_58 v0 v1 v2 τ) := by
    intro  σ
    unfold fX11_goes_58
    refine j_aload_n C dX11_goes_58 rfl ?_
    refine j_getR C dX11_goes_59 fl_RX11_35 h0 (by decide) rfl rfl (by decide) (fun h_59 => ?_)
    refine j_iload_n C dX11_goes_62 rfl ?_
    refine j_aload_n C dX11_goes_63 rfl ?_
    refine j_iload_n C dX11_goes_64 rfl ?_
    refine j_callVI C (As := [.int v1]) dX11_goes_65 (CX11_sectionAhead l M hD v0 h0 v1 σ) vv_RX11_222 h0 (by decide) rfl rfl ⟨rfl, rfl⟩ (by decide) (Nat.le_of_ble_eq_true rfl) ⟨Nat.zero_le _, Nat.zero_le _⟩ (fun r_65 s_65 => ?_)
    refine j_iast C dX11_goes_68 h_59 (fun s_68 => ?_)
    refine j_aload_n C dX11_goes_69 rfl ?_
    refine j_getR C dX11_goes_70 fl_RX11_32 h0 (by decide) rfl rfl (by decide) (fun h_70 => ?_)
    refine j_iload_n C dX11_goes_73 rfl ?_
    refine j_iconst C (v := (2 : Int32)) dX11_goes_74 (by decide) ?_
    refine j_iast C dX11_goes_75 h_70 (fun s_75 => ?_)
    refine j_aload_n C dX11_goes_76 rfl ?_
    refine j_getR C dX11_goes_77 fl_RX11_41 h0 (by decide) rfl rfl (by decide) (fun h_77 => ?_)
    refine j_iload_n C dX11_goes_80 rfl ?_
    refine j_iload_n C dX11_goes_81 rfl ?_
    refine j_iast C dX11_goes_82 h_77 (fun s_82 => ?_)
    exact j_vret C dX11_goes_83
  unfold fX11_goes
  refine j_aload_n C dX11_goes_0 rfl ?_
  refine j_getR C dX11_goes_1 fl_RX11_53 h0 (by decide) rfl rfl (by decide) (fun h_1 => ?_)
  refine j_bipush C (v := (7 : Int32)) dX11_goes_4 (by decide) ?_
  refine j_aload_n C dX11_goes_6 rfl ?_
  refine j_getR C dX11_goes_7 fl_RX11_38 h0 (by decide) rfl rfl (by decide) (fun h_7 => ?_)
  refine j_iload_n C dX11_goes_10 rfl ?_
  refine j_iald C dX11_goes_11 h_7 ?_
  refine j_imul C dX11_goes_12 ?_
  refine j_aload_n C dX11_goes_13 rfl ?_
  refine j_getR C dX11_goes_14 fl_RX11_35 h0 (by decide) rfl rfl (by decide) (fun h_14 => ?_)
  refine j_iload_n C dX11_goes_17 rfl ?_
  refine j_iald C dX11_goes_18 h_14 ?_
  refine j_iadd C dX11_goes_19 ?_
  refine j_iload_n C dX11_goes_20 rfl ?_
  refine j_iast C dX11_goes_21 h_1 (fun s_21 => ?_)
  refine j_aload_n C dX11_goes_22 rfl ?_
  refine j_getR C dX11_goes_23 fl_RX11_50 h0 (by decide) rfl rfl (by decide) (fun h_23 => ?_)
  refine j_bipush C (v := (7 : Int32)) dX11_goes_26 (by decide) ?_
  refine j_iload_n C dX11_goes_28 rfl ?_
  refine j_imul C dX11_goes_29 ?_
  refine j_aload_n C dX11_goes_30 rfl ?_
  refine j_getR C dX11_goes_31 fl_RX11_35 h0 (by decide) rfl rfl (by decide) (fun h_31 => ?_)
  refine j_iload_n C dX11_goes_34 rfl ?_
  refine j_iald C dX11_goes_35 h_31 ?_
  refine j_iadd C dX11_goes_36 ?_
  refine j_iald C dX11_goes_37 h_23 ?_
  refine j_if_ge C (tgt := 58) dX11_goes_38 (by decide) ?_ ?_
  · exact H58 s_21
  · refine j_aload_n C dX11_goes_41 rfl ?_
    refine j_getR C dX11_goes_42 fl_RX11_50 h0 (by decide) rfl rfl (by decide) (fun h_42 => ?_)
    refine j_bipush C (v := (7 : Int32)) dX11_goes_45 (by decide) ?_
    refine j_iload_n C dX11_goes_47 rfl ?_
    refine j_imul C dX11_goes_48 ?_
    refine j_aload_n C dX11_goes_49 rfl ?_
    refine j_getR C dX11_goes_50 fl_RX11_35 h0 (by decide) rfl rfl (by decide) (fun h_50 => ?_)
    refine j_iload_n C dX11_goes_53 rfl ?_
    refine j_iald C dX11_goes_54 h_50 ?_
    refine j_iadd C dX11_goes_55 ?_
    refine j_iload_n C dX11_goes_56 rfl ?_
    refine j_iast C dX11_goes_57 h_42 (fun s_57 => ?_)
    exact H58 s_57
set_option maxRecDepth 20000 in
set_option maxHeartbeats 4000000 in
theorem CX11_looksAtHeads (l : Launch) (M : Mc) (hD : Dj M) (v0 : Nat) (h0 : isK v0 11) (v1 : Int32) (σ : Sg) : Ct l M yX11_looksAtHeads cX11_looksAtHeads 4 none { frames := 0, cells := 0, slots := 0, locals := 0 } vV [.ref (adr M v0), .int v1] σ (fX11_looksAtHeads v0 v1 σ) := by
  refine ct_of (l := l) hD (by decide) (Nat.le_of_ble_eq_true rfl) ?_
  intro p e s m args below meth c C
  have H2 : ∀  (n : Nat) (v2 : Int32) (τ : Sg), J p l e { frames := 0, cells := 0, slots := 0, locals := 0 } s m args below meth c M 4 vV τ 2 [(0, .ref (adr M v0)), (1, .int v1), (2, .int v2)] [] (lq1 (fX11_looksAtHeads_2 v0 v1) n v2 τ) := by
    refine j_lq1 (Ls := fun v2 => [(0, .ref (adr M v0)), (1, .int v1), (2, .int v2)]) (st := fun _ => []) ?_
    intro k2 hk2 v2 σ
    have H17 : ∀ (v2 : Int32) (n : Nat) (v3 : Int32) (τ : Sg), J p l e { frames := 0, cells := 0, slots := 0, locals := 0 } s m args below meth c M 4 vV τ 17 [(0, .ref (adr M v0)), (1, .int v1), (2, .int v2), (3, .int v3)] [] (lq1 (fX11_looksAtHeads_17 v0 v1 v2 k2) n v3 τ) := by
      intro v2
      refine j_lq1 (Ls := fun v3 => [(0, .ref (adr M v0)), (1, .int v1), (2, .int v2), (3, .int v3)]) (st := fun _ => []) ?_
      intro k17 hk17 v3 σ
      have H181 : ∀ (v3 : Int32) (τ : Sg), J p l e { frames := 0, cells := 0, slots := 0, locals := 0 } s m args below meth c M 4 vV τ 181 [(0, .ref (adr M v0)), (1, .int v1), (2, .int v2), (3, .int v3)] [] (fX11_looksAtHeads_181 v0 v1 v2 v3 k2 k17 τ) := by
        intro v3 σ
        unfold fX11_looksAtHeads_181
        refine j_iinc C (v := (1 : Int32)) (Ls' := fun v3_181 => [(3, .int v3_181), (0, .ref (adr M v0)), (1, .int v1), (2, .int v2)]) dX11_looksAtHeads_181 3 rfl (by decide) (by decide) (fun _ => rfl) (fun v3_181 => ?_)
        refine j_goto C (tgt := 17) dX11_looksAtHeads_184 (by decide) ?_
        refine j_sub (Ls' := [(0, .ref (adr M v0)), (1, .int v1), (2, .int v2), (3, .int v3_181)]) [1, 2, 3, 0] rfl ?_
        exact hk17 v3_181 σ
      have H171 : ∀ (v3 : Int32) (τ : Sg), J p l e { frames := 0, cells := 0, slots := 0, locals := 0 } s m args below meth c M 4 vV τ 171 [(0, .ref (adr M v0)), (1, .int v1), (2, .int v2), (3, .int v3)] [] (fX11_looksAtHeads_171 v0 v1 v2 v3 k2 k17 τ) := by
        intro v3 σ
        unfold fX11_looksAtHeads_171
        refine j_aload_n C dX11_looksAtHeads_171 rfl ?_
        refine j_dup C dX11_looksAtHeads_172 rfl ?_
        refine j_getI C dX11_looksAtHeads_173 fl_RX11_182 h0 (by decide) rfl ?_
        refine j_iconst C (v := (1 : Int32)) dX11_looksAtHeads_176 (by decide) ?_
        refine j_iadd C dX11_looksAtHeads_177 ?_
        refine j_put C dX11_looksAtHeads_178 fl_RX11_182 fs_11_25 h0 (by decide) rfl rfl rfl (fun s_178 => ?_)
        exact H181 v3 s_178
      have H168 : ∀ (v3 : Int32) (w0 : Int32) (w1 : Nat) (hw1 : isK w1 11) (τ : Sg), J p l e { frames := 0, cells := 0, slots := 0, locals := 0 } s m args below meth c M 4 vV τ 168 [(0, .ref (adr M v0)), (1, .int v1), (2, .int v2), (3, .int v3)] [.int w0, .ref (adr M w1)] (fX11_looksAtHeads_168 v0 v1 v2 v3 w0 w1 k2 k17 τ) := by
        intro v3 w0 w1 hw1 σ
        unfold fX11_looksAtHeads_168
        refine j_put C dX11_looksAtHeads_168 fl_RX11_255 fs_11_30 hw1 (by decide) rfl rfl rfl (fun s_168 => ?_)
        exact H171 v3 s_168
      unfold fX11_looksAtHeads_17
      refine j_iload_n C dX11_looksAtHeads_17 rfl ?_
      refine j_aload_n C dX11_looksAtHeads_18 rfl ?_
      refine j_getR C dX11_looksAtHeads_19 fl_RX11_7 h0 (by decide) rfl rfl (by decide) (fun h_19 => ?_)
      refine j_bipush C (v := (14 : Int32)) dX11_looksAtHeads_22 (by decide) ?_
      refine j_iald C dX11_looksAtHeads_24 h_19 ?_
      refine j_icmp_ge C (tgt := 187) dX11_looksAtHeads_25 (by decide) ?_ ?_
      · refine j_iinc C (v := (1 : Int32)) (Ls' := fun v2_187 => [(2, .int v2_187), (0, .ref (adr M v0)), (1, .int v1), (3, .int v3)]) dX11_looksAtHeads_187 2 rfl (by decide) (by decide) (fun _ => rfl) (fun v2_187 => ?_)
        refine j_goto C (tgt := 2) dX11_looksAtHeads_190 (by decide) ?_
        refine j_sub (Ls' := [(0, .ref (adr M v0)), (1, .int v1), (2, .int v2_187)]) [1, 2, 0] rfl ?_
        exact hk2 v2_187 σ
      · refine j_aload_n C dX11_looksAtHeads_28 rfl ?_
        refine j_getR C dX11_looksAtHeads_29 fl_RX11_32 h0 (by decide) rfl rfl (by decide) (fun h_29 => ?_)
        refine j_iload_n C dX11_looksAtHeads_32 rfl ?_
        refine j_iald C dX11_looksAtHeads_33 h_29 ?_
        refine j_iconst C (v := (2 : Int32)) dX11_looksAtHeads_34 (by decide) ?_
        refine j_icmp_ne C (tgt := 181) dX11_looksAtHeads_35 (by decide) ?_ ?_
        · exact H181 v3 σ
        · refine j_aload_n C dX11_looksAtHeads_38 rfl ?_
          refine j_getR C dX11_looksAtHeads_39 fl_RX11_32 h0 (by decide) rfl rfl (by decide) (fun h_39 => ?_)
          refine j_iload_n C dX11_looksAtHeads_42 rfl ?_
          refine j_iald C dX11_looksAtHeads_43 h_39 ?_
          refine j_iconst C (v := (2 : Int32)) dX11_looksAtHeads_44 (by decide) ?_
          refine j_icmp_ne C (tgt := 181) dX11_looksAtHeads_45 (by decide) ?_ ?_
          · exact H181 v3 σ
          · refine j_aload_n C dX11_looksAtHeads_48 rfl ?_
            refine j_getR C dX11_looksAtHeads_49 fl_RX11_35 h0 (by decide) rfl rfl (by decide) (fun h_49 => ?_)
            refine j_iload_n C dX11_looksAtHeads_52 rfl ?_
            refine j_iald C dX11_looksAtHeads_53 h_49 ?_
            refine j_aload_n C dX11_looksAtHeads_54 rfl ?_
            refine j_getR C dX11_looksAtHeads_55 fl_RX11_35 h0 (by decide) rfl rfl (by decide) (fun h_55 => ?_)
            refine j_iload_n C dX11_looksAtHeads_58 rfl ?_
            refine j_iald C dX11_looksAtHeads_59 h_55 ?_
            refine j_icmp_ne C (tgt := 181) dX11_looksAtHeads_60 (by decide) ?_ ?_
            · exact H181 v3 σ
            · refine j_aload_n C dX11_looksAtHeads_63 rfl ?_
              refine j_getR C dX11_looksAtHeads_64 fl_RX11_38 h0 (by decide) rfl rfl (by decide) (fun h_64 => ?_)
              refine j_iload_n C dX11_looksAtHeads_67 rfl ?_
              refine j_iald C dX11_looksAtHeads_68 h_64 ?_
              refine j_aload_n C dX11_looksAtHeads_69 rfl ?_
              refine j_getR C dX11_looksAtHeads_70 fl_RX11_38 h0 (by decide) rfl rfl (by decide) (fun h_70 => ?_)
              refine j_iload_n C dX11_looksAtHeads_73 rfl ?_
              refine j_iald C dX11_looksAtHeads_74 h_70 ?_
              refine j_icmp_eq C (tgt := 181) dX11_looksAtHeads_75 (by decide) ?_ ?_
              · exact H181 v3 σ
              · refine j_aload_n C dX11_looksAtHeads_78 rfl ?_
                refine j_getR C dX11_looksAtHeads_79 fl_RX11_71 h0 (by decide) rfl rfl (by decide) (fun h_79 => ?_)
                refine j_iconst C (v := (5 : Int32)) dX11_looksAtHeads_82 (by decide) ?_
                refine j_iload_n C dX11_looksAtHeads_83 rfl ?_
                refine j_imul C dX11_looksAtHeads_84 ?_
                refine j_iload_n C dX11_looksAtHeads_85 rfl ?_
                refine j_iadd C dX11_looksAtHeads_86 ?_
                refine j_zald C dX11_looksAtHeads_87 h_79 ?_
                refine j_if_eq C (tgt := 94) dX11_looksAtHeads_88 (by decide) ?_ ?_
                · refine j_aload_n C dX11_looksAtHeads_94 rfl ?_
                  refine j_getR C dX11_looksAtHeads_95 fl_RX11_71 h0 (by decide) rfl rfl (by decide) (fun h_95 => ?_)
                  refine j_iconst C (v := (5 : Int32)) dX11_looksAtHeads_98 (by decide) ?_
                  refine j_iload_n C dX11_looksAtHeads_99 rfl ?_
                  refine j_imul C dX11_looksAtHeads_100 ?_
                  refine j_iload_n C dX11_looksAtHeads_101 rfl ?_
                  refine j_iadd C dX11_looksAtHeads_102 ?_
                  refine j_iconst C (v := (1 : Int32)) dX11_looksAtHeads_103 (by decide) ?_
                  refine j_zast C dX11_looksAtHeads_104 h_95 (fun s_104 => ?_)
                  refine j_aload_n C dX11_looksAtHeads_105 rfl ?_
                  refine j_getI C dX11_looksAtHeads_106 fl_RX11_182 h0 (by decide) rfl ?_
                  refine j_if_ne C (tgt := 171) dX11_looksAtHeads_109 (by decide) ?_ ?_
                  · exact H171 v3 s_104
                  · refine j_aload_n C dX11_looksAtHeads_112 rfl ?_
                    refine j_iload_n C dX11_looksAtHeads_113 rfl ?_
                    refine j_put C dX11_looksAtHeads_114 fl_RX11_243 fs_11_26 h0 (by decide) rfl rfl rfl (fun s_114 => ?_)
                    refine j_aload_n C dX11_looksAtHeads_117 rfl ?_
                    refine j_aload_n C dX11_looksAtHeads_118 rfl ?_
                    refine j_getR C dX11_looksAtHeads_119 fl_RX11_35 h0 (by decide) rfl rfl (by decide) (fun h_119 => ?_)
                    refine j_iload_n C dX11_looksAtHeads_122 rfl ?_
                    refine j_iald C dX11_looksAtHeads_123 h_119 ?_
                    refine j_put C dX11_looksAtHeads_124 fl_RX11_246 fs_11_27 h0 (by decide) rfl rfl rfl (fun s_124 => ?_)
                    refine j_aload_n C dX11_looksAtHeads_127 rfl ?_
                    refine j_iload_n C dX11_looksAtHeads_128 rfl ?_
                    refine j_put C dX11_looksAtHeads_129 fl_RX11_249 fs_11_28 h0 (by decide) rfl rfl rfl (fun s_129 => ?_)
                    refine j_aload_n C dX11_looksAtHeads_132 rfl ?_
                    refine j_iload_n C dX11_looksAtHeads_133 rfl ?_
                    refine j_put C dX11_looksAtHeads_134 fl_RX11_252 fs_11_29 h0 (by decide) rfl rfl rfl (fun s_134 => ?_)
                    refine j_aload_n C dX11_looksAtHeads_137 rfl ?_
                    refine j_aload_n C dX11_looksAtHeads_138 rfl ?_
                    refine j_getR C dX11_looksAtHeads_139 fl_RX11_41 h0 (by decide) rfl rfl (by decide) (fun h_139 => ?_)
                    refine j_iload_n C dX11_looksAtHeads_142 rfl ?_
                    refine j_iald C dX11_looksAtHeads_143 h_139 ?_
                    refine j_aload_n C dX11_looksAtHeads_144 rfl ?_
                    refine j_getR C dX11_looksAtHeads_145 fl_RX11_41 h0 (by decide) rfl rfl (by decide) (fun h_145 => ?_)
                    refine j_iload_n C dX11_looksAtHeads_148 rfl ?_
                    refine j_iald C dX11_looksAtHeads_149 h_145 ?_
                    refine j_icmp_le C (tgt := 162) dX11_looksAtHeads_150 (by decide) ?_ ?_
                    · refine j_aload_n C dX11_looksAtHeads_162 rfl ?_
                      refine j_getR C dX11_looksAtHeads_163 fl_RX11_41 h0 (by decide) rfl rfl (by decide) (fun h_163 => ?_)
                      refine j_iload_n C dX11_looksAtHeads_166 rfl ?_
                      refine j_iald C dX11_looksAtHeads_167 h_163 ?_
                      exact H168 v3 (s_134 (rf v0 14) (v3).toNatClampNeg) v0 h0 s_134
                    · refine j_aload_n C dX11_looksAtHeads_153 rfl ?_
                      refine j_getR C dX11_looksAtHeads_154 fl_RX11_41 h0 (by decide) rfl rfl (by decide) (fun h_154 => ?_)
                      refine j_iload_n C dX11_looksAtHeads_157 rfl ?_
                      refine j_iald C dX11_looksAtHeads_158 h_154 ?_
                      refine j_goto C (tgt := 168) dX11_looksAtHeads_159 (by decide) ?_
                      exact H168 v3 (s_134 (rf v0 14) (v2).toNatClampNeg) v0 h0 s_134
                · refine j_goto C (tgt := 181) dX11_looksAtHeads_91 (by decide) ?_
                  exact H181 v3 σ
    unfold fX11_looksAtHeads_2
    refine j_iload_n C dX11_looksAtHeads_2 rfl ?_
    refine j_aload_n C dX11_looksAtHeads_3 rfl ?_
    refine j_getR C dX11_looksAtHeads_4 fl_RX11_7 h0 (by decide) rfl rfl (by decide) (fun h_4 => ?_)
    refine j_bipush C (v := (14 : Int32)) dX11_looksAtHeads_7 (by decide) ?_
    refine j_iald C dX11_looksAtHeads_9 h_4 ?_
    refine j_icmp_ge C (tgt := 193) dX11_looksAtHeads_10 (by decide) ?_ ?_
    · exact j_vret C dX11_looksAtHeads_193
    · refine j_iload_n C dX11_looksAtHeads_13 rfl ?_
      refine j_iconst C (v := (1 : Int32)) dX11_looksAtHeads_14 (by decide) ?_
      refine j_iadd C dX11_looksAtHeads_15 ?_
      refine j_istore_n C (Ls' := fun v3_16 => [(3, .int v3_16), (0, .ref (adr M v0)), (1, .int v1), (2, .int v2)]) dX11_looksAtHeads_16 (by decide) (fun _ => rfl) (fun v3_16 => ?_)
      refine j_sub (Ls' := [(0, .ref (adr M v0)), (1, .int v1), (2, .int v2), (3, .int v3_16)]) [1, 2, 3, 0] rfl ?_
      exact H17 v2 FU v3_16 σ
  unfold fX11_looksAtHeads
  refine j_iconst C (v := (0 : Int32)) dX11_looksAtHeads_0 (by decide) ?_
  refine j_istore_n C (Ls' := fun v2_1 => [(2, .int v2_1), (0, .ref (adr M v0)), (1, .int v1)]) dX11_looksAtHeads_1 (by decide) (fun _ => rfl) (fun v2_1 => ?_)
  refine j_sub (Ls' := [(0, .ref (adr M v0)), (1, .int v1), (2, .int v2_1)]) [1, 2, 0] rfl ?_
  exact H2 FU v2_1 σ
set_option maxRecDepth 20000 in
set_option maxHeartbeats 4000000 in
theorem CX11_runs (l : Launch) (M : Mc) (hD : Dj M) (v0 : Nat) (h0 : isK v0 11) (σ : Sg) : Ct l M yX11_runs cX11_runs 4 none { frames := 5, cells := 0, slots := 0, locals := 113 } vV [.ref (adr M v0)] σ (fX11_runs v0 σ) := by
  refine ct_of (l := l) hD (by decide) (Nat.le_of_ble_eq_true rfl) ?_
  intro p e s m args below meth c C
  have H6 : ∀  (n : Nat) (v1 : Int32) (τ : Sg), J p l e { frames := 5, cells := 0, slots := 0, locals := 113 } s m args below meth c M 4 vV τ 6 [(0, .ref (adr M v0)), (1, .int v1)] [] (lq1 (fX11_runs_6 v0) n v1 τ) := by
    refine j_lq1 (Ls := fun v1 => [(0, .ref (adr M v0)), (1, .int v1)]) (st := fun _ => []) ?_
    intro k6 hk6 v1 σ
    have H216 : ∀ (v1 : Int32) (n : Nat) (v2 : Int32) (τ : Sg), J p l e { frames := 5, cells := 0, slots := 0, locals := 113 } s m args below meth c M 4 vV τ 216 [(0, .ref (adr M v0)), (1, .int v1), (2, .int v2)] [] (lq1 (fX11_runs_216 v0 v1 k6) n v2 τ) := by
      intro v1
      refine j_lq1 (Ls := fun v2 => [(0, .ref (adr M v0)), (1, .int v1), (2, .int v2)]) (st := fun _ => []) ?_
      intro k216 hk216 v2 σ
      have H297 : ∀ (v2 : Int32) (w0 : Int32) (w1 : Int32) (w2 : Nat) (hw2 : isK w2 13) (τ : Sg), J p l e { frames := 5, cells := 0, slots := 0, locals := 113 } s m args below meth c M 4 vV τ 297 [(0, .ref (adr M v0)), (1, .int v1), (2, .int v2)] [.int w0, .int w1, .ref (adr M w2)] (fX11_runs_297 v0 v1 v2 w0 w1 w2 k6 k216 τ) := by
        intro v2 w0 w1 w2 hw2 σ
        unfold fX11_runs_297
        refine j_iast C dX11_runs_297 hw2 (fun s_297 => ?_)
        refine j_iinc C (v := (1 : Int32)) (Ls' := fun v2_298 => [(2, .int v2_298), (0, .ref (adr M v0)), (1, .int v1)]) dX11_runs_298 2 rfl (by decide) (by decide) (fun _ => rfl) (fun v2_298 => ?_)
        refine j_goto C (tgt := 216) dX11_runs_301 (by decide) ?_
        refine j_sub (Ls' := [(0, .ref (adr M v0)), (1, .int v1), (2, .int v2_298)]) [1, 2, 0] rfl ?_
        exact hk216 v2_298 s_297
      unfold fX11_runs_216
      refine j_iload_n C dX11_runs_216 rfl ?_
      refine j_aload_n C dX11_runs_217 rfl ?_
      refine j_getR C dX11_runs_218 fl_RX11_7 h0 (by decide) rfl rfl (by decide) (fun h_218 => ?_)
      refine j_bipush C (v := (14 : Int32)) dX11_runs_221 (by decide) ?_
      refine j_iald C dX11_runs_223 h_218 ?_
      refine j_icmp_ge C (tgt := 304) dX11_runs_224 (by decide) ?_ ?_
      · refine j_iinc C (v := (1 : Int32)) (Ls' := fun v1_304 => [(1, .int v1_304), (0, .ref (adr M v0)), (2, .int v2)]) dX11_runs_304 1 rfl (by decide) (by decide) (fun _ => rfl) (fun v1_304 => ?_)
        refine j_goto C (tgt := 6) dX11_runs_307 (by decide) ?_
        refine j_sub (Ls' := [(0, .ref (adr M v0)), (1, .int v1_304)]) [1, 0] rfl ?_
        exact hk6 v1_304 σ
      · refine j_aload_n C dX11_runs_227 rfl ?_
        refine j_getR C dX11_runs_228 fl_RX11_56 h0 (by decide) rfl rfl (by decide) (fun h_228 => ?_)
        refine j_sipush C (v := (501 : Int32)) dX11_runs_231 (by decide) ?_
        refine j_iload_n C dX11_runs_234 rfl ?_
        refine j_imul C dX11_runs_235 ?_
        refine j_iload_n C dX11_runs_236 rfl ?_
        refine j_iadd C dX11_runs_237 ?_
        refine j_aload_n C dX11_runs_238 rfl ?_
        refine j_getR C dX11_runs_239 fl_RX11_32 h0 (by decide) rfl rfl (by decide) (fun h_239 => ?_)
        refine j_iload_n C dX11_runs_242 rfl ?_
        refine j_iald C dX11_runs_243 h_239 ?_
        refine j_if_ne C (tgt := 253) dX11_runs_244 (by decide) ?_ ?_
        · refine j_aload_n C dX11_runs_253 rfl ?_
          refine j_getR C dX11_runs_254 fl_RX11_32 h0 (by decide) rfl rfl (by decide) (fun h_254 => ?_)
          refine j_iload_n C dX11_runs_257 rfl ?_
          refine j_iald C dX11_runs_258 h_254 ?_
          refine j_iconst C (v := (3 : Int32)) dX11_runs_259 (by decide) ?_
          refine j_icmp_ne C (tgt := 269) dX11_runs_260 (by decide) ?_ ?_
          · refine j_aload_n C dX11_runs_269 rfl ?_
            refine j_getR C dX11_runs_270 fl_RX11_32 h0 (by decide) rfl rfl (by decide) (fun h_270 => ?_)
            refine j_iload_n C dX11_runs_273 rfl ?_
            refine j_iald C dX11_runs_274 h_270 ?_
            refine j_iconst C (v := (2 : Int32)) dX11_runs_275 (by decide) ?_
            refine j_icmp_ne C (tgt := 291) dX11_runs_276 (by decide) ?_ ?_
            · refine j_aload_n C dX11_runs_291 rfl ?_
              refine j_getR C dX11_runs_292 fl_RX11_35 h0 (by decide) rfl rfl (by decide) (fun h_292 => ?_)
              refine j_iload_n C dX11_runs_295 rfl ?_
              refine j_iald C dX11_runs_296 h_292 ?_
              exact H297 v2 (σ (rf v0 12) (v2).toNatClampNeg) (((501 : Int32) * v2) + v1) (rf v0 19) h_228 σ
            · refine j_bipush C (v := (100 : Int32)) dX11_runs_279 (by decide) ?_
              refine j_aload_n C dX11_runs_281 rfl ?_
              refine j_getR C dX11_runs_282 fl_RX11_35 h0 (by decide) rfl rfl (by decide) (fun h_282 => ?_)
              refine j_iload_n C dX11_runs_285 rfl ?_
              refine j_iald C dX11_runs_286 h_282 ?_
              refine j_iadd C dX11_runs_287 ?_
              refine j_goto C (tgt := 297) dX11_runs_288 (by decide) ?_
              exact H297 v2 ((100 : Int32) + (σ (rf v0 12) (v2).toNatClampNeg)) (((501 : Int32) * v2) + v1) (rf v0 19) h_228 σ
          · refine j_sipush C (v := (300 : Int32)) dX11_runs_263 (by decide) ?_
            refine j_goto C (tgt := 297) dX11_runs_266 (by decide) ?_
            exact H297 v2 (300 : Int32) (((501 : Int32) * v2) + v1) (rf v0 19) h_228 σ
        · refine j_sipush C (v := (200 : Int32)) dX11_runs_247 (by decide) ?_
          refine j_goto C (tgt := 297) dX11_runs_250 (by decide) ?_
          exact H297 v2 (200 : Int32) (((501 : Int32) * v2) + v1) (rf v0 19) h_228 σ
    have H123 : ∀ (v1 : Int32) (n : Nat) (v2 : Int32) (τ : Sg), J p l e { frames := 5, cells := 0, slots := 0, locals := 113 } s m args below meth c M 4 vV τ 123 [(0, .ref (adr M v0)), (1, .int v1), (2, .int v2)] [] (lq1 (fX11_runs_123 v0 v1 k6) n v2 τ) := by
      intro v1
      refine j_lq1 (Ls := fun v2 => [(0, .ref (adr M v0)), (1, .int v1), (2, .int v2)]) (st := fun _ => []) ?_
      intro k123 hk123 v2 σ
      have H203 : ∀ (v2 : Int32) (τ : Sg), J p l e { frames := 5, cells := 0, slots := 0, locals := 113 } s m args below meth c M 4 vV τ 203 [(0, .ref (adr M v0)), (1, .int v1), (2, .int v2)] [] (fX11_runs_203 v0 v1 v2 k6 k123 τ) := by
        intro v2 σ
        unfold fX11_runs_203
        refine j_iinc C (v := (1 : Int32)) (Ls' := fun v2_203 => [(2, .int v2_203), (0, .ref (adr M v0)), (1, .int v1)]) dX11_runs_203 2 rfl (by decide) (by decide) (fun _ => rfl) (fun v2_203 => ?_)
        refine j_goto C (tgt := 123) dX11_runs_206 (by decide) ?_
        refine j_sub (Ls' := [(0, .ref (adr M v0)), (1, .int v1), (2, .int v2_203)]) [1, 2, 0] rfl ?_
        exact hk123 v2_203 σ
      have H187 : ∀ (v2 : Int32) (v3 : Int32) (w0 : Int32) (w1 : Int32) (w2 : Nat) (hw2 : isK w2 13) (τ : Sg), J p l e { frames := 5, cells := 0, slots := 0, locals := 113 } s m args below meth c M 4 vV τ 187 [(0, .ref (adr M v0)), (1, .int v1), (2, .int v2), (3, .int v3)] [.int w0, .int w1, .ref (adr M w2)] (fX11_runs_187 v0 v1 v2 v3 w0 w1 w2 k6 k123 τ) := by
        intro v2 v3 w0 w1 w2 hw2 σ
        unfold fX11_runs_187
        refine j_iast C dX11_runs_187 hw2 (fun s_187 => ?_)
        refine j_aload_n C dX11_runs_188 rfl ?_
        refine j_getR C dX11_runs_189 fl_RX11_59 h0 (by decide) rfl rfl (by decide) (fun h_189 => ?_)
        refine j_iload_n C dX11_runs_192 rfl ?_
        refine j_iald C dX11_runs_193 h_189 ?_
        refine j_if_ne C (tgt := 203) dX11_runs_194 (by decide) ?_ ?_
        · refine j_sub (Ls' := [(0, .ref (adr M v0)), (1, .int v1), (2, .int v2)]) [0, 1, 2] rfl ?_
          exact H203 v2 s_187
        · refine j_aload_n C dX11_runs_197 rfl ?_
          refine j_iload_n C dX11_runs_198 rfl ?_
          refine j_iload_n C dX11_runs_199 rfl ?_
          refine j_callVv C (As := [.int v2, .int v1]) dX11_runs_200 (CX11_goes l M hD v0 h0 v2 v1 s_187) vv_RX11_270 h0 (by decide) rfl rfl ⟨rfl, rfl⟩ (by decide) (Nat.le_of_ble_eq_true rfl) ⟨Nat.zero_le _, Nat.zero_le _⟩ (fun r_200 s_200 => ?_)
          refine j_sub (Ls' := [(0, .ref (adr M v0)), (1, .int v1), (2, .int v2)]) [0, 1, 2] rfl ?_
          exact H203 v2 s_200
      unfold fX11_runs_123
      refine j_iload_n C dX11_runs_123 rfl ?_
      refine j_aload_n C dX11_runs_124 rfl ?_
      refine j_getR C dX11_runs_125 fl_RX11_7 h0 (by decide) rfl rfl (by decide) (fun h_125 => ?_)
      refine j_bipush C (v := (14 : Int32)) dX11_runs_128 (by decide) ?_
      refine j_iald C dX11_runs_130 h_125 ?_
      refine j_icmp_ge C (tgt := 209) dX11_runs_131 (by decide) ?_ ?_
      · refine j_aload_n C dX11_runs_209 rfl ?_
        refine j_iload_n C dX11_runs_210 rfl ?_
        refine j_callVv C (As := [.int v1]) dX11_runs_211 (CX11_looksAtHeads l M hD v0 h0 v1 σ) vv_RX11_273 h0 (by decide) rfl rfl ⟨rfl, rfl⟩ (by decide) (Nat.le_of_ble_eq_true rfl) ⟨Nat.zero_le _, Nat.zero_le _⟩ (fun r_211 s_211 => ?_)
        refine j_iconst C (v := (0 : Int32)) dX11_runs_214 (by decide) ?_
        refine j_istore_n C (Ls' := fun v2_215 => [(2, .int v2_215), (0, .ref (adr M v0)), (1, .int v1)]) dX11_runs_215 (by decide) (fun _ => rfl) (fun v2_215 => ?_)
        refine j_sub (Ls' := [(0, .ref (adr M v0)), (1, .int v1), (2, .int v2_215)]) [1, 2, 0] rfl ?_
        exact H216 v1 FU v2_215 s_211
      · refine j_sipush C (v := (501 : Int32)) dX11_runs_134 (by decide) ?_
        refine j_iload_n C dX11_runs_137 rfl ?_
        refine j_imul C dX11_runs_138 ?_
        refine j_iload_n C dX11_runs_139 rfl ?_
        refine j_iadd C dX11_runs_140 ?_
        refine j_istore_n C (Ls' := fun v3_141 => [(3, .int v3_141), (0, .ref (adr M v0)), (1, .int v1), (2, .int v2)]) dX11_runs_141 (by decide) (fun _ => rfl) (fun v3_141 => ?_)
        refine j_aload_n C dX11_runs_142 rfl ?_
        refine j_getR C dX11_runs_143 fl_RX11_59 h0 (by decide) rfl rfl (by decide) (fun h_143 => ?_)
        refine j_iload_n C dX11_runs_146 rfl ?_
        refine j_ldc C dX11_runs_147 lc_RX11_100 ?_
        refine j_iast C dX11_runs_149 h_143 (fun s_149 => ?_)
        refine j_aload_n C dX11_runs_150 rfl ?_
        refine j_getR C dX11_runs_151 fl_RX11_32 h0 (by decide) rfl rfl (by decide) (fun h_151 => ?_)
        refine j_iload_n C dX11_runs_154 rfl ?_
        refine j_iald C dX11_runs_155 h_151 ?_
        refine j_iconst C (v := (1 : Int32)) dX11_runs_156 (by decide) ?_
        refine j_icmp_eq C (tgt := 163) dX11_runs_157 (by decide) ?_ ?_
        · refine j_aload_n C dX11_runs_163 rfl ?_
          refine j_getR C dX11_runs_164 fl_RX11_59 h0 (by decide) rfl rfl (by decide) (fun h_164 => ?_)
          refine j_iload_n C dX11_runs_167 rfl ?_
          refine j_aload_n C dX11_runs_168 rfl ?_
          refine j_iload_n C dX11_runs_169 rfl ?_
          refine j_iload_n C dX11_runs_170 rfl ?_
          refine j_callVI C (As := [.int v2, .int v1]) dX11_runs_171 (CX11_isForced l M hD v0 h0 v2 v1 s_149) vv_RX11_264 h0 (by decide) rfl rfl ⟨rfl, rfl⟩ (by decide) (Nat.le_of_ble_eq_true rfl) ⟨Nat.zero_le _, Nat.zero_le _⟩ (fun r_171 s_171 => ?_)
          refine j_if_eq C (tgt := 181) dX11_runs_174 (by decide) ?_ ?_
          · refine j_aload_n C dX11_runs_181 rfl ?_
            refine j_iload_n C dX11_runs_182 rfl ?_
            refine j_iload_n C dX11_runs_183 rfl ?_
            refine j_callVI C (As := [.int v2, .int v1]) dX11_runs_184 (CX11_whyNot l M hD v0 h0 v2 v1 s_171) vv_RX11_267 h0 (by decide) rfl rfl ⟨rfl, rfl⟩ (by decide) (Nat.le_of_ble_eq_true rfl) ⟨Nat.zero_le _, Nat.zero_le _⟩ (fun r_184 s_184 => ?_)
            refine j_sub (Ls' := [(0, .ref (adr M v0)), (1, .int v1), (2, .int v2), (3, .int v3_141)]) [1, 2, 3, 0] rfl ?_
            exact H187 v2 v3_141 r_184 v3_141 (rf v0 20) h_164 s_184
          · refine j_iconst C (v := (0 : Int32)) dX11_runs_177 (by decide) ?_
            refine j_goto C (tgt := 187) dX11_runs_178 (by decide) ?_
            refine j_sub (Ls' := [(0, .ref (adr M v0)), (1, .int v1), (2, .int v2), (3, .int v3_141)]) [1, 2, 3, 0] rfl ?_
            exact H187 v2 v3_141 (0 : Int32) v3_141 (rf v0 20) h_164 s_171
        · refine j_goto C (tgt := 203) dX11_runs_160 (by decide) ?_
          refine j_sub (Ls' := [(0, .ref (adr M v0)), (1, .int v1), (2, .int v2)]) [1, 2, 3] rfl ?_
          exact H203 v2 s_149
    have H75 : ∀ (v1 : Int32) (n : Nat) (v2 : Int32) (τ : Sg), J p l e { frames := 5, cells := 0, slots := 0, locals := 113 } s m args below meth c M 4 vV τ 75 [(0, .ref (adr M v0)), (1, .int v1), (2, .int v2)] [] (lq1 (fX11_runs_75 v0 v1 k6) n v2 τ) := by
      intro v1
      refine j_lq1 (Ls := fun v2 => [(0, .ref (adr M v0)), (1, .int v1), (2, .int v2)]) (st := fun _ => []) ?_
      intro k75 hk75 v2 σ
      have H115 : ∀ (v2 : Int32) (τ : Sg), J p l e { frames := 5, cells := 0, slots := 0, locals := 113 } s m args below meth c M 4 vV τ 115 [(0, .ref (adr M v0)), (1, .int v1), (2, .int v2)] [] (fX11_runs_115 v0 v1 v2 k6 k75 τ) := by
        intro v2 σ
        unfold fX11_runs_115
        refine j_iinc C (v := (1 : Int32)) (Ls' := fun v2_115 => [(2, .int v2_115), (0, .ref (adr M v0)), (1, .int v1)]) dX11_runs_115 2 rfl (by decide) (by decide) (fun _ => rfl) (fun v2_115 => ?_)
        refine j_goto C (tgt := 75) dX11_runs_118 (by decide) ?_
        refine j_sub (Ls' := [(0, .ref (adr M v0)), (1, .int v1), (2, .int v2_115)]) [1, 2, 0] rfl ?_
        exact hk75 v2_115 σ
      unfold fX11_runs_75
      refine j_iload_n C dX11_runs_75 rfl ?_
      refine j_aload_n C dX11_runs_76 rfl ?_
      refine j_getR C dX11_runs_77 fl_RX11_7 h0 (by decide) rfl rfl (by decide) (fun h_77 => ?_)
      refine j_bipush C (v := (14 : Int32)) dX11_runs_80 (by decide) ?_
      refine j_iald C dX11_runs_82 h_77 ?_
      refine j_icmp_ge C (tgt := 121) dX11_runs_83 (by decide) ?_ ?_
      · refine j_iconst C (v := (0 : Int32)) dX11_runs_121 (by decide) ?_
        refine j_istore_n C (Ls' := fun v2_122 => [(2, .int v2_122), (0, .ref (adr M v0)), (1, .int v1)]) dX11_runs_122 (by decide) (fun _ => rfl) (fun v2_122 => ?_)
        refine j_sub (Ls' := [(0, .ref (adr M v0)), (1, .int v1), (2, .int v2_122)]) [1, 2, 0] rfl ?_
        exact H123 v1 FU v2_122 σ
      · refine j_aload_n C dX11_runs_86 rfl ?_
        refine j_getR C dX11_runs_87 fl_RX11_32 h0 (by decide) rfl rfl (by decide) (fun h_87 => ?_)
        refine j_iload_n C dX11_runs_90 rfl ?_
        refine j_iald C dX11_runs_91 h_87 ?_
        refine j_if_ne C (tgt := 115) dX11_runs_92 (by decide) ?_ ?_
        · exact H115 v2 σ
        · refine j_iload_n C dX11_runs_95 rfl ?_
          refine j_aload_n C dX11_runs_96 rfl ?_
          refine j_iload_n C dX11_runs_97 rfl ?_
          refine j_callVI C (As := [.int v2]) dX11_runs_98 (CX11_timeOf l M hD v0 h0 v2 σ) vv_RX11_143 h0 (by decide) rfl rfl ⟨rfl, rfl⟩ (by decide) (Nat.le_of_ble_eq_true rfl) ⟨Nat.zero_le _, Nat.zero_le _⟩ (fun r_98 s_98 => ?_)
          refine j_icmp_ne C (tgt := 115) dX11_runs_101 (by decide) ?_ ?_
          · exact H115 v2 s_98
          · refine j_aload_n C dX11_runs_104 rfl ?_
            refine j_iload_n C dX11_runs_105 rfl ?_
            refine j_aload_n C dX11_runs_106 rfl ?_
            refine j_iload_n C dX11_runs_107 rfl ?_
            refine j_callVI C (As := [.int v2]) dX11_runs_108 (CX11_fromOf l M hD v0 h0 v2 s_98) vv_RX11_115 h0 (by decide) rfl rfl ⟨rfl, rfl⟩ (by decide) (Nat.le_of_ble_eq_true rfl) ⟨Nat.zero_le _, Nat.zero_le _⟩ (fun r_108 s_108 => ?_)
            refine j_iload_n C dX11_runs_111 rfl ?_
            refine j_callVv C (As := [.int v2, .int r_108, .int v1]) dX11_runs_112 (CX11_isAt l M hD v0 h0 v2 r_108 v1 s_108) vv_RX11_188 h0 (by decide) rfl rfl ⟨rfl, rfl⟩ (by decide) (Nat.le_of_ble_eq_true rfl) ⟨Nat.zero_le _, Nat.zero_le _⟩ (fun r_112 s_112 => ?_)
            exact H115 v2 s_112
    have H15 : ∀ (v1 : Int32) (n : Nat) (v2 : Int32) (τ : Sg), J p l e { frames := 5, cells := 0, slots := 0, locals := 113 } s m args below meth c M 4 vV τ 15 [(0, .ref (adr M v0)), (1, .int v1), (2, .int v2)] [] (lq1 (fX11_runs_15 v0 v1 k6) n v2 τ) := by
      intro v1
      refine j_lq1 (Ls := fun v2 => [(0, .ref (adr M v0)), (1, .int v1), (2, .int v2)]) (st := fun _ => []) ?_
      intro k15 hk15 v2 σ
      have H67 : ∀ (v2 : Int32) (τ : Sg), J p l e { frames := 5, cells := 0, slots := 0, locals := 113 } s m args below meth c M 4 vV τ 67 [(0, .ref (adr M v0)), (1, .int v1), (2, .int v2)] [] (fX11_runs_67 v0 v1 v2 k6 k15 τ) := by
        intro v2 σ
        unfold fX11_runs_67
        refine j_iinc C (v := (1 : Int32)) (Ls' := fun v2_67 => [(2, .int v2_67), (0, .ref (adr M v0)), (1, .int v1)]) dX11_runs_67 2 rfl (by decide) (by decide) (fun _ => rfl) (fun v2_67 => ?_)
        refine j_goto C (tgt := 15) dX11_runs_70 (by decide) ?_
        refine j_sub (Ls' := [(0, .ref (adr M v0)), (1, .int v1), (2, .int v2_67)]) [1, 2, 0] rfl ?_
        exact hk15 v2_67 σ
      unfold fX11_runs_15
      refine j_iload_n C dX11_runs_15 rfl ?_
      refine j_aload_n C dX11_runs_16 rfl ?_
      refine j_getR C dX11_runs_17 fl_RX11_7 h0 (by decide) rfl rfl (by decide) (fun h_17 => ?_)
      refine j_bipush C (v := (14 : Int32)) dX11_runs_20 (by decide) ?_
      refine j_iald C dX11_runs_22 h_17 ?_
      refine j_icmp_ge C (tgt := 73) dX11_runs_23 (by decide) ?_ ?_
      · refine j_iconst C (v := (0 : Int32)) dX11_runs_73 (by decide) ?_
        refine j_istore_n C (Ls' := fun v2_74 => [(2, .int v2_74), (0, .ref (adr M v0)), (1, .int v1)]) dX11_runs_74 (by decide) (fun _ => rfl) (fun v2_74 => ?_)
        refine j_sub (Ls' := [(0, .ref (adr M v0)), (1, .int v1), (2, .int v2_74)]) [1, 2, 0] rfl ?_
        exact H75 v1 FU v2_74 σ
      · refine j_aload_n C dX11_runs_26 rfl ?_
        refine j_getR C dX11_runs_27 fl_RX11_32 h0 (by decide) rfl rfl (by decide) (fun h_27 => ?_)
        refine j_iload_n C dX11_runs_30 rfl ?_
        refine j_iald C dX11_runs_31 h_27 ?_
        refine j_iconst C (v := (2 : Int32)) dX11_runs_32 (by decide) ?_
        refine j_icmp_ne C (tgt := 67) dX11_runs_33 (by decide) ?_ ?_
        · exact H67 v2 σ
        · refine j_iload_n C dX11_runs_36 rfl ?_
          refine j_aload_n C dX11_runs_37 rfl ?_
          refine j_getR C dX11_runs_38 fl_RX11_41 h0 (by decide) rfl rfl (by decide) (fun h_38 => ?_)
          refine j_iload_n C dX11_runs_41 rfl ?_
          refine j_iald C dX11_runs_42 h_38 ?_
          refine j_aload_n C dX11_runs_43 rfl ?_
          refine j_getR C dX11_runs_44 fl_RX11_7 h0 (by decide) rfl rfl (by decide) (fun h_44 => ?_)
          refine j_bipush C (v := (8 : Int32)) dX11_runs_47 (by decide) ?_
          refine j_aload_n C dX11_runs_49 rfl ?_
          refine j_getR C dX11_runs_50 fl_RX11_35 h0 (by decide) rfl rfl (by decide) (fun h_50 => ?_)
          refine j_iload_n C dX11_runs_53 rfl ?_
          refine j_iald C dX11_runs_54 h_50 ?_
          refine j_iadd C dX11_runs_55 ?_
          refine j_iald C dX11_runs_56 h_44 ?_
          refine j_iadd C dX11_runs_57 ?_
          refine j_icmp_ne C (tgt := 67) dX11_runs_58 (by decide) ?_ ?_
          · exact H67 v2 σ
          · refine j_aload_n C dX11_runs_61 rfl ?_
            refine j_iload_n C dX11_runs_62 rfl ?_
            refine j_iload_n C dX11_runs_63 rfl ?_
            refine j_callVv C (As := [.int v2, .int v1]) dX11_runs_64 (CX11_comesIn l M hD v0 h0 v2 v1 σ) vv_RX11_261 h0 (by decide) rfl rfl ⟨rfl, rfl⟩ (by decide) (Nat.le_of_ble_eq_true rfl) ⟨Nat.zero_le _, Nat.zero_le _⟩ (fun r_64 s_64 => ?_)
            exact H67 v2 s_64
    unfold fX11_runs_6
    refine j_iload_n C dX11_runs_6 rfl ?_
    refine j_sipush C (v := (500 : Int32)) dX11_runs_7 (by decide) ?_
    refine j_icmp_gt C (tgt := 310) dX11_runs_10 (by decide) ?_ ?_
    · exact j_vret C dX11_runs_310
    · refine j_iconst C (v := (0 : Int32)) dX11_runs_13 (by decide) ?_
      refine j_istore_n C (Ls' := fun v2_14 => [(2, .int v2_14), (0, .ref (adr M v0)), (1, .int v1)]) dX11_runs_14 (by decide) (fun _ => rfl) (fun v2_14 => ?_)
      refine j_sub (Ls' := [(0, .ref (adr M v0)), (1, .int v1), (2, .int v2_14)]) [1, 2, 0] rfl ?_
      exact H15 v1 FU v2_14 σ
  unfold fX11_runs
  refine j_aload_n C dX11_runs_0 rfl ?_
  refine j_callVv C (As := []) dX11_runs_1 (CX11_begin l M hD v0 h0 σ) vv_RX11_258 h0 (by decide) rfl rfl ⟨rfl, rfl⟩ (by decide) (Nat.le_of_ble_eq_true rfl) ⟨Nat.zero_le _, Nat.zero_le _⟩ (fun r_1 s_1 => ?_)
  refine j_iconst C (v := (0 : Int32)) dX11_runs_4 (by decide) ?_
  refine j_istore_n C (Ls' := fun v1_5 => [(1, .int v1_5), (0, .ref (adr M v0))]) dX11_runs_5 (by decide) (fun _ => rfl) (fun v1_5 => ?_)
  refine j_sub (Ls' := [(0, .ref (adr M v0)), (1, .int v1_5)]) [1, 0] rfl ?_
  exact H6 FU v1_5 s_1
set_option maxRecDepth 20000 in
set_option maxHeartbeats 4000000 in
theorem CX11_runsAsItIs (l : Launch) (M : Mc) (hD : Dj M) (v0 : Nat) (h0 : isK v0 11) (σ : Sg) : Ct l M yX11_runsAsItIs cX11_runsAsItIs 1 none { frames := 6, cells := 0, slots := 0, locals := 136 } vV [.ref (adr M v0)] σ (fX11_runsAsItIs v0 σ) := by
  refine ct_of (l := l) hD (by decide) (Nat.le_of_ble_eq_true rfl) ?_
  intro p e s m args below meth c C
  unfold fX11_runsAsItIs
  refine j_aload_n C dX11_runsAsItIs_0 rfl ?_
  refine j_getI C dX11_runsAsItIs_1 fl_RX11_90 h0 (by decide) rfl ?_
  refine j_if_eq C (tgt := 8) dX11_runsAsItIs_4 (by decide) ?_ ?_
  · refine j_aload_n C dX11_runsAsItIs_8 rfl ?_
    refine j_iconst C (v := (-1 : Int32)) dX11_runsAsItIs_9 (by decide) ?_
    refine j_put C dX11_runsAsItIs_10 fl_RX11_201 fs_11_32 h0 (by decide) rfl rfl rfl (fun s_10 => ?_)
    refine j_aload_n C dX11_runsAsItIs_13 rfl ?_
    refine j_iconst C (v := (-1 : Int32)) dX11_runsAsItIs_14 (by decide) ?_
    refine j_put C dX11_runsAsItIs_15 fl_RX11_204 fs_11_33 h0 (by decide) rfl rfl rfl (fun s_15 => ?_)
    refine j_aload_n C dX11_runsAsItIs_18 rfl ?_
    refine j_iconst C (v := (-1 : Int32)) dX11_runsAsItIs_19 (by decide) ?_
    refine j_put C dX11_runsAsItIs_20 fl_RX11_219 fs_11_34 h0 (by decide) rfl rfl rfl (fun s_20 => ?_)
    refine j_aload_n C dX11_runsAsItIs_23 rfl ?_
    refine j_callVv C (As := []) dX11_runsAsItIs_24 (CX11_runs l M hD v0 h0 s_20) vv_RX11_277 h0 (by decide) rfl rfl ⟨rfl, rfl⟩ (by decide) (Nat.le_of_ble_eq_true rfl) ⟨Nat.zero_le _, Nat.zero_le _⟩ (fun r_24 s_24 => ?_)
    refine j_aload_n C dX11_runsAsItIs_27 rfl ?_
    refine j_iconst C (v := (1 : Int32)) dX11_runsAsItIs_28 (by decide) ?_
    refine j_put C dX11_runsAsItIs_29 fl_RX11_90 fs_11_9 h0 (by decide) rfl rfl rfl (fun s_29 => ?_)
    exact j_vret C dX11_runsAsItIs_32
  · exact j_vret C dX11_runsAsItIs_7
set_option maxRecDepth 20000 in
set_option maxHeartbeats 4000000 in
theorem CX11_where (l : Launch) (M : Mc) (hD : Dj M) (v0 : Nat) (h0 : isK v0 11) (v1 : Int32) (v2 : Int32) (σ : Sg) : Ct l M yX11_where cX11_where 3 (some .int) { frames := 7, cells := 0, slots := 0, locals := 156 } vI [.ref (adr M v0), .int v1, .int v2] σ (fX11_where v0 v1 v2 σ) := by
  refine ct_of (l := l) hD (by decide) (Nat.le_of_ble_eq_true rfl) ?_
  intro p e s m args below meth c C
  unfold fX11_where
  refine j_aload_n C dX11_where_0 rfl ?_
  refine j_iload_n C dX11_where_1 rfl ?_
  refine j_callVI C (As := [.int v1]) dX11_where_2 (CX11_isTrain l M hD v0 h0 v1 σ) vv_RX11_133 h0 (by decide) rfl rfl ⟨rfl, rfl⟩ (by decide) (Nat.le_of_ble_eq_true rfl) ⟨Nat.zero_le _, Nat.zero_le _⟩ (fun r_2 s_2 => ?_)
  refine j_if_eq C (tgt := 15) dX11_where_5 (by decide) ?_ ?_
  · refine j_aload_n C dX11_where_15 rfl ?_
    refine j_ldc C dX11_where_16 lc_RX11_118 ?_
    refine j_callVI C (As := [.int ((-100001 : Int32))]) dX11_where_18 (CX11_finds l M hD v0 h0 (-100001 : Int32) s_2) vv_RX11_101 h0 (by decide) rfl rfl ⟨rfl, rfl⟩ (by decide) (Nat.le_of_ble_eq_true rfl) ⟨Nat.zero_le _, Nat.zero_le _⟩ (fun r_18 s_18 => ?_)
    exact j_iret C dX11_where_21
  · refine j_iload_n C dX11_where_8 rfl ?_
    refine j_callSI C (As := [.int v2]) dX11_where_9 (CX11_isMinute l M hD v2 s_2) vs_RX11_175 rfl rfl ⟨rfl, rfl⟩ (by decide) (Nat.le_of_ble_eq_true rfl) ⟨Nat.zero_le _, Nat.zero_le _⟩ (fun r_9 s_9 => ?_)
    refine j_if_ne C (tgt := 22) dX11_where_12 (by decide) ?_ ?_
    · refine j_aload_n C dX11_where_22 rfl ?_
      refine j_callVv C (As := []) dX11_where_23 (CX11_runsAsItIs l M hD v0 h0 s_9) vv_RX11_280 h0 (by decide) rfl rfl ⟨rfl, rfl⟩ (by decide) (Nat.le_of_ble_eq_true rfl) ⟨Nat.zero_le _, Nat.zero_le _⟩ (fun r_23 s_23 => ?_)
      refine j_aload_n C dX11_where_26 rfl ?_
      refine j_getR C dX11_where_27 fl_RX11_56 h0 (by decide) rfl rfl (by decide) (fun h_27 => ?_)
      refine j_sipush C (v := (501 : Int32)) dX11_where_30 (by decide) ?_
      refine j_iload_n C dX11_where_33 rfl ?_
      refine j_imul C dX11_where_34 ?_
      refine j_iload_n C dX11_where_35 rfl ?_
      refine j_iadd C dX11_where_36 ?_
      refine j_iald C dX11_where_37 h_27 ?_
      exact j_iret C dX11_where_38
    · refine j_aload_n C dX11_where_15 rfl ?_
      refine j_ldc C dX11_where_16 lc_RX11_118 ?_
      refine j_callVI C (As := [.int ((-100001 : Int32))]) dX11_where_18 (CX11_finds l M hD v0 h0 (-100001 : Int32) s_9) vv_RX11_101 h0 (by decide) rfl rfl ⟨rfl, rfl⟩ (by decide) (Nat.le_of_ble_eq_true rfl) ⟨Nat.zero_le _, Nat.zero_le _⟩ (fun r_18 s_18 => ?_)
      exact j_iret C dX11_where_21
set_option maxRecDepth 20000 in
set_option maxHeartbeats 4000000 in
theorem CX11_came (l : Launch) (M : Mc) (hD : Dj M) (v0 : Nat) (h0 : isK v0 11) (v1 : Int32) (v2 : Int32) (σ : Sg) : Ct l M yX11_came cX11_came 3 (some .int) { frames := 7, cells := 0, slots := 0, locals := 156 } vI [.ref (adr M v0), .int v1, .int v2] σ (fX11_came v0 v1 v2 σ) := by
  refine ct_of (l := l) hD (by decide) (Nat.le_of_ble_eq_true rfl) ?_
  intro p e s m args below meth c C
  unfold fX11_came
  refine j_aload_n C dX11_came_0 rfl ?_
  refine j_iload_n C dX11_came_1 rfl ?_
  refine j_callVI C (As := [.int v1]) dX11_came_2 (CX11_isTrain l M hD v0 h0 v1 σ) vv_RX11_133 h0 (by decide) rfl rfl ⟨rfl, rfl⟩ (by decide) (Nat.le_of_ble_eq_true rfl) ⟨Nat.zero_le _, Nat.zero_le _⟩ (fun r_2 s_2 => ?_)
  refine j_if_eq C (tgt := 16) dX11_came_5 (by decide) ?_ ?_
  · refine j_aload_n C dX11_came_16 rfl ?_
    refine j_ldc C dX11_came_17 lc_RX11_118 ?_
    refine j_callVI C (As := [.int ((-100001 : Int32))]) dX11_came_19 (CX11_finds l M hD v0 h0 (-100001 : Int32) s_2) vv_RX11_101 h0 (by decide) rfl rfl ⟨rfl, rfl⟩ (by decide) (Nat.le_of_ble_eq_true rfl) ⟨Nat.zero_le _, Nat.zero_le _⟩ (fun r_19 s_19 => ?_)
    exact j_iret C dX11_came_22
  · refine j_aload_n C dX11_came_8 rfl ?_
    refine j_iload_n C dX11_came_9 rfl ?_
    refine j_callVI C (As := [.int v2]) dX11_came_10 (CX11_isStation l M hD v0 h0 v2 s_2) vv_RX11_127 h0 (by decide) rfl rfl ⟨rfl, rfl⟩ (by decide) (Nat.le_of_ble_eq_true rfl) ⟨Nat.zero_le _, Nat.zero_le _⟩ (fun r_10 s_10 => ?_)
    refine j_if_ne C (tgt := 23) dX11_came_13 (by decide) ?_ ?_
    · refine j_aload_n C dX11_came_23 rfl ?_
      refine j_callVv C (As := []) dX11_came_24 (CX11_runsAsItIs l M hD v0 h0 s_10) vv_RX11_280 h0 (by decide) rfl rfl ⟨rfl, rfl⟩ (by decide) (Nat.le_of_ble_eq_true rfl) ⟨Nat.zero_le _, Nat.zero_le _⟩ (fun r_24 s_24 => ?_)
      refine j_aload_n C dX11_came_27 rfl ?_
      refine j_getR C dX11_came_28 fl_RX11_47 h0 (by decide) rfl rfl (by decide) (fun h_28 => ?_)
      refine j_bipush C (v := (7 : Int32)) dX11_came_31 (by decide) ?_
      refine j_iload_n C dX11_came_33 rfl ?_
      refine j_imul C dX11_came_34 ?_
      refine j_iload_n C dX11_came_35 rfl ?_
      refine j_iadd C dX11_came_36 ?_
      refine j_iald C dX11_came_37 h_28 ?_
      refine j_if_ge C (tgt := 50) dX11_came_38 (by decide) ?_ ?_
      · refine j_aload_n C dX11_came_50 rfl ?_
        refine j_getR C dX11_came_51 fl_RX11_47 h0 (by decide) rfl rfl (by decide) (fun h_51 => ?_)
        refine j_bipush C (v := (7 : Int32)) dX11_came_54 (by decide) ?_
        refine j_iload_n C dX11_came_56 rfl ?_
        refine j_imul C dX11_came_57 ?_
        refine j_iload_n C dX11_came_58 rfl ?_
        refine j_iadd C dX11_came_59 ?_
        refine j_iald C dX11_came_60 h_51 ?_
        exact j_iret C dX11_came_61
      · refine j_aload_n C dX11_came_41 rfl ?_
        refine j_ldc C dX11_came_42 lc_RX11_100 ?_
        refine j_callVI C (As := [.int ((-100006 : Int32))]) dX11_came_44 (CX11_finds l M hD v0 h0 (-100006 : Int32) s_24) vv_RX11_101 h0 (by decide) rfl rfl ⟨rfl, rfl⟩ (by decide) (Nat.le_of_ble_eq_true rfl) ⟨Nat.zero_le _, Nat.zero_le _⟩ (fun r_44 s_44 => ?_)
        refine j_goto C (tgt := 61) dX11_came_47 (by decide) ?_
        exact j_iret C dX11_came_61
    · refine j_aload_n C dX11_came_16 rfl ?_
      refine j_ldc C dX11_came_17 lc_RX11_118 ?_
      refine j_callVI C (As := [.int ((-100001 : Int32))]) dX11_came_19 (CX11_finds l M hD v0 h0 (-100001 : Int32) s_10) vv_RX11_101 h0 (by decide) rfl rfl ⟨rfl, rfl⟩ (by decide) (Nat.le_of_ble_eq_true rfl) ⟨Nat.zero_le _, Nat.zero_le _⟩ (fun r_19 s_19 => ?_)
      exact j_iret C dX11_came_22
set_option maxRecDepth 20000 in
set_option maxHeartbeats 4000000 in
theorem CX11_left (l : Launch) (M : Mc) (hD : Dj M) (v0 : Nat) (h0 : isK v0 11) (v1 : Int32) (v2 : Int32) (σ : Sg) : Ct l M yX11_left cX11_left 3 (some .int) { frames := 7, cells := 0, slots := 0, locals := 156 } vI [.ref (adr M v0), .int v1, .int v2] σ (fX11_left v0 v1 v2 σ) := by
  refine ct_of (l := l) hD (by decide) (Nat.le_of_ble_eq_true rfl) ?_
  intro p e s m args below meth c C
  unfold fX11_left
  refine j_aload_n C dX11_left_0 rfl ?_
  refine j_iload_n C dX11_left_1 rfl ?_
  refine j_callVI C (As := [.int v1]) dX11_left_2 (CX11_isTrain l M hD v0 h0 v1 σ) vv_RX11_133 h0 (by decide) rfl rfl ⟨rfl, rfl⟩ (by decide) (Nat.le_of_ble_eq_true rfl) ⟨Nat.zero_le _, Nat.zero_le _⟩ (fun r_2 s_2 => ?_)
  refine j_if_eq C (tgt := 16) dX11_left_5 (by decide) ?_ ?_
  · refine j_aload_n C dX11_left_16 rfl ?_
    refine j_ldc C dX11_left_17 lc_RX11_118 ?_
    refine j_callVI C (As := [.int ((-100001 : Int32))]) dX11_left_19 (CX11_finds l M hD v0 h0 (-100001 : Int32) s_2) vv_RX11_101 h0 (by decide) rfl rfl ⟨rfl, rfl⟩ (by decide) (Nat.le_of_ble_eq_true rfl) ⟨Nat.zero_le _, Nat.zero_le _⟩ (fun r_19 s_19 => ?_)
    exact j_iret C dX11_left_22
  · refine j_aload_n C dX11_left_8 rfl ?_
    refine j_iload_n C dX11_left_9 rfl ?_
    refine j_callVI C (As := [.int v2]) dX11_left_10 (CX11_isStation l M hD v0 h0 v2 s_2) vv_RX11_127 h0 (by decide) rfl rfl ⟨rfl, rfl⟩ (by decide) (Nat.le_of_ble_eq_true rfl) ⟨Nat.zero_le _, Nat.zero_le _⟩ (fun r_10 s_10 => ?_)
    refine j_if_ne C (tgt := 23) dX11_left_13 (by decide) ?_ ?_
    · refine j_aload_n C dX11_left_23 rfl ?_
      refine j_callVv C (As := []) dX11_left_24 (CX11_runsAsItIs l M hD v0 h0 s_10) vv_RX11_280 h0 (by decide) rfl rfl ⟨rfl, rfl⟩ (by decide) (Nat.le_of_ble_eq_true rfl) ⟨Nat.zero_le _, Nat.zero_le _⟩ (fun r_24 s_24 => ?_)
      refine j_aload_n C dX11_left_27 rfl ?_
      refine j_getR C dX11_left_28 fl_RX11_50 h0 (by decide) rfl rfl (by decide) (fun h_28 => ?_)
      refine j_bipush C (v := (7 : Int32)) dX11_left_31 (by decide) ?_
      refine j_iload_n C dX11_left_33 rfl ?_
      refine j_imul C dX11_left_34 ?_
      refine j_iload_n C dX11_left_35 rfl ?_
      refine j_iadd C dX11_left_36 ?_
      refine j_iald C dX11_left_37 h_28 ?_
      refine j_if_ge C (tgt := 50) dX11_left_38 (by decide) ?_ ?_
      · refine j_aload_n C dX11_left_50 rfl ?_
        refine j_getR C dX11_left_51 fl_RX11_50 h0 (by decide) rfl rfl (by decide) (fun h_51 => ?_)
        refine j_bipush C (v := (7 : Int32)) dX11_left_54 (by decide) ?_
        refine j_iload_n C dX11_left_56 rfl ?_
        refine j_imul C dX11_left_57 ?_
        refine j_iload_n C dX11_left_58 rfl ?_
        refine j_iadd C dX11_left_59 ?_
        refine j_iald C dX11_left_60 h_51 ?_
        exact j_iret C dX11_left_61
      · refine j_aload_n C dX11_left_41 rfl ?_
        refine j_ldc C dX11_left_42 lc_RX11_100 ?_
        refine j_callVI C (As := [.int ((-100006 : Int32))]) dX11_left_44 (CX11_finds l M hD v0 h0 (-100006 : Int32) s_24) vv_RX11_101 h0 (by decide) rfl rfl ⟨rfl, rfl⟩ (by decide) (Nat.le_of_ble_eq_true rfl) ⟨Nat.zero_le _, Nat.zero_le _⟩ (fun r_44 s_44 => ?_)
        refine j_goto C (tgt := 61) dX11_left_47 (by decide) ?_
        exact j_iret C dX11_left_61
    · refine j_aload_n C dX11_left_16 rfl ?_
      refine j_ldc C dX11_left_17 lc_RX11_118 ?_
      refine j_callVI C (As := [.int ((-100001 : Int32))]) dX11_left_19 (CX11_finds l M hD v0 h0 (-100001 : Int32) s_10) vv_RX11_101 h0 (by decide) rfl rfl ⟨rfl, rfl⟩ (by decide) (Nat.le_of_ble_eq_true rfl) ⟨Nat.zero_le _, Nat.zero_le _⟩ (fun r_19 s_19 => ?_)
      exact j_iret C dX11_left_22
set_option maxRecDepth 20000 in
set_option maxHeartbeats 4000000 in
theorem CX11_why (l : Launch) (M : Mc) (hD : Dj M) (v0 : Nat) (h0 : isK v0 11) (v1 : Int32) (v2 : Int32) (σ : Sg) : Ct l M yX11_why cX11_why 4 (some .int) { frames := 7, cells := 0, slots := 0, locals := 156 } vI [.ref (adr M v0), .int v1, .int v2] σ (fX11_why v0 v1 v2 σ) := by
  refine ct_of (l := l) hD (by decide) (Nat.le_of_ble_eq_true rfl) ?_
  intro p e s m args below meth c C
  unfold fX11_why
  refine j_aload_n C dX11_why_0 rfl ?_
  refine j_iload_n C dX11_why_1 rfl ?_
  refine j_callVI C (As := [.int v1]) dX11_why_2 (CX11_isTrain l M hD v0 h0 v1 σ) vv_RX11_133 h0 (by decide) rfl rfl ⟨rfl, rfl⟩ (by decide) (Nat.le_of_ble_eq_true rfl) ⟨Nat.zero_le _, Nat.zero_le _⟩ (fun r_2 s_2 => ?_)
  refine j_if_eq C (tgt := 15) dX11_why_5 (by decide) ?_ ?_
  · refine j_aload_n C dX11_why_15 rfl ?_
    refine j_ldc C dX11_why_16 lc_RX11_118 ?_
    refine j_callVI C (As := [.int ((-100001 : Int32))]) dX11_why_18 (CX11_finds l M hD v0 h0 (-100001 : Int32) s_2) vv_RX11_101 h0 (by decide) rfl rfl ⟨rfl, rfl⟩ (by decide) (Nat.le_of_ble_eq_true rfl) ⟨Nat.zero_le _, Nat.zero_le _⟩ (fun r_18 s_18 => ?_)
    exact j_iret C dX11_why_21
  · refine j_iload_n C dX11_why_8 rfl ?_
    refine j_callSI C (As := [.int v2]) dX11_why_9 (CX11_isMinute l M hD v2 s_2) vs_RX11_175 rfl rfl ⟨rfl, rfl⟩ (by decide) (Nat.le_of_ble_eq_true rfl) ⟨Nat.zero_le _, Nat.zero_le _⟩ (fun r_9 s_9 => ?_)
    refine j_if_ne C (tgt := 22) dX11_why_12 (by decide) ?_ ?_
    · refine j_aload_n C dX11_why_22 rfl ?_
      refine j_callVv C (As := []) dX11_why_23 (CX11_runsAsItIs l M hD v0 h0 s_9) vv_RX11_280 h0 (by decide) rfl rfl ⟨rfl, rfl⟩ (by decide) (Nat.le_of_ble_eq_true rfl) ⟨Nat.zero_le _, Nat.zero_le _⟩ (fun r_23 s_23 => ?_)
      refine j_aload_n C dX11_why_26 rfl ?_
      refine j_getR C dX11_why_27 fl_RX11_59 h0 (by decide) rfl rfl (by decide) (fun h_27 => ?_)
      refine j_sipush C (v := (501 : Int32)) dX11_why_30 (by decide) ?_
      refine j_iload_n C dX11_why_33 rfl ?_
      refine j_imul C dX11_why_34 ?_
      refine j_iload_n C dX11_why_35 rfl ?_
      refine j_iadd C dX11_why_36 ?_
      refine j_iald C dX11_why_37 h_27 ?_
      refine j_istore_n C (Ls' := fun v3_38 => [(3, .int v3_38), (0, .ref (adr M v0)), (1, .int v1), (2, .int v2)]) dX11_why_38 (by decide) (fun _ => rfl) (fun v3_38 => ?_)
      refine j_iload_n C dX11_why_39 rfl ?_
      refine j_ldc C dX11_why_40 lc_RX11_100 ?_
      refine j_icmp_ne C (tgt := 54) dX11_why_42 (by decide) ?_ ?_
      · refine j_iload_n C dX11_why_54 rfl ?_
        exact j_iret C dX11_why_55
      · refine j_aload_n C dX11_why_45 rfl ?_
        refine j_ldc C dX11_why_46 lc_RX11_100 ?_
        refine j_callVI C (As := [.int ((-100006 : Int32))]) dX11_why_48 (CX11_finds l M hD v0 h0 (-100006 : Int32) s_23) vv_RX11_101 h0 (by decide) rfl rfl ⟨rfl, rfl⟩ (by decide) (Nat.le_of_ble_eq_true rfl) ⟨Nat.zero_le _, Nat.zero_le _⟩ (fun r_48 s_48 => ?_)
        refine j_goto C (tgt := 55) dX11_why_51 (by decide) ?_
        exact j_iret C dX11_why_55
    · refine j_aload_n C dX11_why_15 rfl ?_
      refine j_ldc C dX11_why_16 lc_RX11_118 ?_
      refine j_callVI C (As := [.int ((-100001 : Int32))]) dX11_why_18 (CX11_finds l M hD v0 h0 (-100001 : Int32) s_9) vv_RX11_101 h0 (by decide) rfl rfl ⟨rfl, rfl⟩ (by decide) (Nat.le_of_ble_eq_true rfl) ⟨Nat.zero_le _, Nat.zero_le _⟩ (fun r_18 s_18 => ?_)
      exact j_iret C dX11_why_21
set_option maxRecDepth 20000 in
set_option maxHeartbeats 4000000 in
theorem CX11_heads (l : Launch) (M : Mc) (hD : Dj M) (v0 : Nat) (h0 : isK v0 11) (σ : Sg) : Ct l M yX11_heads cX11_heads 1 (some .int) { frames := 7, cells := 0, slots := 0, locals := 156 } vI [.ref (adr M v0)] σ (fX11_heads v0 σ) := by
  refine ct_of (l := l) hD (by decide) (Nat.le_of_ble_eq_true rfl) ?_
  intro p e s m args below meth c C
  unfold fX11_heads
  refine j_aload_n C dX11_heads_0 rfl ?_
  refine j_callVv C (As := []) dX11_heads_1 (CX11_runsAsItIs l M hD v0 h0 σ) vv_RX11_280 h0 (by decide) rfl rfl ⟨rfl, rfl⟩ (by decide) (Nat.le_of_ble_eq_true rfl) ⟨Nat.zero_le _, Nat.zero_le _⟩ (fun r_1 s_1 => ?_)
  refine j_aload_n C dX11_heads_4 rfl ?_
  refine j_getI C dX11_heads_5 fl_RX11_182 h0 (by decide) rfl ?_
  exact j_iret C dX11_heads_8
set_option maxRecDepth 20000 in
set_option maxHeartbeats 4000000 in
theorem CX11_head (l : Launch) (M : Mc) (hD : Dj M) (v0 : Nat) (h0 : isK v0 11) (v1 : Int32) (σ : Sg) : Ct l M yX11_head cX11_head 2 (some .int) { frames := 7, cells := 0, slots := 0, locals := 156 } vI [.ref (adr M v0), .int v1] σ (fX11_head v0 v1 σ) := by
  refine ct_of (l := l) hD (by decide) (Nat.le_of_ble_eq_true rfl) ?_
  intro p e s m args below meth c C
  unfold fX11_head
  refine j_aload_n C dX11_head_0 rfl ?_
  refine j_callVv C (As := []) dX11_head_1 (CX11_runsAsItIs l M hD v0 h0 σ) vv_RX11_280 h0 (by decide) rfl rfl ⟨rfl, rfl⟩ (by decide) (Nat.le_of_ble_eq_true rfl) ⟨Nat.zero_le _, Nat.zero_le _⟩ (fun r_1 s_1 => ?_)
  refine j_aload_n C dX11_head_4 rfl ?_
  refine j_getI C dX11_head_5 fl_RX11_182 h0 (by decide) rfl ?_
  refine j_if_ne C (tgt := 18) dX11_head_8 (by decide) ?_ ?_
  · refine j_iload_n C dX11_head_18 rfl ?_
    refine j_cases (fun hq19_0 => ?_) (fun hq19_0 => ?_)
    · refine j_tabIn C dX11_head_19 (tgt := 48) hq19_0 (by decide) (by decide) rfl (by decide) ?_
      refine j_aload_n C dX11_head_48 rfl ?_
      refine j_getI C dX11_head_49 fl_RX11_243 h0 (by decide) rfl ?_
      exact j_iret C dX11_head_52
    · refine j_cases (fun hq19_1 => ?_) (fun hq19_1 => ?_)
      · refine j_tabIn C dX11_head_19 (tgt := 53) hq19_1 (by decide) (by decide) rfl (by decide) ?_
        refine j_aload_n C dX11_head_53 rfl ?_
        refine j_getI C dX11_head_54 fl_RX11_246 h0 (by decide) rfl ?_
        exact j_iret C dX11_head_57
      · refine j_cases (fun hq19_2 => ?_) (fun hq19_2 => ?_)
        · refine j_tabIn C dX11_head_19 (tgt := 58) hq19_2 (by decide) (by decide) rfl (by decide) ?_
          refine j_aload_n C dX11_head_58 rfl ?_
          refine j_getI C dX11_head_59 fl_RX11_249 h0 (by decide) rfl ?_
          exact j_iret C dX11_head_62
        · refine j_cases (fun hq19_3 => ?_) (fun hq19_3 => ?_)
          · refine j_tabIn C dX11_head_19 (tgt := 63) hq19_3 (by decide) (by decide) rfl (by decide) ?_
            refine j_aload_n C dX11_head_63 rfl ?_
            refine j_getI C dX11_head_64 fl_RX11_252 h0 (by decide) rfl ?_
            exact j_iret C dX11_head_67
          · refine j_tabOut C dX11_head_19 (tgt := 68) (by have hq19_0 := i_ne hq19_0; have hq19_1 := i_ne hq19_1; have hq19_2 := i_ne hq19_2; have hq19_3 := i_ne hq19_3; simp only [show ((0 : Int32)).toInt = 0 from rfl, show ((1 : Int32)).toInt = 1 from rfl, show ((2 : Int32)).toInt = 2 from rfl, show ((3 : Int32)).toInt = 3 from rfl] at *; omega) (by decide) ?_
            refine j_aload_n C dX11_head_68 rfl ?_
            refine j_ldc C dX11_head_69 lc_RX11_118 ?_
            refine j_callVI C (As := [.int ((-100001 : Int32))]) dX11_head_71 (CX11_finds l M hD v0 h0 (-100001 : Int32) s_1) vv_RX11_101 h0 (by decide) rfl rfl ⟨rfl, rfl⟩ (by decide) (Nat.le_of_ble_eq_true rfl) ⟨Nat.zero_le _, Nat.zero_le _⟩ (fun r_71 s_71 => ?_)
            exact j_iret C dX11_head_74
  · refine j_aload_n C dX11_head_11 rfl ?_
    refine j_ldc C dX11_head_12 lc_RX11_100 ?_
    refine j_callVI C (As := [.int ((-100006 : Int32))]) dX11_head_14 (CX11_finds l M hD v0 h0 (-100006 : Int32) s_1) vv_RX11_101 h0 (by decide) rfl rfl ⟨rfl, rfl⟩ (by decide) (Nat.le_of_ble_eq_true rfl) ⟨Nat.zero_le _, Nat.zero_le _⟩ (fun r_14 s_14 => ?_)
    exact j_iret C dX11_head_17
