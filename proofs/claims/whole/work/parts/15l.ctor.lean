theorem ff_2_0 : FSF RX2 2 0 (tyX2 0) := ⟨RX2, TX2, 3, tyX2, rfl, tyX2_ok, nmX2, rfl, by decide +kernel, rfl⟩
theorem nw_RX2_9 : NW RX2 9 3 6 [.null, .null, .null, .int 0, .null, .null] := ⟨RX3, TX3, tyX3, rfl, cw_X3, ⟨(mem_g 405 (by decide +kernel) (by decide)), (mem_g 111 (by decide +kernel) (by decide)), (mem_g 78 (by decide +kernel) (by decide))⟩, tyX3_ok, by decide +kernel⟩
theorem vi_RX2_24 : VB RX2 24 yX3_init cX3_init 1 none 0 := ⟨⟨(mem_g 114 (by decide +kernel) (by decide)), (mem_g 78 (by decide +kernel) (by decide)), (mem_g 407 (by decide +kernel) (by decide))⟩, by decide, by decide, by decide +kernel⟩
theorem shb_2_0 : ((List.range NC).all fun c => decide (kd c = 2 → (c + 306 ≤ NC ∧ kd (c + 2) = 3 ∧ kd (c + 21) = 3 ∧ kd (c + 40) = 3 ∧ kd (c + 59) = 3 ∧ kd (c + 78) = 3 ∧ kd (c + 97) = 3 ∧ kd (c + 116) = 3 ∧ kd (c + 135) = 3 ∧ kd (c + 154) = 3 ∧ kd (c + 173) = 3 ∧ kd (c + 192) = 3))) = true := by decide +kernel
theorem shc_2_0 {c : Nat} (h : isK c 2) : c + 306 ≤ NC ∧ kd (c + 2) = 3 ∧ kd (c + 21) = 3 ∧ kd (c + 40) = 3 ∧ kd (c + 59) = 3 ∧ kd (c + 78) = 3 ∧ kd (c + 97) = 3 ∧ kd (c + 116) = 3 ∧ kd (c + 135) = 3 ∧ kd (c + 154) = 3 ∧ kd (c + 173) = 3 ∧ kd (c + 192) = 3 := of_decide_eq_true (List.all_eq_true.mp shb_2_0 c (List.mem_range.mpr h.1)) h.2
theorem shb_2_12 : ((List.range NC).all fun c => decide (kd c = 2 → (kd (c + 211) = 3 ∧ kd (c + 230) = 3 ∧ kd (c + 249) = 3 ∧ kd (c + 268) = 3 ∧ kd (c + 287) = 3 ∧ rf c 0 = c + 1 ∧ obT.getD c [] = [0, 0, 0] ∧ (kd (c + 1) = 16 ∧ ln (c + 1) = 16) ∧ rf (c + 1) 0 = c + 2 ∧ rf (c + 1) 1 = c + 21 ∧ rf (c + 1) 2 = c + 40 ∧ rf (c + 1) 3 = c + 59))) = true := by decide +kernel
theorem shc_2_12 {c : Nat} (h : isK c 2) : kd (c + 211) = 3 ∧ kd (c + 230) = 3 ∧ kd (c + 249) = 3 ∧ kd (c + 268) = 3 ∧ kd (c + 287) = 3 ∧ rf c 0 = c + 1 ∧ obT.getD c [] = [0, 0, 0] ∧ (kd (c + 1) = 16 ∧ ln (c + 1) = 16) ∧ rf (c + 1) 0 = c + 2 ∧ rf (c + 1) 1 = c + 21 ∧ rf (c + 1) 2 = c + 40 ∧ rf (c + 1) 3 = c + 59 := of_decide_eq_true (List.all_eq_true.mp shb_2_12 c (List.mem_range.mpr h.1)) h.2
theorem shb_2_24 : ((List.range NC).all fun c => decide (kd c = 2 → (rf (c + 1) 4 = c + 78 ∧ rf (c + 1) 5 = c + 97 ∧ rf (c + 1) 6 = c + 116 ∧ rf (c + 1) 7 = c + 135 ∧ rf (c + 1) 8 = c + 154 ∧ rf (c + 1) 9 = c + 173 ∧ rf (c + 1) 10 = c + 192 ∧ rf (c + 1) 11 = c + 211 ∧ rf (c + 1) 12 = c + 230 ∧ rf (c + 1) 13 = c + 249 ∧ rf (c + 1) 14 = c + 268 ∧ rf (c + 1) 15 = c + 287))) = true := by decide +kernel
theorem shc_2_24 {c : Nat} (h : isK c 2) : rf (c + 1) 4 = c + 78 ∧ rf (c + 1) 5 = c + 97 ∧ rf (c + 1) 6 = c + 116 ∧ rf (c + 1) 7 = c + 135 ∧ rf (c + 1) 8 = c + 154 ∧ rf (c + 1) 9 = c + 173 ∧ rf (c + 1) 10 = c + 192 ∧ rf (c + 1) 11 = c + 211 ∧ rf (c + 1) 12 = c + 230 ∧ rf (c + 1) 13 = c + 249 ∧ rf (c + 1) 14 = c + 268 ∧ rf (c + 1) 15 = c + 287 := of_decide_eq_true (List.all_eq_true.mp shb_2_24 c (List.mem_range.mpr h.1)) h.2
theorem sh_2_0 {c : Nat} (h : isK c 2) : c + 306 ≤ NC := (shc_2_0 h).1
theorem sh_2_1 {c : Nat} (h : isK c 2) : kd (c + 2) = 3 := (shc_2_0 h).2.1
theorem sh_2_2 {c : Nat} (h : isK c 2) : kd (c + 21) = 3 := (shc_2_0 h).2.2.1
theorem sh_2_3 {c : Nat} (h : isK c 2) : kd (c + 40) = 3 := (shc_2_0 h).2.2.2.1
theorem sh_2_4 {c : Nat} (h : isK c 2) : kd (c + 59) = 3 := (shc_2_0 h).2.2.2.2.1
theorem sh_2_5 {c : Nat} (h : isK c 2) : kd (c + 78) = 3 := (shc_2_0 h).2.2.2.2.2.1
theorem sh_2_6 {c : Nat} (h : isK c 2) : kd (c + 97) = 3 := (shc_2_0 h).2.2.2.2.2.2.1
theorem sh_2_7 {c : Nat} (h : isK c 2) : kd (c + 116) = 3 := (shc_2_0 h).2.2.2.2.2.2.2.1
theorem sh_2_8 {c : Nat} (h : isK c 2) : kd (c + 135) = 3 := (shc_2_0 h).2.2.2.2.2.2.2.2.1
theorem sh_2_9 {c : Nat} (h : isK c 2) : kd (c + 154) = 3 := (shc_2_0 h).2.2.2.2.2.2.2.2.2.1
theorem sh_2_10 {c : Nat} (h : isK c 2) : kd (c + 173) = 3 := (shc_2_0 h).2.2.2.2.2.2.2.2.2.2.1
theorem sh_2_11 {c : Nat} (h : isK c 2) : kd (c + 192) = 3 := (shc_2_0 h).2.2.2.2.2.2.2.2.2.2.2
theorem sh_2_12 {c : Nat} (h : isK c 2) : kd (c + 211) = 3 := (shc_2_12 h).1
theorem sh_2_13 {c : Nat} (h : isK c 2) : kd (c + 230) = 3 := (shc_2_12 h).2.1
theorem sh_2_14 {c : Nat} (h : isK c 2) : kd (c + 249) = 3 := (shc_2_12 h).2.2.1
theorem sh_2_15 {c : Nat} (h : isK c 2) : kd (c + 268) = 3 := (shc_2_12 h).2.2.2.1
theorem sh_2_16 {c : Nat} (h : isK c 2) : kd (c + 287) = 3 := (shc_2_12 h).2.2.2.2.1
theorem sh_2_17 {c : Nat} (h : isK c 2) : rf c 0 = c + 1 := (shc_2_12 h).2.2.2.2.2.1
theorem sh_2_18 {c : Nat} (h : isK c 2) : obT.getD c [] = [0, 0, 0] := (shc_2_12 h).2.2.2.2.2.2.1
theorem sh_2_19 {c : Nat} (h : isK c 2) : (kd (c + 1) = 16 ∧ ln (c + 1) = 16) := (shc_2_12 h).2.2.2.2.2.2.2.1
theorem sh_2_20 {c : Nat} (h : isK c 2) : rf (c + 1) 0 = c + 2 := (shc_2_12 h).2.2.2.2.2.2.2.2.1
theorem sh_2_21 {c : Nat} (h : isK c 2) : rf (c + 1) 1 = c + 21 := (shc_2_12 h).2.2.2.2.2.2.2.2.2.1
theorem sh_2_22 {c : Nat} (h : isK c 2) : rf (c + 1) 2 = c + 40 := (shc_2_12 h).2.2.2.2.2.2.2.2.2.2.1
theorem sh_2_23 {c : Nat} (h : isK c 2) : rf (c + 1) 3 = c + 59 := (shc_2_12 h).2.2.2.2.2.2.2.2.2.2.2
theorem sh_2_24 {c : Nat} (h : isK c 2) : rf (c + 1) 4 = c + 78 := (shc_2_24 h).1
theorem sh_2_25 {c : Nat} (h : isK c 2) : rf (c + 1) 5 = c + 97 := (shc_2_24 h).2.1
theorem sh_2_26 {c : Nat} (h : isK c 2) : rf (c + 1) 6 = c + 116 := (shc_2_24 h).2.2.1
theorem sh_2_27 {c : Nat} (h : isK c 2) : rf (c + 1) 7 = c + 135 := (shc_2_24 h).2.2.2.1
theorem sh_2_28 {c : Nat} (h : isK c 2) : rf (c + 1) 8 = c + 154 := (shc_2_24 h).2.2.2.2.1
theorem sh_2_29 {c : Nat} (h : isK c 2) : rf (c + 1) 9 = c + 173 := (shc_2_24 h).2.2.2.2.2.1
theorem sh_2_30 {c : Nat} (h : isK c 2) : rf (c + 1) 10 = c + 192 := (shc_2_24 h).2.2.2.2.2.2.1
theorem sh_2_31 {c : Nat} (h : isK c 2) : rf (c + 1) 11 = c + 211 := (shc_2_24 h).2.2.2.2.2.2.2.1
theorem sh_2_32 {c : Nat} (h : isK c 2) : rf (c + 1) 12 = c + 230 := (shc_2_24 h).2.2.2.2.2.2.2.2.1
theorem sh_2_33 {c : Nat} (h : isK c 2) : rf (c + 1) 13 = c + 249 := (shc_2_24 h).2.2.2.2.2.2.2.2.2.1
theorem sh_2_34 {c : Nat} (h : isK c 2) : rf (c + 1) 14 = c + 268 := (shc_2_24 h).2.2.2.2.2.2.2.2.2.2.1
theorem sh_2_35 {c : Nat} (h : isK c 2) : rf (c + 1) 15 = c + 287 := (shc_2_24 h).2.2.2.2.2.2.2.2.2.2.2
set_option maxRecDepth 100000 in
set_option maxHeartbeats 4000000 in
theorem KX2_init (l : Launch) (M : Mc) (hE : Ex M) (c : Nat) (hc : isK c 2) (cf : Nat → va_E) (hz : cf c = .inr (2, [.null, .int 0, .int 0])) : CtC l M yX2_init cX2_init 2 { frames := 3, cells := 305, slots := 3088, locals := 70 } 305 3088 [.ref (adr M c)] (c + 1) cf (c + 306) (mix M c cf) := by
  have hh0 := sh_2_0 hc
  have hi1 : sg0 c 1 = (0 : Int32) := by rw [sg0_obj hc.2 (by decide) (sh_2_18 hc)]; rfl
  have hi2 : sg0 c 2 = (0 : Int32) := by rw [sg0_obj hc.2 (by decide) (sh_2_18 hc)]; rfl
  have hself : celX M sg0 c = .inr (2, [.ref (adr M (c + 1)), .int (0 : Int32), .int (0 : Int32)]) := by
    rw [celX_obj hc.2 (by decide), mp_eq]
    show (Sum.inr (2, [.ref (adr M (rf c 0)), .int (sg0 c 1), .int (sg0 c 2)]) : va_E) = _
    rw [hi1, hi2, (sh_2_17 hc)]
  have hov : (.inl (M.2.1 16, 16, .inr (.inr (.inr (.inr (va_up (va_up (va_up (va_up (va_up (va_up (va_up (va_up (va_up (va_up (va_up (va_up (va_up (va_up (va_up (va_up (fun _ => none) 0 (some (adr M (c + 2)))) 1 (some (adr M (c + 21)))) 2 (some (adr M (c + 40)))) 3 (some (adr M (c + 59)))) 4 (some (adr M (c + 78)))) 5 (some (adr M (c + 97)))) 6 (some (adr M (c + 116)))) 7 (some (adr M (c + 135)))) 8 (some (adr M (c + 154)))) 9 (some (adr M (c + 173)))) 10 (some (adr M (c + 192)))) 11 (some (adr M (c + 211)))) 12 (some (adr M (c + 230)))) 13 (some (adr M (c + 249)))) 14 (some (adr M (c + 268)))) 15 (some (adr M (c + 287)))))))) : va_E) = celX M sg0 (c + 1) := (by
    rw [celX_rarr (sh_2_19 hc) (by decide)]
    refine congrArg (fun z => Sum.inl (M.2.1 16, 16, Sum.inr (Sum.inr (Sum.inr (Sum.inr z))))) (funext fun i => ?_)
    rcases Nat.lt_or_ge i 16 with hi | hi
    · rw [if_pos hi]
      match i, hi with
      | 0, _ => rw [(sh_2_20 hc)]; simp [va_up]
      | 1, _ => rw [(sh_2_21 hc)]; simp [va_up]
      | 2, _ => rw [(sh_2_22 hc)]; simp [va_up]
      | 3, _ => rw [(sh_2_23 hc)]; simp [va_up]
      | 4, _ => rw [(sh_2_24 hc)]; simp [va_up]
      | 5, _ => rw [(sh_2_25 hc)]; simp [va_up]
      | 6, _ => rw [(sh_2_26 hc)]; simp [va_up]
      | 7, _ => rw [(sh_2_27 hc)]; simp [va_up]
      | 8, _ => rw [(sh_2_28 hc)]; simp [va_up]
      | 9, _ => rw [(sh_2_29 hc)]; simp [va_up]
      | 10, _ => rw [(sh_2_30 hc)]; simp [va_up]
      | 11, _ => rw [(sh_2_31 hc)]; simp [va_up]
      | 12, _ => rw [(sh_2_32 hc)]; simp [va_up]
      | 13, _ => rw [(sh_2_33 hc)]; simp [va_up]
      | 14, _ => rw [(sh_2_34 hc)]; simp [va_up]
      | 15, _ => rw [(sh_2_35 hc)]; simp [va_up]
      | i + 16, hi => omega
    · rw [if_neg (by omega)]
      simp only [va_up]
      rw [if_neg (by omega), if_neg (by omega), if_neg (by omega), if_neg (by omega), if_neg (by omega), if_neg (by omega), if_neg (by omega), if_neg (by omega), if_neg (by omega), if_neg (by omega), if_neg (by omega), if_neg (by omega), if_neg (by omega), if_neg (by omega), if_neg (by omega), if_neg (by omega)])
  refine ctc_of (l := l) hE.Dj (by decide) (Nat.le_of_ble_eq_true rfl) ?_
  intro p e s m args below meth cd C hin hsz hAO
  refine jc_congr (cg := W0 c cf 2 [.null, .int 0, .int 0] (celX M sg0)) (ent0 hz) ?_
  refine jc_aload_n C dX2_init_0 rfl ?_
  refine jc_obj C dX2_init_1 (mem_g 404 (by decide +kernel) (by decide)) lo_1 lo_2 (by decide) (Nat.le_of_ble_eq_true rfl) ?_
  refine jc_aload_n C dX2_init_4 rfl ?_
  refine jc_bipush C (v := (16 : Int32)) dX2_init_5 (by decide) ?_
  refine jc_anew C hE (k := 16) (N := 16) (t0 := 4) dX2_init_7 (mem_g 405 (by decide +kernel) (by decide)) hAO.1 rfl (by omega) (hE.at hsz (by omega)) (by decide) (by decide) (by decide) ⟨by decide, by decide⟩ ?_
  refine jc_n (n2 := c + 2) (by omega) ?_
  refine jc_congr (cg := W0 c cf 2 [.null, .int 0, .int 0] (va_up (celX M sg0) (c + 1) (.inl (M.2.1 16, 16, .inr (.inr (.inr (.inr fun _ => none))))))) (up_b (by omega) _) ?_
  refine jc_putF C (fs2 := [.ref (adr M (c + 1)), .int 0, .int 0]) dX2_init_10 fl_RX2_11 ff_2_0 hin (by omega) (by omega) (Nat.le_of_ble_eq_true rfl) rfl rfl rfl ?_
  refine jc_aload_n C dX2_init_13 rfl ?_
  refine jc_iconst C (v := (0 : Int32)) dX2_init_14 (by decide) ?_
  refine jc_put C (fs2 := [.ref (adr M (c + 1)), .int (0 : Int32), .int 0]) dX2_init_15 fl_RX2_17 fs_2_1 (by omega) (by omega) (Nat.le_of_ble_eq_true rfl) rfl rfl rfl ?_
  refine jc_aload_n C dX2_init_18 rfl ?_
  refine jc_iconst C (v := (0 : Int32)) dX2_init_19 (by decide) ?_
  refine jc_put C (fs2 := [.ref (adr M (c + 1)), .int (0 : Int32), .int (0 : Int32)]) dX2_init_20 fl_RX2_21 fs_2_2 (by omega) (by omega) (Nat.le_of_ble_eq_true rfl) rfl rfl rfl ?_
  refine jc_iconst C (v := (0 : Int32)) dX2_init_23 (by decide) ?_
  refine jc_istore_n C (Ls' := [(1, .int (0 : Int32)), (0, .ref (adr M c))]) dX2_init_24 (by decide) rfl ?_
  refine jc_iload_n C dX2_init_25 rfl ?_
  refine jc_bipush C (v := (16 : Int32)) dX2_init_26 (by decide) ?_
  refine jc_ge_f C (tgt := 50) dX2_init_28 (by decide) (by decide) ?_
  refine jc_aload_n C dX2_init_31 rfl ?_
  refine jc_get C (v := .ref (adr M (c + 1))) dX2_init_32 fl_RX2_11 (by omega) W0_self rfl ?_
  refine jc_iload_n C dX2_init_35 rfl ?_
  refine jc_new C hE dX2_init_36 nw_RX2_9 (by omega) (hE.at hsz (by omega)) ⟨by decide, by decide⟩ ?_
  refine jc_n (n2 := c + 3) (by omega) ?_
  refine jc_congr (cg := W0 c cf 2 [.ref (adr M (c + 1)), .int (0 : Int32), .int (0 : Int32)] (va_up (va_up (celX M sg0) (c + 1) (.inl (M.2.1 16, 16, .inr (.inr (.inr (.inr fun _ => none)))))) (c + 2) (.inr (3, [.null, .null, .null, .int 0, .null, .null])))) (up_b (by omega) _) ?_
  refine jc_dup C dX2_init_39 rfl ?_
  refine jc_init C hE hAO (As := []) dX2_init_40 (KX3_init l M hE (c + 2) ⟨by omega, (sh_2_1 hc)⟩ _ (by rw [W0_hi (by omega)]; simp [va_up])) vi_RX2_24 ⟨rfl, (mem_g 113 (by decide +kernel) (by decide))⟩ rfl rfl ⟨rfl, rfl⟩ (by decide) (Nat.le_of_ble_eq_true rfl) ⟨by decide, by decide⟩ (by omega) (hE.at hsz (by omega)) ?_
  refine jc_n (n2 := c + 21) (by omega) ?_
  refine jc_congr (cg := W0 c cf 2 [.ref (adr M (c + 1)), .int (0 : Int32), .int (0 : Int32)] (va_up (celX M sg0) (c + 1) (.inl (M.2.1 16, 16, .inr (.inr (.inr (.inr fun _ => none))))))) (up_c (by omega) (fun q h1 h2 => by rw [va_up_ne _ _ (by omega)])) ?_
  refine jc_aast C (a := c + 1) (o := c + 2) (k := 16) (kk := 3) (N := 16) (f := fun _ => none) (t0 := 4) dX2_init_43 (by omega) (by omega) (by omega) ((W0_hi (by omega)).trans (by simp [va_up])) ((W0_hi (by omega)).trans ((va_up_ne _ _ (by omega)).trans (celX_obj (sh_2_1 hc) (by decide)))) rfl rfl (by decide) ?_
  refine jc_congr (cg := W0 c cf 2 [.ref (adr M (c + 1)), .int (0 : Int32), .int (0 : Int32)] (va_up (celX M sg0) (c + 1) (.inl (M.2.1 16, 16, .inr (.inr (.inr (.inr (va_up (fun _ => none) 0 (some (adr M (c + 2))))))))))) (up_d (by omega) _) ?_
  refine jc_iinc C (v := (1 : Int32)) (Ls' := [(1, .int (1 : Int32)), (0, .ref (adr M c))]) dX2_init_44 0 rfl (by decide) (by decide) rfl ?_
  refine jc_goto C (tgt := 25) dX2_init_47 (by decide) ?_
  refine jc_iload_n C dX2_init_25 rfl ?_
  refine jc_bipush C (v := (16 : Int32)) dX2_init_26 (by decide) ?_
  refine jc_ge_f C (tgt := 50) dX2_init_28 (by decide) (by decide) ?_
  refine jc_aload_n C dX2_init_31 rfl ?_
  refine jc_get C (v := .ref (adr M (c + 1))) dX2_init_32 fl_RX2_11 (by omega) W0_self rfl ?_
  refine jc_iload_n C dX2_init_35 rfl ?_
  refine jc_new C hE dX2_init_36 nw_RX2_9 (by omega) (hE.at hsz (by omega)) ⟨by decide, by decide⟩ ?_
  refine jc_n (n2 := c + 22) (by omega) ?_
  refine jc_congr (cg := W0 c cf 2 [.ref (adr M (c + 1)), .int (0 : Int32), .int (0 : Int32)] (va_up (va_up (celX M sg0) (c + 1) (.inl (M.2.1 16, 16, .inr (.inr (.inr (.inr (va_up (fun _ => none) 0 (some (adr M (c + 2)))))))))) (c + 21) (.inr (3, [.null, .null, .null, .int 0, .null, .null])))) (up_b (by omega) _) ?_
  refine jc_dup C dX2_init_39 rfl ?_
  refine jc_init C hE hAO (As := []) dX2_init_40 (KX3_init l M hE (c + 21) ⟨by omega, (sh_2_2 hc)⟩ _ (by rw [W0_hi (by omega)]; simp [va_up])) vi_RX2_24 ⟨rfl, (mem_g 113 (by decide +kernel) (by decide))⟩ rfl rfl ⟨rfl, rfl⟩ (by decide) (Nat.le_of_ble_eq_true rfl) ⟨by decide, by decide⟩ (by omega) (hE.at hsz (by omega)) ?_
  refine jc_n (n2 := c + 40) (by omega) ?_
  refine jc_congr (cg := W0 c cf 2 [.ref (adr M (c + 1)), .int (0 : Int32), .int (0 : Int32)] (va_up (celX M sg0) (c + 1) (.inl (M.2.1 16, 16, .inr (.inr (.inr (.inr (va_up (fun _ => none) 0 (some (adr M (c + 2))))))))))) (up_c (by omega) (fun q h1 h2 => by rw [va_up_ne _ _ (by omega)])) ?_
  refine jc_aast C (a := c + 1) (o := c + 21) (k := 16) (kk := 3) (N := 16) (f := va_up (fun _ => none) 0 (some (adr M (c + 2)))) (t0 := 4) dX2_init_43 (by omega) (by omega) (by omega) ((W0_hi (by omega)).trans (by simp [va_up])) ((W0_hi (by omega)).trans ((va_up_ne _ _ (by omega)).trans (celX_obj (sh_2_2 hc) (by decide)))) rfl rfl (by decide) ?_
  refine jc_congr (cg := W0 c cf 2 [.ref (adr M (c + 1)), .int (0 : Int32), .int (0 : Int32)] (va_up (celX M sg0) (c + 1) (.inl (M.2.1 16, 16, .inr (.inr (.inr (.inr (va_up (va_up (fun _ => none) 0 (some (adr M (c + 2)))) 1 (some (adr M (c + 21))))))))))) (up_d (by omega) _) ?_
  refine jc_iinc C (v := (2 : Int32)) (Ls' := [(1, .int (2 : Int32)), (0, .ref (adr M c))]) dX2_init_44 0 rfl (by decide) (by decide) rfl ?_
  refine jc_goto C (tgt := 25) dX2_init_47 (by decide) ?_
  refine jc_iload_n C dX2_init_25 rfl ?_
  refine jc_bipush C (v := (16 : Int32)) dX2_init_26 (by decide) ?_
  refine jc_ge_f C (tgt := 50) dX2_init_28 (by decide) (by decide) ?_
  refine jc_aload_n C dX2_init_31 rfl ?_
  refine jc_get C (v := .ref (adr M (c + 1))) dX2_init_32 fl_RX2_11 (by omega) W0_self rfl ?_
  refine jc_iload_n C dX2_init_35 rfl ?_
  refine jc_new C hE dX2_init_36 nw_RX2_9 (by omega) (hE.at hsz (by omega)) ⟨by decide, by decide⟩ ?_
  refine jc_n (n2 := c + 41) (by omega) ?_
  refine jc_congr (cg := W0 c cf 2 [.ref (adr M (c + 1)), .int (0 : Int32), .int (0 : Int32)] (va_up (va_up (celX M sg0) (c + 1) (.inl (M.2.1 16, 16, .inr (.inr (.inr (.inr (va_up (va_up (fun _ => none) 0 (some (adr M (c + 2)))) 1 (some (adr M (c + 21)))))))))) (c + 40) (.inr (3, [.null, .null, .null, .int 0, .null, .null])))) (up_b (by omega) _) ?_
  refine jc_dup C dX2_init_39 rfl ?_
  refine jc_init C hE hAO (As := []) dX2_init_40 (KX3_init l M hE (c + 40) ⟨by omega, (sh_2_3 hc)⟩ _ (by rw [W0_hi (by omega)]; simp [va_up])) vi_RX2_24 ⟨rfl, (mem_g 113 (by decide +kernel) (by decide))⟩ rfl rfl ⟨rfl, rfl⟩ (by decide) (Nat.le_of_ble_eq_true rfl) ⟨by decide, by decide⟩ (by omega) (hE.at hsz (by omega)) ?_
  refine jc_n (n2 := c + 59) (by omega) ?_
  refine jc_congr (cg := W0 c cf 2 [.ref (adr M (c + 1)), .int (0 : Int32), .int (0 : Int32)] (va_up (celX M sg0) (c + 1) (.inl (M.2.1 16, 16, .inr (.inr (.inr (.inr (va_up (va_up (fun _ => none) 0 (some (adr M (c + 2)))) 1 (some (adr M (c + 21))))))))))) (up_c (by omega) (fun q h1 h2 => by rw [va_up_ne _ _ (by omega)])) ?_
  refine jc_aast C (a := c + 1) (o := c + 40) (k := 16) (kk := 3) (N := 16) (f := va_up (va_up (fun _ => none) 0 (some (adr M (c + 2)))) 1 (some (adr M (c + 21)))) (t0 := 4) dX2_init_43 (by omega) (by omega) (by omega) ((W0_hi (by omega)).trans (by simp [va_up])) ((W0_hi (by omega)).trans ((va_up_ne _ _ (by omega)).trans (celX_obj (sh_2_3 hc) (by decide)))) rfl rfl (by decide) ?_
  refine jc_congr (cg := W0 c cf 2 [.ref (adr M (c + 1)), .int (0 : Int32), .int (0 : Int32)] (va_up (celX M sg0) (c + 1) (.inl (M.2.1 16, 16, .inr (.inr (.inr (.inr (va_up (va_up (va_up (fun _ => none) 0 (some (adr M (c + 2)))) 1 (some (adr M (c + 21)))) 2 (some (adr M (c + 40))))))))))) (up_d (by omega) _) ?_
  refine jc_iinc C (v := (3 : Int32)) (Ls' := [(1, .int (3 : Int32)), (0, .ref (adr M c))]) dX2_init_44 0 rfl (by decide) (by decide) rfl ?_
  refine jc_goto C (tgt := 25) dX2_init_47 (by decide) ?_
  refine jc_iload_n C dX2_init_25 rfl ?_
  refine jc_bipush C (v := (16 : Int32)) dX2_init_26 (by decide) ?_
  refine jc_ge_f C (tgt := 50) dX2_init_28 (by decide) (by decide) ?_
  refine jc_aload_n C dX2_init_31 rfl ?_
  refine jc_get C (v := .ref (adr M (c + 1))) dX2_init_32 fl_RX2_11 (by omega) W0_self rfl ?_
  refine jc_iload_n C dX2_init_35 rfl ?_
  refine jc_new C hE dX2_init_36 nw_RX2_9 (by omega) (hE.at hsz (by omega)) ⟨by decide, by decide⟩ ?_
  refine jc_n (n2 := c + 60) (by omega) ?_
  refine jc_congr (cg := W0 c cf 2 [.ref (adr M (c + 1)), .int (0 : Int32), .int (0 : Int32)] (va_up (va_up (celX M sg0) (c + 1) (.inl (M.2.1 16, 16, .inr (.inr (.inr (.inr (va_up (va_up (va_up (fun _ => none) 0 (some (adr M (c + 2)))) 1 (some (adr M (c + 21)))) 2 (some (adr M (c + 40)))))))))) (c + 59) (.inr (3, [.null, .null, .null, .int 0, .null, .null])))) (up_b (by omega) _) ?_
  refine jc_dup C dX2_init_39 rfl ?_
  refine jc_init C hE hAO (As := []) dX2_init_40 (KX3_init l M hE (c + 59) ⟨by omega, (sh_2_4 hc)⟩ _ (by rw [W0_hi (by omega)]; simp [va_up])) vi_RX2_24 ⟨rfl, (mem_g 113 (by decide +kernel) (by decide))⟩ rfl rfl ⟨rfl, rfl⟩ (by decide) (Nat.le_of_ble_eq_true rfl) ⟨by decide, by decide⟩ (by omega) (hE.at hsz (by omega)) ?_
  refine jc_n (n2 := c + 78) (by omega) ?_
  refine jc_congr (cg := W0 c cf 2 [.ref (adr M (c + 1)), .int (0 : Int32), .int (0 : Int32)] (va_up (celX M sg0) (c + 1) (.inl (M.2.1 16, 16, .inr (.inr (.inr (.inr (va_up (va_up (va_up (fun _ => none) 0 (some (adr M (c + 2)))) 1 (some (adr M (c + 21)))) 2 (some (adr M (c + 40))))))))))) (up_c (by omega) (fun q h1 h2 => by rw [va_up_ne _ _ (by omega)])) ?_
  refine jc_aast C (a := c + 1) (o := c + 59) (k := 16) (kk := 3) (N := 16) (f := va_up (va_up (va_up (fun _ => none) 0 (some (adr M (c + 2)))) 1 (some (adr M (c + 21)))) 2 (some (adr M (c + 40)))) (t0 := 4) dX2_init_43 (by omega) (by omega) (by omega) ((W0_hi (by omega)).trans (by simp [va_up])) ((W0_hi (by omega)).trans ((va_up_ne _ _ (by omega)).trans (celX_obj (sh_2_4 hc) (by decide)))) rfl rfl (by decide) ?_
  refine jc_congr (cg := W0 c cf 2 [.ref (adr M (c + 1)), .int (0 : Int32), .int (0 : Int32)] (va_up (celX M sg0) (c + 1) (.inl (M.2.1 16, 16, .inr (.inr (.inr (.inr (va_up (va_up (va_up (va_up (fun _ => none) 0 (some (adr M (c + 2)))) 1 (some (adr M (c + 21)))) 2 (some (adr M (c + 40)))) 3 (some (adr M (c + 59))))))))))) (up_d (by omega) _) ?_
  refine jc_iinc C (v := (4 : Int32)) (Ls' := [(1, .int (4 : Int32)), (0, .ref (adr M c))]) dX2_init_44 0 rfl (by decide) (by decide) rfl ?_
  refine jc_goto C (tgt := 25) dX2_init_47 (by decide) ?_
  refine jc_iload_n C dX2_init_25 rfl ?_
  refine jc_bipush C (v := (16 : Int32)) dX2_init_26 (by decide) ?_
  refine jc_ge_f C (tgt := 50) dX2_init_28 (by decide) (by decide) ?_
  refine jc_aload_n C dX2_init_31 rfl ?_
  refine jc_get C (v := .ref (adr M (c + 1))) dX2_init_32 fl_RX2_11 (by omega) W0_self rfl ?_
  refine jc_iload_n C dX2_init_35 rfl ?_
  refine jc_new C hE dX2_init_36 nw_RX2_9 (by omega) (hE.at hsz (by omega)) ⟨by decide, by decide⟩ ?_
  refine jc_n (n2 := c + 79) (by omega) ?_
  refine jc_congr (cg := W0 c cf 2 [.ref (adr M (c + 1)), .int (0 : Int32), .int (0 : Int32)] (va_up (va_up (celX M sg0) (c + 1) (.inl (M.2.1 16, 16, .inr (.inr (.inr (.inr (va_up (va_up (va_up (va_up (fun _ => none) 0 (some (adr M (c + 2)))) 1 (some (adr M (c + 21)))) 2 (some (adr M (c + 40)))) 3 (some (adr M (c + 59)))))))))) (c + 78) (.inr (3, [.null, .null, .null, .int 0, .null, .null])))) (up_b (by omega) _) ?_
  refine jc_dup C dX2_init_39 rfl ?_
  refine jc_init C hE hAO (As := []) dX2_init_40 (KX3_init l M hE (c + 78) ⟨by omega, (sh_2_5 hc)⟩ _ (by rw [W0_hi (by omega)]; simp [va_up])) vi_RX2_24 ⟨rfl, (mem_g 113 (by decide +kernel) (by decide))⟩ rfl rfl ⟨rfl, rfl⟩ (by decide) (Nat.le_of_ble_eq_true rfl) ⟨by decide, by decide⟩ (by omega) (hE.at hsz (by omega)) ?_
  refine jc_n (n2 := c + 97) (by omega) ?_
  refine jc_congr (cg := W0 c cf 2 [.ref (adr M (c + 1)), .int (0 : Int32), .int (0 : Int32)] (va_up (celX M sg0) (c + 1) (.inl (M.2.1 16, 16, .inr (.inr (.inr (.inr (va_up (va_up (va_up (va_up (fun _ => none) 0 (some (adr M (c + 2)))) 1 (some (adr M (c + 21)))) 2 (some (adr M (c + 40)))) 3 (some (adr M (c + 59))))))))))) (up_c (by omega) (fun q h1 h2 => by rw [va_up_ne _ _ (by omega)])) ?_
  refine jc_aast C (a := c + 1) (o := c + 78) (k := 16) (kk := 3) (N := 16) (f := va_up (va_up (va_up (va_up (fun _ => none) 0 (some (adr M (c + 2)))) 1 (some (adr M (c + 21)))) 2 (some (adr M (c + 40)))) 3 (some (adr M (c + 59)))) (t0 := 4) dX2_init_43 (by omega) (by omega) (by omega) ((W0_hi (by omega)).trans (by simp [va_up])) ((W0_hi (by omega)).trans ((va_up_ne _ _ (by omega)).trans (celX_obj (sh_2_5 hc) (by decide)))) rfl rfl (by decide) ?_
  refine jc_congr (cg := W0 c cf 2 [.ref (adr M (c + 1)), .int (0 : Int32), .int (0 : Int32)] (va_up (celX M sg0) (c + 1) (.inl (M.2.1 16, 16, .inr (.inr (.inr (.inr (va_up (va_up (va_up (va_up (va_up (fun _ => none) 0 (some (adr M (c + 2)))) 1 (some (adr M (c + 21)))) 2 (some (adr M (c + 40)))) 3 (some (adr M (c + 59)))) 4 (some (adr M (c + 78))))))))))) (up_d (by omega) _) ?_
  refine jc_iinc C (v := (5 : Int32)) (Ls' := [(1, .int (5 : Int32)), (0, .ref (adr M c))]) dX2_init_44 0 rfl (by decide) (by decide) rfl ?_
  refine jc_goto C (tgt := 25) dX2_init_47 (by decide) ?_
  refine jc_iload_n C dX2_init_25 rfl ?_
  refine jc_bipush C (v := (16 : Int32)) dX2_init_26 (by decide) ?_
  refine jc_ge_f C (tgt := 50) dX2_init_28 (by decide) (by decide) ?_
  refine jc_aload_n C dX2_init_31 rfl ?_
  refine jc_get C (v := .ref (adr M (c + 1))) dX2_init_32 fl_RX2_11 (by omega) W0_self rfl ?_
  refine jc_iload_n C dX2_init_35 rfl ?_
  refine jc_new C hE dX2_init_36 nw_RX2_9 (by omega) (hE.at hsz (by omega)) ⟨by decide, by decide⟩ ?_
  refine jc_n (n2 := c + 98) (by omega) ?_
  refine jc_congr (cg := W0 c cf 2 [.ref (adr M (c + 1)), .int (0 : Int32), .int (0 : Int32)] (va_up (va_up (celX M sg0) (c + 1) (.inl (M.2.1 16, 16, .inr (.inr (.inr (.inr (va_up (va_up (va_up (va_up (va_up (fun _ => none) 0 (some (adr M (c + 2)))) 1 (some (adr M (c + 21)))) 2 (some (adr M (c + 40)))) 3 (some (adr M (c + 59)))) 4 (some (adr M (c + 78)))))))))) (c + 97) (.inr (3, [.null, .null, .null, .int 0, .null, .null])))) (up_b (by omega) _) ?_
  refine jc_dup C dX2_init_39 rfl ?_
  refine jc_init C hE hAO (As := []) dX2_init_40 (KX3_init l M hE (c + 97) ⟨by omega, (sh_2_6 hc)⟩ _ (by rw [W0_hi (by omega)]; simp [va_up])) vi_RX2_24 ⟨rfl, (mem_g 113 (by decide +kernel) (by decide))⟩ rfl rfl ⟨rfl, rfl⟩ (by decide) (Nat.le_of_ble_eq_true rfl) ⟨by decide, by decide⟩ (by omega) (hE.at hsz (by omega)) ?_
  refine jc_n (n2 := c + 116) (by omega) ?_
  refine jc_congr (cg := W0 c cf 2 [.ref (adr M (c + 1)), .int (0 : Int32), .int (0 : Int32)] (va_up (celX M sg0) (c + 1) (.inl (M.2.1 16, 16, .inr (.inr (.inr (.inr (va_up (va_up (va_up (va_up (va_up (fun _ => none) 0 (some (adr M (c + 2)))) 1 (some (adr M (c + 21)))) 2 (some (adr M (c + 40)))) 3 (some (adr M (c + 59)))) 4 (some (adr M (c + 78))))))))))) (up_c (by omega) (fun q h1 h2 => by rw [va_up_ne _ _ (by omega)])) ?_
  refine jc_aast C (a := c + 1) (o := c + 97) (k := 16) (kk := 3) (N := 16) (f := va_up (va_up (va_up (va_up (va_up (fun _ => none) 0 (some (adr M (c + 2)))) 1 (some (adr M (c + 21)))) 2 (some (adr M (c + 40)))) 3 (some (adr M (c + 59)))) 4 (some (adr M (c + 78)))) (t0 := 4) dX2_init_43 (by omega) (by omega) (by omega) ((W0_hi (by omega)).trans (by simp [va_up])) ((W0_hi (by omega)).trans ((va_up_ne _ _ (by omega)).trans (celX_obj (sh_2_6 hc) (by decide)))) rfl rfl (by decide) ?_
  refine jc_congr (cg := W0 c cf 2 [.ref (adr M (c + 1)), .int (0 : Int32), .int (0 : Int32)] (va_up (celX M sg0) (c + 1) (.inl (M.2.1 16, 16, .inr (.inr (.inr (.inr (va_up (va_up (va_up (va_up (va_up (va_up (fun _ => none) 0 (some (adr M (c + 2)))) 1 (some (adr M (c + 21)))) 2 (some (adr M (c + 40)))) 3 (some (adr M (c + 59)))) 4 (some (adr M (c + 78)))) 5 (some (adr M (c + 97))))))))))) (up_d (by omega) _) ?_
  refine jc_iinc C (v := (6 : Int32)) (Ls' := [(1, .int (6 : Int32)), (0, .ref (adr M c))]) dX2_init_44 0 rfl (by decide) (by decide) rfl ?_
  refine jc_goto C (tgt := 25) dX2_init_47 (by decide) ?_
  refine jc_iload_n C dX2_init_25 rfl ?_
  refine jc_bipush C (v := (16 : Int32)) dX2_init_26 (by decide) ?_
  refine jc_ge_f C (tgt := 50) dX2_init_28 (by decide) (by decide) ?_
  refine jc_aload_n C dX2_init_31 rfl ?_
  refine jc_get C (v := .ref (adr M (c + 1))) dX2_init_32 fl_RX2_11 (by omega) W0_self rfl ?_
  refine jc_iload_n C dX2_init_35 rfl ?_
  refine jc_new C hE dX2_init_36 nw_RX2_9 (by omega) (hE.at hsz (by omega)) ⟨by decide, by decide⟩ ?_
  refine jc_n (n2 := c + 117) (by omega) ?_
  refine jc_congr (cg := W0 c cf 2 [.ref (adr M (c + 1)), .int (0 : Int32), .int (0 : Int32)] (va_up (va_up (celX M sg0) (c + 1) (.inl (M.2.1 16, 16, .inr (.inr (.inr (.inr (va_up (va_up (va_up (va_up (va_up (va_up (fun _ => none) 0 (some (adr M (c + 2)))) 1 (some (adr M (c + 21)))) 2 (some (adr M (c + 40)))) 3 (some (adr M (c + 59)))) 4 (some (adr M (c + 78)))) 5 (some (adr M (c + 97)))))))))) (c + 116) (.inr (3, [.null, .null, .null, .int 0, .null, .null])))) (up_b (by omega) _) ?_
  refine jc_dup C dX2_init_39 rfl ?_
  refine jc_init C hE hAO (As := []) dX2_init_40 (KX3_init l M hE (c + 116) ⟨by omega, (sh_2_7 hc)⟩ _ (by rw [W0_hi (by omega)]; simp [va_up])) vi_RX2_24 ⟨rfl, (mem_g 113 (by decide +kernel) (by decide))⟩ rfl rfl ⟨rfl, rfl⟩ (by decide) (Nat.le_of_ble_eq_true rfl) ⟨by decide, by decide⟩ (by omega) (hE.at hsz (by omega)) ?_
  refine jc_n (n2 := c + 135) (by omega) ?_
  refine jc_congr (cg := W0 c cf 2 [.ref (adr M (c + 1)), .int (0 : Int32), .int (0 : Int32)] (va_up (celX M sg0) (c + 1) (.inl (M.2.1 16, 16, .inr (.inr (.inr (.inr (va_up (va_up (va_up (va_up (va_up (va_up (fun _ => none) 0 (some (adr M (c + 2)))) 1 (some (adr M (c + 21)))) 2 (some (adr M (c + 40)))) 3 (some (adr M (c + 59)))) 4 (some (adr M (c + 78)))) 5 (some (adr M (c + 97))))))))))) (up_c (by omega) (fun q h1 h2 => by rw [va_up_ne _ _ (by omega)])) ?_
  refine jc_aast C (a := c + 1) (o := c + 116) (k := 16) (kk := 3) (N := 16) (f := va_up (va_up (va_up (va_up (va_up (va_up (fun _ => none) 0 (some (adr M (c + 2)))) 1 (some (adr M (c + 21)))) 2 (some (adr M (c + 40)))) 3 (some (adr M (c + 59)))) 4 (some (adr M (c + 78)))) 5 (some (adr M (c + 97)))) (t0 := 4) dX2_init_43 (by omega) (by omega) (by omega) ((W0_hi (by omega)).trans (by simp [va_up])) ((W0_hi (by omega)).trans ((va_up_ne _ _ (by omega)).trans (celX_obj (sh_2_7 hc) (by decide)))) rfl rfl (by decide) ?_
  refine jc_congr (cg := W0 c cf 2 [.ref (adr M (c + 1)), .int (0 : Int32), .int (0 : Int32)] (va_up (celX M sg0) (c + 1) (.inl (M.2.1 16, 16, .inr (.inr (.inr (.inr (va_up (va_up (va_up (va_up (va_up (va_up (va_up (fun _ => none) 0 (some (adr M (c + 2)))) 1 (some (adr M (c + 21)))) 2 (some (adr M (c + 40)))) 3 (some (adr M (c + 59)))) 4 (some (adr M (c + 78)))) 5 (some (adr M (c + 97)))) 6 (some (adr M (c + 116))))))))))) (up_d (by omega) _) ?_
  refine jc_iinc C (v := (7 : Int32)) (Ls' := [(1, .int (7 : Int32)), (0, .ref (adr M c))]) dX2_init_44 0 rfl (by decide) (by decide) rfl ?_
  refine jc_goto C (tgt := 25) dX2_init_47 (by decide) ?_
  refine jc_iload_n C dX2_init_25 rfl ?_
  refine jc_bipush C (v := (16 : Int32)) dX2_init_26 (by decide) ?_
  refine jc_ge_f C (tgt := 50) dX2_init_28 (by decide) (by decide) ?_
  refine jc_aload_n C dX2_init_31 rfl ?_
  refine jc_get C (v := .ref (adr M (c + 1))) dX2_init_32 fl_RX2_11 (by omega) W0_self rfl ?_
  refine jc_iload_n C dX2_init_35 rfl ?_
  refine jc_new C hE dX2_init_36 nw_RX2_9 (by omega) (hE.at hsz (by omega)) ⟨by decide, by decide⟩ ?_
  refine jc_n (n2 := c + 136) (by omega) ?_
  refine jc_congr (cg := W0 c cf 2 [.ref (adr M (c + 1)), .int (0 : Int32), .int (0 : Int32)] (va_up (va_up (celX M sg0) (c + 1) (.inl (M.2.1 16, 16, .inr (.inr (.inr (.inr (va_up (va_up (va_up (va_up (va_up (va_up (va_up (fun _ => none) 0 (some (adr M (c + 2)))) 1 (some (adr M (c + 21)))) 2 (some (adr M (c + 40)))) 3 (some (adr M (c + 59)))) 4 (some (adr M (c + 78)))) 5 (some (adr M (c + 97)))) 6 (some (adr M (c + 116)))))))))) (c + 135) (.inr (3, [.null, .null, .null, .int 0, .null, .null])))) (up_b (by omega) _) ?_
  refine jc_dup C dX2_init_39 rfl ?_
  refine jc_init C hE hAO (As := []) dX2_init_40 (KX3_init l M hE (c + 135) ⟨by omega, (sh_2_8 hc)⟩ _ (by rw [W0_hi (by omega)]; simp [va_up])) vi_RX2_24 ⟨rfl, (mem_g 113 (by decide +kernel) (by decide))⟩ rfl rfl ⟨rfl, rfl⟩ (by decide) (Nat.le_of_ble_eq_true rfl) ⟨by decide, by decide⟩ (by omega) (hE.at hsz (by omega)) ?_
  refine jc_n (n2 := c + 154) (by omega) ?_
  refine jc_congr (cg := W0 c cf 2 [.ref (adr M (c + 1)), .int (0 : Int32), .int (0 : Int32)] (va_up (celX M sg0) (c + 1) (.inl (M.2.1 16, 16, .inr (.inr (.inr (.inr (va_up (va_up (va_up (va_up (va_up (va_up (va_up (fun _ => none) 0 (some (adr M (c + 2)))) 1 (some (adr M (c + 21)))) 2 (some (adr M (c + 40)))) 3 (some (adr M (c + 59)))) 4 (some (adr M (c + 78)))) 5 (some (adr M (c + 97)))) 6 (some (adr M (c + 116))))))))))) (up_c (by omega) (fun q h1 h2 => by rw [va_up_ne _ _ (by omega)])) ?_
  refine jc_aast C (a := c + 1) (o := c + 135) (k := 16) (kk := 3) (N := 16) (f := va_up (va_up (va_up (va_up (va_up (va_up (va_up (fun _ => none) 0 (some (adr M (c + 2)))) 1 (some (adr M (c + 21)))) 2 (some (adr M (c + 40)))) 3 (some (adr M (c + 59)))) 4 (some (adr M (c + 78)))) 5 (some (adr M (c + 97)))) 6 (some (adr M (c + 116)))) (t0 := 4) dX2_init_43 (by omega) (by omega) (by omega) ((W0_hi (by omega)).trans (by simp [va_up])) ((W0_hi (by omega)).trans ((va_up_ne _ _ (by omega)).trans (celX_obj (sh_2_8 hc) (by decide)))) rfl rfl (by decide) ?_
  refine jc_congr (cg := W0 c cf 2 [.ref (adr M (c + 1)), .int (0 : Int32), .int (0 : Int32)] (va_up (celX M sg0) (c + 1) (.inl (M.2.1 16, 16, .inr (.inr (.inr (.inr (va_up (va_up (va_up (va_up (va_up (va_up (va_up (va_up (fun _ => none) 0 (some (adr M (c + 2)))) 1 (some (adr M (c + 21)))) 2 (some (adr M (c + 40)))) 3 (some (adr M (c + 59)))) 4 (some (adr M (c + 78)))) 5 (some (adr M (c + 97)))) 6 (some (adr M (c + 116)))) 7 (some (adr M (c + 135))))))))))) (up_d (by omega) _) ?_
  refine jc_iinc C (v := (8 : Int32)) (Ls' := [(1, .int (8 : Int32)), (0, .ref (adr M c))]) dX2_init_44 0 rfl (by decide) (by decide) rfl ?_
  refine jc_goto C (tgt := 25) dX2_init_47 (by decide) ?_
  refine jc_iload_n C dX2_init_25 rfl ?_
  refine jc_bipush C (v := (16 : Int32)) dX2_init_26 (by decide) ?_
  refine jc_ge_f C (tgt := 50) dX2_init_28 (by decide) (by decide) ?_
  refine jc_aload_n C dX2_init_31 rfl ?_
  refine jc_get C (v := .ref (adr M (c + 1))) dX2_init_32 fl_RX2_11 (by omega) W0_self rfl ?_
  refine jc_iload_n C dX2_init_35 rfl ?_
  refine jc_new C hE dX2_init_36 nw_RX2_9 (by omega) (hE.at hsz (by omega)) ⟨by decide, by decide⟩ ?_
  refine jc_n (n2 := c + 155) (by omega) ?_
  refine jc_congr (cg := W0 c cf 2 [.ref (adr M (c + 1)), .int (0 : Int32), .int (0 : Int32)] (va_up (va_up (celX M sg0) (c + 1) (.inl (M.2.1 16, 16, .inr (.inr (.inr (.inr (va_up (va_up (va_up (va_up (va_up (va_up (va_up (va_up (fun _ => none) 0 (some (adr M (c + 2)))) 1 (some (adr M (c + 21)))) 2 (some (adr M (c + 40)))) 3 (some (adr M (c + 59)))) 4 (some (adr M (c + 78)))) 5 (some (adr M (c + 97)))) 6 (some (adr M (c + 116)))) 7 (some (adr M (c + 135)))))))))) (c + 154) (.inr (3, [.null, .null, .null, .int 0, .null, .null])))) (up_b (by omega) _) ?_
  refine jc_dup C dX2_init_39 rfl ?_
  refine jc_init C hE hAO (As := []) dX2_init_40 (KX3_init l M hE (c + 154) ⟨by omega, (sh_2_9 hc)⟩ _ (by rw [W0_hi (by omega)]; simp [va_up])) vi_RX2_24 ⟨rfl, (mem_g 113 (by decide +kernel) (by decide))⟩ rfl rfl ⟨rfl, rfl⟩ (by decide) (Nat.le_of_ble_eq_true rfl) ⟨by decide, by decide⟩ (by omega) (hE.at hsz (by omega)) ?_
  refine jc_n (n2 := c + 173) (by omega) ?_
  refine jc_congr (cg := W0 c cf 2 [.ref (adr M (c + 1)), .int (0 : Int32), .int (0 : Int32)] (va_up (celX M sg0) (c + 1) (.inl (M.2.1 16, 16, .inr (.inr (.inr (.inr (va_up (va_up (va_up (va_up (va_up (va_up (va_up (va_up (fun _ => none) 0 (some (adr M (c + 2)))) 1 (some (adr M (c + 21)))) 2 (some (adr M (c + 40)))) 3 (some (adr M (c + 59)))) 4 (some (adr M (c + 78)))) 5 (some (adr M (c + 97)))) 6 (some (adr M (c + 116)))) 7 (some (adr M (c + 135))))))))))) (up_c (by omega) (fun q h1 h2 => by rw [va_up_ne _ _ (by omega)])) ?_
  refine jc_aast C (a := c + 1) (o := c + 154) (k := 16) (kk := 3) (N := 16) (f := va_up (va_up (va_up (va_up (va_up (va_up (va_up (va_up (fun _ => none) 0 (some (adr M (c + 2)))) 1 (some (adr M (c + 21)))) 2 (some (adr M (c + 40)))) 3 (some (adr M (c + 59)))) 4 (some (adr M (c + 78)))) 5 (some (adr M (c + 97)))) 6 (some (adr M (c + 116)))) 7 (some (adr M (c + 135)))) (t0 := 4) dX2_init_43 (by omega) (by omega) (by omega) ((W0_hi (by omega)).trans (by simp [va_up])) ((W0_hi (by omega)).trans ((va_up_ne _ _ (by omega)).trans (celX_obj (sh_2_9 hc) (by decide)))) rfl rfl (by decide) ?_
  refine jc_congr (cg := W0 c cf 2 [.ref (adr M (c + 1)), .int (0 : Int32), .int (0 : Int32)] (va_up (celX M sg0) (c + 1) (.inl (M.2.1 16, 16, .inr (.inr (.inr (.inr (va_up (va_up (va_up (va_up (va_up (va_up (va_up (va_up (va_up (fun _ => none) 0 (some (adr M (c + 2)))) 1 (some (adr M (c + 21)))) 2 (some (adr M (c + 40)))) 3 (some (adr M (c + 59)))) 4 (some (adr M (c + 78)))) 5 (some (adr M (c + 97)))) 6 (some (adr M (c + 116)))) 7 (some (adr M (c + 135)))) 8 (some (adr M (c + 154))))))))))) (up_d (by omega) _) ?_
  refine jc_iinc C (v := (9 : Int32)) (Ls' := [(1, .int (9 : Int32)), (0, .ref (adr M c))]) dX2_init_44 0 rfl (by decide) (by decide) rfl ?_
  refine jc_goto C (tgt := 25) dX2_init_47 (by decide) ?_
  refine jc_iload_n C dX2_init_25 rfl ?_
  refine jc_bipush C (v := (16 : Int32)) dX2_init_26 (by decide) ?_
  refine jc_ge_f C (tgt := 50) dX2_init_28 (by decide) (by decide) ?_
  refine jc_aload_n C dX2_init_31 rfl ?_
  refine jc_get C (v := .ref (adr M (c + 1))) dX2_init_32 fl_RX2_11 (by omega) W0_self rfl ?_
  refine jc_iload_n C dX2_init_35 rfl ?_
  refine jc_new C hE dX2_init_36 nw_RX2_9 (by omega) (hE.at hsz (by omega)) ⟨by decide, by decide⟩ ?_
  refine jc_n (n2 := c + 174) (by omega) ?_
  refine jc_congr (cg := W0 c cf 2 [.ref (adr M (c + 1)), .int (0 : Int32), .int (0 : Int32)] (va_up (va_up (celX M sg0) (c + 1) (.inl (M.2.1 16, 16, .inr (.inr (.inr (.inr (va_up (va_up (va_up (va_up (va_up (va_up (va_up (va_up (va_up (fun _ => none) 0 (some (adr M (c + 2)))) 1 (some (adr M (c + 21)))) 2 (some (adr M (c + 40)))) 3 (some (adr M (c + 59)))) 4 (some (adr M (c + 78)))) 5 (some (adr M (c + 97)))) 6 (some (adr M (c + 116)))) 7 (some (adr M (c + 135)))) 8 (some (adr M (c + 154)))))))))) (c + 173) (.inr (3, [.null, .null, .null, .int 0, .null, .null])))) (up_b (by omega) _) ?_
  refine jc_dup C dX2_init_39 rfl ?_
  refine jc_init C hE hAO (As := []) dX2_init_40 (KX3_init l M hE (c + 173) ⟨by omega, (sh_2_10 hc)⟩ _ (by rw [W0_hi (by omega)]; simp [va_up])) vi_RX2_24 ⟨rfl, (mem_g 113 (by decide +kernel) (by decide))⟩ rfl rfl ⟨rfl, rfl⟩ (by decide) (Nat.le_of_ble_eq_true rfl) ⟨by decide, by decide⟩ (by omega) (hE.at hsz (by omega)) ?_
  refine jc_n (n2 := c + 192) (by omega) ?_
  refine jc_congr (cg := W0 c cf 2 [.ref (adr M (c + 1)), .int (0 : Int32), .int (0 : Int32)] (va_up (celX M sg0) (c + 1) (.inl (M.2.1 16, 16, .inr (.inr (.inr (.inr (va_up (va_up (va_up (va_up (va_up (va_up (va_up (va_up (va_up (fun _ => none) 0 (some (adr M (c + 2)))) 1 (some (adr M (c + 21)))) 2 (some (adr M (c + 40)))) 3 (some (adr M (c + 59)))) 4 (some (adr M (c + 78)))) 5 (some (adr M (c + 97)))) 6 (some (adr M (c + 116)))) 7 (some (adr M (c + 135)))) 8 (some (adr M (c + 154))))))))))) (up_c (by omega) (fun q h1 h2 => by rw [va_up_ne _ _ (by omega)])) ?_
  refine jc_aast C (a := c + 1) (o := c + 173) (k := 16) (kk := 3) (N := 16) (f := va_up (va_up (va_up (va_up (va_up (va_up (va_up (va_up (va_up (fun _ => none) 0 (some (adr M (c + 2)))) 1 (some (adr M (c + 21)))) 2 (some (adr M (c + 40)))) 3 (some (adr M (c + 59)))) 4 (some (adr M (c + 78)))) 5 (some (adr M (c + 97)))) 6 (some (adr M (c + 116)))) 7 (some (adr M (c + 135)))) 8 (some (adr M (c + 154)))) (t0 := 4) dX2_init_43 (by omega) (by omega) (by omega) ((W0_hi (by omega)).trans (by simp [va_up])) ((W0_hi (by omega)).trans ((va_up_ne _ _ (by omega)).trans (celX_obj (sh_2_10 hc) (by decide)))) rfl rfl (by decide) ?_
  refine jc_congr (cg := W0 c cf 2 [.ref (adr M (c + 1)), .int (0 : Int32), .int (0 : Int32)] (va_up (celX M sg0) (c + 1) (.inl (M.2.1 16, 16, .inr (.inr (.inr (.inr (va_up (va_up (va_up (va_up (va_up (va_up (va_up (va_up (va_up (va_up (fun _ => none) 0 (some (adr M (c + 2)))) 1 (some (adr M (c + 21)))) 2 (some (adr M (c + 40)))) 3 (some (adr M (c + 59)))) 4 (some (adr M (c + 78)))) 5 (some (adr M (c + 97)))) 6 (some (adr M (c + 116)))) 7 (some (adr M (c + 135)))) 8 (some (adr M (c + 154)))) 9 (some (adr M (c + 173))))))))))) (up_d (by omega) _) ?_
  refine jc_iinc C (v := (10 : Int32)) (Ls' := [(1, .int (10 : Int32)), (0, .ref (adr M c))]) dX2_init_44 0 rfl (by decide) (by decide) rfl ?_
  refine jc_goto C (tgt := 25) dX2_init_47 (by decide) ?_
  refine jc_iload_n C dX2_init_25 rfl ?_
  refine jc_bipush C (v := (16 : Int32)) dX2_init_26 (by decide) ?_
  refine jc_ge_f C (tgt := 50) dX2_init_28 (by decide) (by decide) ?_
  refine jc_aload_n C dX2_init_31 rfl ?_
  refine jc_get C (v := .ref (adr M (c + 1))) dX2_init_32 fl_RX2_11 (by omega) W0_self rfl ?_
  refine jc_iload_n C dX2_init_35 rfl ?_
  refine jc_new C hE dX2_init_36 nw_RX2_9 (by omega) (hE.at hsz (by omega)) ⟨by decide, by decide⟩ ?_
  refine jc_n (n2 := c + 193) (by omega) ?_
  refine jc_congr (cg := W0 c cf 2 [.ref (adr M (c + 1)), .int (0 : Int32), .int (0 : Int32)] (va_up (va_up (celX M sg0) (c + 1) (.inl (M.2.1 16, 16, .inr (.inr (.inr (.inr (va_up (va_up (va_up (va_up (va_up (va_up (va_up (va_up (va_up (va_up (fun _ => none) 0 (some (adr M (c + 2)))) 1 (some (adr M (c + 21)))) 2 (some (adr M (c + 40)))) 3 (some (adr M (c + 59)))) 4 (some (adr M (c + 78)))) 5 (some (adr M (c + 97)))) 6 (some (adr M (c + 116)))) 7 (some (adr M (c + 135)))) 8 (some (adr M (c + 154)))) 9 (some (adr M (c + 173)))))))))) (c + 192) (.inr (3, [.null, .null, .null, .int 0, .null, .null])))) (up_b (by omega) _) ?_
  refine jc_dup C dX2_init_39 rfl ?_
  refine jc_init C hE hAO (As := []) dX2_init_40 (KX3_init l M hE (c + 192) ⟨by omega, (sh_2_11 hc)⟩ _ (by rw [W0_hi (by omega)]; simp [va_up])) vi_RX2_24 ⟨rfl, (mem_g 113 (by decide +kernel) (by decide))⟩ rfl rfl ⟨rfl, rfl⟩ (by decide) (Nat.le_of_ble_eq_true rfl) ⟨by decide, by decide⟩ (by omega) (hE.at hsz (by omega)) ?_
  refine jc_n (n2 := c + 211) (by omega) ?_
  refine jc_congr (cg := W0 c cf 2 [.ref (adr M (c + 1)), .int (0 : Int32), .int (0 : Int32)] (va_up (celX M sg0) (c + 1) (.inl (M.2.1 16, 16, .inr (.inr (.inr (.inr (va_up (va_up (va_up (va_up (va_up (va_up (va_up (va_up (va_up (va_up (fun _ => none) 0 (some (adr M (c + 2)))) 1 (some (adr M (c + 21)))) 2 (some (adr M (c + 40)))) 3 (some (adr M (c + 59)))) 4 (some (adr M (c + 78)))) 5 (some (adr M (c + 97)))) 6 (some (adr M (c + 116)))) 7 (some (adr M (c + 135)))) 8 (some (adr M (c + 154)))) 9 (some (adr M (c + 173))))))))))) (up_c (by omega) (fun q h1 h2 => by rw [va_up_ne _ _ (by omega)])) ?_
  refine jc_aast C (a := c + 1) (o := c + 192) (k := 16) (kk := 3) (N := 16) (f := va_up (va_up (va_up (va_up (va_up (va_up (va_up (va_up (va_up (va_up (fun _ => none) 0 (some (adr M (c + 2)))) 1 (some (adr M (c + 21)))) 2 (some (adr M (c + 40)))) 3 (some (adr M (c + 59)))) 4 (some (adr M (c + 78)))) 5 (some (adr M (c + 97)))) 6 (some (adr M (c + 116)))) 7 (some (adr M (c + 135)))) 8 (some (adr M (c + 154)))) 9 (some (adr M (c + 173)))) (t0 := 4) dX2_init_43 (by omega) (by omega) (by omega) ((W0_hi (by omega)).trans (by simp [va_up])) ((W0_hi (by omega)).trans ((va_up_ne _ _ (by omega)).trans (celX_obj (sh_2_11 hc) (by decide)))) rfl rfl (by decide) ?_
  refine jc_congr (cg := W0 c cf 2 [.ref (adr M (c + 1)), .int (0 : Int32), .int (0 : Int32)] (va_up (celX M sg0) (c + 1) (.inl (M.2.1 16, 16, .inr (.inr (.inr (.inr (va_up (va_up (va_up (va_up (va_up (va_up (va_up (va_up (va_up (va_up (va_up (fun _ => none) 0 (some (adr M (c + 2)))) 1 (some (adr M (c + 21)))) 2 (some (adr M (c + 40)))) 3 (some (adr M (c + 59)))) 4 (some (adr M (c + 78)))) 5 (some (adr M (c + 97)))) 6 (some (adr M (c + 116)))) 7 (some (adr M (c + 135)))) 8 (some (adr M (c + 154)))) 9 (some (adr M (c + 173)))) 10 (some (adr M (c + 192))))))))))) (up_d (by omega) _) ?_
  refine jc_iinc C (v := (11 : Int32)) (Ls' := [(1, .int (11 : Int32)), (0, .ref (adr M c))]) dX2_init_44 0 rfl (by decide) (by decide) rfl ?_
  refine jc_goto C (tgt := 25) dX2_init_47 (by decide) ?_
  refine jc_iload_n C dX2_init_25 rfl ?_
  refine jc_bipush C (v := (16 : Int32)) dX2_init_26 (by decide) ?_
  refine jc_ge_f C (tgt := 50) dX2_init_28 (by decide) (by decide) ?_
  refine jc_aload_n C dX2_init_31 rfl ?_
  refine jc_get C (v := .ref (adr M (c + 1))) dX2_init_32 fl_RX2_11 (by omega) W0_self rfl ?_
  refine jc_iload_n C dX2_init_35 rfl ?_
  refine jc_new C hE dX2_init_36 nw_RX2_9 (by omega) (hE.at hsz (by omega)) ⟨by decide, by decide⟩ ?_
  refine jc_n (n2 := c + 212) (by omega) ?_
  refine jc_congr (cg := W0 c cf 2 [.ref (adr M (c + 1)), .int (0 : Int32), .int (0 : Int32)] (va_up (va_up (celX M sg0) (c + 1) (.inl (M.2.1 16, 16, .inr (.inr (.inr (.inr (va_up (va_up (va_up (va_up (va_up (va_up (va_up (va_up (va_up (va_up (va_up (fun _ => none) 0 (some (adr M (c + 2)))) 1 (some (adr M (c + 21)))) 2 (some (adr M (c + 40)))) 3 (some (adr M (c + 59)))) 4 (some (adr M (c + 78)))) 5 (some (adr M (c + 97)))) 6 (some (adr M (c + 116)))) 7 (some (adr M (c + 135)))) 8 (some (adr M (c + 154)))) 9 (some (adr M (c + 173)))) 10 (some (adr M (c + 192)))))))))) (c + 211) (.inr (3, [.null, .null, .null, .int 0, .null, .null])))) (up_b (by omega) _) ?_
  refine jc_dup C dX2_init_39 rfl ?_
  refine jc_init C hE hAO (As := []) dX2_init_40 (KX3_init l M hE (c + 211) ⟨by omega, (sh_2_12 hc)⟩ _ (by rw [W0_hi (by omega)]; simp [va_up])) vi_RX2_24 ⟨rfl, (mem_g 113 (by decide +kernel) (by decide))⟩ rfl rfl ⟨rfl, rfl⟩ (by decide) (Nat.le_of_ble_eq_true rfl) ⟨by decide, by decide⟩ (by omega) (hE.at hsz (by omega)) ?_
  refine jc_n (n2 := c + 230) (by omega) ?_
  refine jc_congr (cg := W0 c cf 2 [.ref (adr M (c + 1)), .int (0 : Int32), .int (0 : Int32)] (va_up (celX M sg0) (c + 1) (.inl (M.2.1 16, 16, .inr (.inr (.inr (.inr (va_up (va_up (va_up (va_up (va_up (va_up (va_up (va_up (va_up (va_up (va_up (fun _ => none) 0 (some (adr M (c + 2)))) 1 (some (adr M (c + 21)))) 2 (some (adr M (c + 40)))) 3 (some (adr M (c + 59)))) 4 (some (adr M (c + 78)))) 5 (some (adr M (c + 97)))) 6 (some (adr M (c + 116)))) 7 (some (adr M (c + 135)))) 8 (some (adr M (c + 154)))) 9 (some (adr M (c + 173)))) 10 (some (adr M (c + 192))))))))))) (up_c (by omega) (fun q h1 h2 => by rw [va_up_ne _ _ (by omega)])) ?_
  refine jc_aast C (a := c + 1) (o := c + 211) (k := 16) (kk := 3) (N := 16) (f := va_up (va_up (va_up (va_up (va_up (va_up (va_up (va_up (va_up (va_up (va_up (fun _ => none) 0 (some (adr M (c + 2)))) 1 (some (adr M (c + 21)))) 2 (some (adr M (c + 40)))) 3 (some (adr M (c + 59)))) 4 (some (adr M (c + 78)))) 5 (some (adr M (c + 97)))) 6 (some (adr M (c + 116)))) 7 (some (adr M (c + 135)))) 8 (some (adr M (c + 154)))) 9 (some (adr M (c + 173)))) 10 (some (adr M (c + 192)))) (t0 := 4) dX2_init_43 (by omega) (by omega) (by omega) ((W0_hi (by omega)).trans (by simp [va_up])) ((W0_hi (by omega)).trans ((va_up_ne _ _ (by omega)).trans (celX_obj (sh_2_12 hc) (by decide)))) rfl rfl (by decide) ?_
  refine jc_congr (cg := W0 c cf 2 [.ref (adr M (c + 1)), .int (0 : Int32), .int (0 : Int32)] (va_up (celX M sg0) (c + 1) (.inl (M.2.1 16, 16, .inr (.inr (.inr (.inr (va_up (va_up (va_up (va_up (va_up (va_up (va_up (va_up (va_up (va_up (va_up (va_up (fun _ => none) 0 (some (adr M (c + 2)))) 1 (some (adr M (c + 21)))) 2 (some (adr M (c + 40)))) 3 (some (adr M (c + 59)))) 4 (some (adr M (c + 78)))) 5 (some (adr M (c + 97)))) 6 (some (adr M (c + 116)))) 7 (some (adr M (c + 135)))) 8 (some (adr M (c + 154)))) 9 (some (adr M (c + 173)))) 10 (some (adr M (c + 192)))) 11 (some (adr M (c + 211))))))))))) (up_d (by omega) _) ?_
  refine jc_iinc C (v := (12 : Int32)) (Ls' := [(1, .int (12 : Int32)), (0, .ref (adr M c))]) dX2_init_44 0 rfl (by decide) (by decide) rfl ?_
  refine jc_goto C (tgt := 25) dX2_init_47 (by decide) ?_
  refine jc_iload_n C dX2_init_25 rfl ?_
  refine jc_bipush C (v := (16 : Int32)) dX2_init_26 (by decide) ?_
  refine jc_ge_f C (tgt := 50) dX2_init_28 (by decide) (by decide) ?_
  refine jc_aload_n C dX2_init_31 rfl ?_
  refine jc_get C (v := .ref (adr M (c + 1))) dX2_init_32 fl_RX2_11 (by omega) W0_self rfl ?_
  refine jc_iload_n C dX2_init_35 rfl ?_
  refine jc_new C hE dX2_init_36 nw_RX2_9 (by omega) (hE.at hsz (by omega)) ⟨by decide, by decide⟩ ?_
  refine jc_n (n2 := c + 231) (by omega) ?_
  refine jc_congr (cg := W0 c cf 2 [.ref (adr M (c + 1)), .int (0 : Int32), .int (0 : Int32)] (va_up (va_up (celX M sg0) (c + 1) (.inl (M.2.1 16, 16, .inr (.inr (.inr (.inr (va_up (va_up (va_up (va_up (va_up (va_up (va_up (va_up (va_up (va_up (va_up (va_up (fun _ => none) 0 (some (adr M (c + 2)))) 1 (some (adr M (c + 21)))) 2 (some (adr M (c + 40)))) 3 (some (adr M (c + 59)))) 4 (some (adr M (c + 78)))) 5 (some (adr M (c + 97)))) 6 (some (adr M (c + 116)))) 7 (some (adr M (c + 135)))) 8 (some (adr M (c + 154)))) 9 (some (adr M (c + 173)))) 10 (some (adr M (c + 192)))) 11 (some (adr M (c + 211)))))))))) (c + 230) (.inr (3, [.null, .null, .null, .int 0, .null, .null])))) (up_b (by omega) _) ?_
  refine jc_dup C dX2_init_39 rfl ?_
  refine jc_init C hE hAO (As := []) dX2_init_40 (KX3_init l M hE (c + 230) ⟨by omega, (sh_2_13 hc)⟩ _ (by rw [W0_hi (by omega)]; simp [va_up])) vi_RX2_24 ⟨rfl, (mem_g 113 (by decide +kernel) (by decide))⟩ rfl rfl ⟨rfl, rfl⟩ (by decide) (Nat.le_of_ble_eq_true rfl) ⟨by decide, by decide⟩ (by omega) (hE.at hsz (by omega)) ?_
  refine jc_n (n2 := c + 249) (by omega) ?_
  refine jc_congr (cg := W0 c cf 2 [.ref (adr M (c + 1)), .int (0 : Int32), .int (0 : Int32)] (va_up (celX M sg0) (c + 1) (.inl (M.2.1 16, 16, .inr (.inr (.inr (.inr (va_up (va_up (va_up (va_up (va_up (va_up (va_up (va_up (va_up (va_up (va_up (va_up (fun _ => none) 0 (some (adr M (c + 2)))) 1 (some (adr M (c + 21)))) 2 (some (adr M (c + 40)))) 3 (some (adr M (c + 59)))) 4 (some (adr M (c + 78)))) 5 (some (adr M (c + 97)))) 6 (some (adr M (c + 116)))) 7 (some (adr M (c + 135)))) 8 (some (adr M (c + 154)))) 9 (some (adr M (c + 173)))) 10 (some (adr M (c + 192)))) 11 (some (adr M (c + 211))))))))))) (up_c (by omega) (fun q h1 h2 => by rw [va_up_ne _ _ (by omega)])) ?_
  refine jc_aast C (a := c + 1) (o := c + 230) (k := 16) (kk := 3) (N := 16) (f := va_up (va_up (va_up (va_up (va_up (va_up (va_up (va_up (va_up (va_up (va_up (va_up (fun _ => none) 0 (some (adr M (c + 2)))) 1 (some (adr M (c + 21)))) 2 (some (adr M (c + 40)))) 3 (some (adr M (c + 59)))) 4 (some (adr M (c + 78)))) 5 (some (adr M (c + 97)))) 6 (some (adr M (c + 116)))) 7 (some (adr M (c + 135)))) 8 (some (adr M (c + 154)))) 9 (some (adr M (c + 173)))) 10 (some (adr M (c + 192)))) 11 (some (adr M (c + 211)))) (t0 := 4) dX2_init_43 (by omega) (by omega) (by omega) ((W0_hi (by omega)).trans (by simp [va_up])) ((W0_hi (by omega)).trans ((va_up_ne _ _ (by omega)).trans (celX_obj (sh_2_13 hc) (by decide)))) rfl rfl (by decide) ?_
  refine jc_congr (cg := W0 c cf 2 [.ref (adr M (c + 1)), .int (0 : Int32), .int (0 : Int32)] (va_up (celX M sg0) (c + 1) (.inl (M.2.1 16, 16, .inr (.inr (.inr (.inr (va_up (va_up (va_up (va_up (va_up (va_up (va_up (va_up (va_up (va_up (va_up (va_up (va_up (fun _ => none) 0 (some (adr M (c + 2)))) 1 (some (adr M (c + 21)))) 2 (some (adr M (c + 40)))) 3 (some (adr M (c + 59)))) 4 (some (adr M (c + 78)))) 5 (some (adr M (c + 97)))) 6 (some (adr M (c + 116)))) 7 (some (adr M (c + 135)))) 8 (some (adr M (c + 154)))) 9 (some (adr M (c + 173)))) 10 (some (adr M (c + 192)))) 11 (some (adr M (c + 211)))) 12 (some (adr M (c + 230))))))))))) (up_d (by omega) _) ?_
  refine jc_iinc C (v := (13 : Int32)) (Ls' := [(1, .int (13 : Int32)), (0, .ref (adr M c))]) dX2_init_44 0 rfl (by decide) (by decide) rfl ?_
  refine jc_goto C (tgt := 25) dX2_init_47 (by decide) ?_
  refine jc_iload_n C dX2_init_25 rfl ?_
  refine jc_bipush C (v := (16 : Int32)) dX2_init_26 (by decide) ?_
  refine jc_ge_f C (tgt := 50) dX2_init_28 (by decide) (by decide) ?_
  refine jc_aload_n C dX2_init_31 rfl ?_
  refine jc_get C (v := .ref (adr M (c + 1))) dX2_init_32 fl_RX2_11 (by omega) W0_self rfl ?_
  refine jc_iload_n C dX2_init_35 rfl ?_
  refine jc_new C hE dX2_init_36 nw_RX2_9 (by omega) (hE.at hsz (by omega)) ⟨by decide, by decide⟩ ?_
  refine jc_n (n2 := c + 250) (by omega) ?_
  refine jc_congr (cg := W0 c cf 2 [.ref (adr M (c + 1)), .int (0 : Int32), .int (0 : Int32)] (va_up (va_up (celX M sg0) (c + 1) (.inl (M.2.1 16, 16, .inr (.inr (.inr (.inr (va_up (va_up (va_up (va_up (va_up (va_up (va_up (va_up (va_up (va_up (va_up (va_up (va_up (fun _ => none) 0 (some (adr M (c + 2)))) 1 (some (adr M (c + 21)))) 2 (some (adr M (c + 40)))) 3 (some (adr M (c + 59)))) 4 (some (adr M (c + 78)))) 5 (some (adr M (c + 97)))) 6 (some (adr M (c + 116)))) 7 (some (adr M (c + 135)))) 8 (some (adr M (c + 154)))) 9 (some (adr M (c + 173)))) 10 (some (adr M (c + 192)))) 11 (some (adr M (c + 211)))) 12 (some (adr M (c + 230)))))))))) (c + 249) (.inr (3, [.null, .null, .null, .int 0, .null, .null])))) (up_b (by omega) _) ?_
  refine jc_dup C dX2_init_39 rfl ?_
  refine jc_init C hE hAO (As := []) dX2_init_40 (KX3_init l M hE (c + 249) ⟨by omega, (sh_2_14 hc)⟩ _ (by rw [W0_hi (by omega)]; simp [va_up])) vi_RX2_24 ⟨rfl, (mem_g 113 (by decide +kernel) (by decide))⟩ rfl rfl ⟨rfl, rfl⟩ (by decide) (Nat.le_of_ble_eq_true rfl) ⟨by decide, by decide⟩ (by omega) (hE.at hsz (by omega)) ?_
  refine jc_n (n2 := c + 268) (by omega) ?_
  refine jc_congr (cg := W0 c cf 2 [.ref (adr M (c + 1)), .int (0 : Int32), .int (0 : Int32)] (va_up (celX M sg0) (c + 1) (.inl (M.2.1 16, 16, .inr (.inr (.inr (.inr (va_up (va_up (va_up (va_up (va_up (va_up (va_up (va_up (va_up (va_up (va_up (va_up (va_up (fun _ => none) 0 (some (adr M (c + 2)))) 1 (some (adr M (c + 21)))) 2 (some (adr M (c + 40)))) 3 (some (adr M (c + 59)))) 4 (some (adr M (c + 78)))) 5 (some (adr M (c + 97)))) 6 (some (adr M (c + 116)))) 7 (some (adr M (c + 135)))) 8 (some (adr M (c + 154)))) 9 (some (adr M (c + 173)))) 10 (some (adr M (c + 192)))) 11 (some (adr M (c + 211)))) 12 (some (adr M (c + 230))))))))))) (up_c (by omega) (fun q h1 h2 => by rw [va_up_ne _ _ (by omega)])) ?_
  refine jc_aast C (a := c + 1) (o := c + 249) (k := 16) (kk := 3) (N := 16) (f := va_up (va_up (va_up (va_up (va_up (va_up (va_up (va_up (va_up (va_up (va_up (va_up (va_up (fun _ => none) 0 (some (adr M (c + 2)))) 1 (some (adr M (c + 21)))) 2 (some (adr M (c + 40)))) 3 (some (adr M (c + 59)))) 4 (some (adr M (c + 78)))) 5 (some (adr M (c + 97)))) 6 (some (adr M (c + 116)))) 7 (some (adr M (c + 135)))) 8 (some (adr M (c + 154)))) 9 (some (adr M (c + 173)))) 10 (some (adr M (c + 192)))) 11 (some (adr M (c + 211)))) 12 (some (adr M (c + 230)))) (t0 := 4) dX2_init_43 (by omega) (by omega) (by omega) ((W0_hi (by omega)).trans (by simp [va_up])) ((W0_hi (by omega)).trans ((va_up_ne _ _ (by omega)).trans (celX_obj (sh_2_14 hc) (by decide)))) rfl rfl (by decide) ?_
  refine jc_congr (cg := W0 c cf 2 [.ref (adr M (c + 1)), .int (0 : Int32), .int (0 : Int32)] (va_up (celX M sg0) (c + 1) (.inl (M.2.1 16, 16, .inr (.inr (.inr (.inr (va_up (va_up (va_up (va_up (va_up (va_up (va_up (va_up (va_up (va_up (va_up (va_up (va_up (va_up (fun _ => none) 0 (some (adr M (c + 2)))) 1 (some (adr M (c + 21)))) 2 (some (adr M (c + 40)))) 3 (some (adr M (c + 59)))) 4 (some (adr M (c + 78)))) 5 (some (adr M (c + 97)))) 6 (some (adr M (c + 116)))) 7 (some (adr M (c + 135)))) 8 (some (adr M (c + 154)))) 9 (some (adr M (c + 173)))) 10 (some (adr M (c + 192)))) 11 (some (adr M (c + 211)))) 12 (some (adr M (c + 230)))) 13 (some (adr M (c + 249))))))))))) (up_d (by omega) _) ?_
  refine jc_iinc C (v := (14 : Int32)) (Ls' := [(1, .int (14 : Int32)), (0, .ref (adr M c))]) dX2_init_44 0 rfl (by decide) (by decide) rfl ?_
  refine jc_goto C (tgt := 25) dX2_init_47 (by decide) ?_
  refine jc_iload_n C dX2_init_25 rfl ?_
  refine jc_bipush C (v := (16 : Int32)) dX2_init_26 (by decide) ?_
  refine jc_ge_f C (tgt := 50) dX2_init_28 (by decide) (by decide) ?_
  refine jc_aload_n C dX2_init_31 rfl ?_
  refine jc_get C (v := .ref (adr M (c + 1))) dX2_init_32 fl_RX2_11 (by omega) W0_self rfl ?_
  refine jc_iload_n C dX2_init_35 rfl ?_
  refine jc_new C hE dX2_init_36 nw_RX2_9 (by omega) (hE.at hsz (by omega)) ⟨by decide, by decide⟩ ?_
  refine jc_n (n2 := c + 269) (by omega) ?_
  refine jc_congr (cg := W0 c cf 2 [.ref (adr M (c + 1)), .int (0 : Int32), .int (0 : Int32)] (va_up (va_up (celX M sg0) (c + 1) (.inl (M.2.1 16, 16, .inr (.inr (.inr (.inr (va_up (va_up (va_up (va_up (va_up (va_up (va_up (va_up (va_up (va_up (va_up (va_up (va_up (va_up (fun _ => none) 0 (some (adr M (c + 2)))) 1 (some (adr M (c + 21)))) 2 (some (adr M (c + 40)))) 3 (some (adr M (c + 59)))) 4 (some (adr M (c + 78)))) 5 (some (adr M (c + 97)))) 6 (some (adr M (c + 116)))) 7 (some (adr M (c + 135)))) 8 (some (adr M (c + 154)))) 9 (some (adr M (c + 173)))) 10 (some (adr M (c + 192)))) 11 (some (adr M (c + 211)))) 12 (some (adr M (c + 230)))) 13 (some (adr M (c + 249)))))))))) (c + 268) (.inr (3, [.null, .null, .null, .int 0, .null, .null])))) (up_b (by omega) _) ?_
  refine jc_dup C dX2_init_39 rfl ?_
  refine jc_init C hE hAO (As := []) dX2_init_40 (KX3_init l M hE (c + 268) ⟨by omega, (sh_2_15 hc)⟩ _ (by rw [W0_hi (by omega)]; simp [va_up])) vi_RX2_24 ⟨rfl, (mem_g 113 (by decide +kernel) (by decide))⟩ rfl rfl ⟨rfl, rfl⟩ (by decide) (Nat.le_of_ble_eq_true rfl) ⟨by decide, by decide⟩ (by omega) (hE.at hsz (by omega)) ?_
  refine jc_n (n2 := c + 287) (by omega) ?_
  refine jc_congr (cg := W0 c cf 2 [.ref (adr M (c + 1)), .int (0 : Int32), .int (0 : Int32)] (va_up (celX M sg0) (c + 1) (.inl (M.2.1 16, 16, .inr (.inr (.inr (.inr (va_up (va_up (va_up (va_up (va_up (va_up (va_up (va_up (va_up (va_up (va_up (va_up (va_up (va_up (fun _ => none) 0 (some (adr M (c + 2)))) 1 (some (adr M (c + 21)))) 2 (some (adr M (c + 40)))) 3 (some (adr M (c + 59)))) 4 (some (adr M (c + 78)))) 5 (some (adr M (c + 97)))) 6 (some (adr M (c + 116)))) 7 (some (adr M (c + 135)))) 8 (some (adr M (c + 154)))) 9 (some (adr M (c + 173)))) 10 (some (adr M (c + 192)))) 11 (some (adr M (c + 211)))) 12 (some (adr M (c + 230)))) 13 (some (adr M (c + 249))))))))))) (up_c (by omega) (fun q h1 h2 => by rw [va_up_ne _ _ (by omega)])) ?_
  refine jc_aast C (a := c + 1) (o := c + 268) (k := 16) (kk := 3) (N := 16) (f := va_up (va_up (va_up (va_up (va_up (va_up (va_up (va_up (va_up (va_up (va_up (va_up (va_up (va_up (fun _ => none) 0 (some (adr M (c + 2)))) 1 (some (adr M (c + 21)))) 2 (some (adr M (c + 40)))) 3 (some (adr M (c + 59)))) 4 (some (adr M (c + 78)))) 5 (some (adr M (c + 97)))) 6 (some (adr M (c + 116)))) 7 (some (adr M (c + 135)))) 8 (some (adr M (c + 154)))) 9 (some (adr M (c + 173)))) 10 (some (adr M (c + 192)))) 11 (some (adr M (c + 211)))) 12 (some (adr M (c + 230)))) 13 (some (adr M (c + 249)))) (t0 := 4) dX2_init_43 (by omega) (by omega) (by omega) ((W0_hi (by omega)).trans (by simp [va_up])) ((W0_hi (by omega)).trans ((va_up_ne _ _ (by omega)).trans (celX_obj (sh_2_15 hc) (by decide)))) rfl rfl (by decide) ?_
  refine jc_congr (cg := W0 c cf 2 [.ref (adr M (c + 1)), .int (0 : Int32), .int (0 : Int32)] (va_up (celX M sg0) (c + 1) (.inl (M.2.1 16, 16, .inr (.inr (.inr (.inr (va_up (va_up (va_up (va_up (va_up (va_up (va_up (va_up (va_up (va_up (va_up (va_up (va_up (va_up (va_up (fun _ => none) 0 (some (adr M (c + 2)))) 1 (some (adr M (c + 21)))) 2 (some (adr M (c + 40)))) 3 (some (adr M (c + 59)))) 4 (some (adr M (c + 78)))) 5 (some (adr M (c + 97)))) 6 (some (adr M (c + 116)))) 7 (some (adr M (c + 135)))) 8 (some (adr M (c + 154)))) 9 (some (adr M (c + 173)))) 10 (some (adr M (c + 192)))) 11 (some (adr M (c + 211)))) 12 (some (adr M (c + 230)))) 13 (some (adr M (c + 249)))) 14 (some (adr M (c + 268))))))))))) (up_d (by omega) _) ?_
  refine jc_iinc C (v := (15 : Int32)) (Ls' := [(1, .int (15 : Int32)), (0, .ref (adr M c))]) dX2_init_44 0 rfl (by decide) (by decide) rfl ?_
  refine jc_goto C (tgt := 25) dX2_init_47 (by decide) ?_
  refine jc_iload_n C dX2_init_25 rfl ?_
  refine jc_bipush C (v := (16 : Int32)) dX2_init_26 (by decide) ?_
  refine jc_ge_f C (tgt := 50) dX2_init_28 (by decide) (by decide) ?_
  refine jc_aload_n C dX2_init_31 rfl ?_
  refine jc_get C (v := .ref (adr M (c + 1))) dX2_init_32 fl_RX2_11 (by omega) W0_self rfl ?_
  refine jc_iload_n C dX2_init_35 rfl ?_
  refine jc_new C hE dX2_init_36 nw_RX2_9 (by omega) (hE.at hsz (by omega)) ⟨by decide, by decide⟩ ?_
  refine jc_n (n2 := c + 288) (by omega) ?_
  refine jc_congr (cg := W0 c cf 2 [.ref (adr M (c + 1)), .int (0 : Int32), .int (0 : Int32)] (va_up (va_up (celX M sg0) (c + 1) (.inl (M.2.1 16, 16, .inr (.inr (.inr (.inr (va_up (va_up (va_up (va_up (va_up (va_up (va_up (va_up (va_up (va_up (va_up (va_up (va_up (va_up (va_up (fun _ => none) 0 (some (adr M (c + 2)))) 1 (some (adr M (c + 21)))) 2 (some (adr M (c + 40)))) 3 (some (adr M (c + 59)))) 4 (some (adr M (c + 78)))) 5 (some (adr M (c + 97)))) 6 (some (adr M (c + 116)))) 7 (some (adr M (c + 135)))) 8 (some (adr M (c + 154)))) 9 (some (adr M (c + 173)))) 10 (some (adr M (c + 192)))) 11 (some (adr M (c + 211)))) 12 (some (adr M (c + 230)))) 13 (some (adr M (c + 249)))) 14 (some (adr M (c + 268)))))))))) (c + 287) (.inr (3, [.null, .null, .null, .int 0, .null, .null])))) (up_b (by omega) _) ?_
  refine jc_dup C dX2_init_39 rfl ?_
  refine jc_init C hE hAO (As := []) dX2_init_40 (KX3_init l M hE (c + 287) ⟨by omega, (sh_2_16 hc)⟩ _ (by rw [W0_hi (by omega)]; simp [va_up])) vi_RX2_24 ⟨rfl, (mem_g 113 (by decide +kernel) (by decide))⟩ rfl rfl ⟨rfl, rfl⟩ (by decide) (Nat.le_of_ble_eq_true rfl) ⟨by decide, by decide⟩ (by omega) (hE.at hsz (by omega)) ?_
  refine jc_n (n2 := c + 306) (by omega) ?_
  refine jc_congr (cg := W0 c cf 2 [.ref (adr M (c + 1)), .int (0 : Int32), .int (0 : Int32)] (va_up (celX M sg0) (c + 1) (.inl (M.2.1 16, 16, .inr (.inr (.inr (.inr (va_up (va_up (va_up (va_up (va_up (va_up (va_up (va_up (va_up (va_up (va_up (va_up (va_up (va_up (va_up (fun _ => none) 0 (some (adr M (c + 2)))) 1 (some (adr M (c + 21)))) 2 (some (adr M (c + 40)))) 3 (some (adr M (c + 59)))) 4 (some (adr M (c + 78)))) 5 (some (adr M (c + 97)))) 6 (some (adr M (c + 116)))) 7 (some (adr M (c + 135)))) 8 (some (adr M (c + 154)))) 9 (some (adr M (c + 173)))) 10 (some (adr M (c + 192)))) 11 (some (adr M (c + 211)))) 12 (some (adr M (c + 230)))) 13 (some (adr M (c + 249)))) 14 (some (adr M (c + 268))))))))))) (up_c (by omega) (fun q h1 h2 => by rw [va_up_ne _ _ (by omega)])) ?_
  refine jc_aast C (a := c + 1) (o := c + 287) (k := 16) (kk := 3) (N := 16) (f := va_up (va_up (va_up (va_up (va_up (va_up (va_up (va_up (va_up (va_up (va_up (va_up (va_up (va_up (va_up (fun _ => none) 0 (some (adr M (c + 2)))) 1 (some (adr M (c + 21)))) 2 (some (adr M (c + 40)))) 3 (some (adr M (c + 59)))) 4 (some (adr M (c + 78)))) 5 (some (adr M (c + 97)))) 6 (some (adr M (c + 116)))) 7 (some (adr M (c + 135)))) 8 (some (adr M (c + 154)))) 9 (some (adr M (c + 173)))) 10 (some (adr M (c + 192)))) 11 (some (adr M (c + 211)))) 12 (some (adr M (c + 230)))) 13 (some (adr M (c + 249)))) 14 (some (adr M (c + 268)))) (t0 := 4) dX2_init_43 (by omega) (by omega) (by omega) ((W0_hi (by omega)).trans (by simp [va_up])) ((W0_hi (by omega)).trans ((va_up_ne _ _ (by omega)).trans (celX_obj (sh_2_16 hc) (by decide)))) rfl rfl (by decide) ?_
  refine jc_congr (cg := W0 c cf 2 [.ref (adr M (c + 1)), .int (0 : Int32), .int (0 : Int32)] (va_up (celX M sg0) (c + 1) (.inl (M.2.1 16, 16, .inr (.inr (.inr (.inr (va_up (va_up (va_up (va_up (va_up (va_up (va_up (va_up (va_up (va_up (va_up (va_up (va_up (va_up (va_up (va_up (fun _ => none) 0 (some (adr M (c + 2)))) 1 (some (adr M (c + 21)))) 2 (some (adr M (c + 40)))) 3 (some (adr M (c + 59)))) 4 (some (adr M (c + 78)))) 5 (some (adr M (c + 97)))) 6 (some (adr M (c + 116)))) 7 (some (adr M (c + 135)))) 8 (some (adr M (c + 154)))) 9 (some (adr M (c + 173)))) 10 (some (adr M (c + 192)))) 11 (some (adr M (c + 211)))) 12 (some (adr M (c + 230)))) 13 (some (adr M (c + 249)))) 14 (some (adr M (c + 268)))) 15 (some (adr M (c + 287))))))))))) (up_d (by omega) _) ?_
  refine jc_iinc C (v := (16 : Int32)) (Ls' := [(1, .int (16 : Int32)), (0, .ref (adr M c))]) dX2_init_44 0 rfl (by decide) (by decide) rfl ?_
  refine jc_goto C (tgt := 25) dX2_init_47 (by decide) ?_
  refine jc_iload_n C dX2_init_25 rfl ?_
  refine jc_bipush C (v := (16 : Int32)) dX2_init_26 (by decide) ?_
  refine jc_ge_t C (tgt := 50) dX2_init_28 (by decide) (by decide) ?_
  exact jc_vret C hE dX2_init_50 (fin0 hself (fun q _ _ => ov_ok hov q)) (by omega) (hE.at hsz (by omega))
