theorem lo_1 : Cond.instanceMethod Lib.objectInit ∈ lw_g := (mem_g 96 (by decide +kernel) (by decide))
theorem lo_2 : Cond.code Lib.objectInit ⟨#[0xb1]⟩ 1 none ∈ lw_g := (mem_g 97 (by decide +kernel) (by decide))
theorem ac_int : Cond.arrayClass .int ∈ lw_g := (mem_g 141 (by decide +kernel) (by decide))
theorem ac_byte : Cond.arrayClass .byte ∈ lw_g := (mem_g 299 (by decide +kernel) (by decide))
theorem ac_short : Cond.arrayClass .short ∈ lw_g := (mem_g 298 (by decide +kernel) (by decide))
theorem ac_boolean : Cond.arrayClass .boolean ∈ lw_g := (mem_g 1134 (by decide +kernel) (by decide))
/-- java.util.Arrays.fill over a world that grows -/
theorem va_up_eq {α : Type} (f : Nat → α) (k : Nat) (v : α) : va_up f k v k = v := by simp [va_up]
section FILL
variable {p : Program} {l : Launch} {e : Env} {R : Room} {s : State} {m : MethodId} {args : Array Value} {below : List Frame} {meth : Method} {c : Code} {M : Mc} {nL : Nat} {Q : State → Prop} {cc : ByteArray} {own : String} {ret1 : Option FieldType} {n cs sl : Nat} {cf : Nat → va_E} {pc : Nat} {Ls : List (Nat × Value)} {st : List Value}
theorem jc_iadd (C : Cx p s m args meth c M cc nL own ret1) {x y v : Int32} (d : decode cc pc = .ok (.iadd, 1)) (hv : x + y = v) (h : JC p l e R s m args below meth c M nL Q n cf cs sl (pc + 1) Ls (.int v :: st)) : JC p l e R s m args below meth c M nL Q n cf cs sl pc Ls (.int y :: .int x :: st) := jc_lift (fun H locs ls hl hw k => lv_iadd C.1.1 C.1.2 d (by rw [hv]; exact k)) h
theorem jc_iast2 (C : Cx p s m args meth c M cc nL own ret1) {i v : Int32} {o a k N : Nat} {fs : List Value} {g : Nat → va_E} {f f2 : Nat → Int32} (d : decode cc pc = .ok (.iastore, 1)) (ha : a < n) (hoa : o < a) (hN : n ≤ NC) (hi : inR i N) (hf : upd f i.toNatClampNeg v = f2) (h : JC p l e R s m args below meth c M nL Q n (W0 o cf k fs (va_up g a (.inl (M.2.1 13, N, .inl f2)))) cs sl (pc + 1) Ls st) : JC p l e R s m args below meth c M nL Q n (W0 o cf k fs (va_up g a (.inl (M.2.1 13, N, .inl f)))) cs sl pc Ls (.int v :: .int i :: .ref (adr M a) :: st) := by
  refine jc_iast C (a := a) (N := N) (f := f) d ha hN ((W0_hi hoa).trans (va_up_eq _ _ _)) hi ?_
  rw [hf]
  exact jc_congr (up_d hoa _) h
end FILL
set_option maxRecDepth 20000 in
set_option maxHeartbeats 4000000 in
theorem cfill (l : Launch) (M : Mc) (hE : Ex M) {a n N : Nat} {f : Nat → Int32} {v : Int32} {cf : Nat → va_E} (ha : a < n) (hn : n ≤ NC) (hN : N < 2 ^ 31) (hc : cf a = .inl (M.2.1 13, N, .inl f)) : CtC l M yJ7_fill_53178 cJ7_fill_53178 4 { frames := 0, cells := 0, slots := 0, locals := 0 } 0 0 [.ref (adr M a), .int v] n cf n (va_up cf a (.inl (M.2.1 13, N, .inl fun j => if j < N then v else f j))) := by
  refine ctc_of (l := l) hE.Dj (by decide) (Nat.le_of_ble_eq_true rfl) ?_
  intro p e s m args below meth cd C hin hsz hAO
  have key : ∀ (d i : Nat), i + d = N → JC p l e { frames := 0, cells := 0, slots := 0, locals := 0 } s m args below meth cd M 4 (MQ below (QdC M n (va_up cf a (.inl (M.2.1 13, N, .inl fun j => if j < N then v else f j)))) args s 0 0 (Am M)) n (va_up cf a (.inl (M.2.1 13, N, .inl (flx 0 i v f)))) 0 0 5 [(2, .int (nI i)), (3, .int (nI N)), (0, .ref (adr M a)), (1, .int v)] [] := by
    intro d
    induction d with
    | zero =>
      intro i hi
      have hi2 : i = N := by omega
      subst hi2
      refine jc_iload_n C dJ7_fill_53178_5 rfl ?_
      refine jc_iload_n C dJ7_fill_53178_6 rfl ?_
      refine jc_ge_t C (tgt := 20) dJ7_fill_53178_7 (by decide) (Int32.le_refl _) ?_
      refine jc_vret C hE dJ7_fill_53178_20 (fun k hk => ?_) (by omega) (by rw [hsz]; rfl)
      congr 1
      unfold flx
      simp
    | succ d ih =>
      intro i hi
      refine jc_iload_n C dJ7_fill_53178_5 rfl ?_
      refine jc_iload_n C dJ7_fill_53178_6 rfl ?_
      refine jc_ge_f C (tgt := 20) dJ7_fill_53178_7 (by decide) (nI_ge (by omega) hN) ?_
      refine jc_aload_n C dJ7_fill_53178_10 rfl ?_
      refine jc_iload_n C dJ7_fill_53178_11 rfl ?_
      refine jc_iload_n C dJ7_fill_53178_12 rfl ?_
      refine jc_iast C (a := a) (N := N) (f := flx 0 i v f) dJ7_fill_53178_13 ha hn (va_up_eq _ _ _) (nI_in (by omega) hN) ?_
      rw [nI_clamp (by omega), bx_uu, show upd (flx 0 i v f) i v = flx 0 (i + 1) v f from by have := flx_s 0 i v f; rwa [Nat.zero_add] at this]
      refine jc_iinc C (v := nI (i + 1)) (Ls' := [(2, .int (nI (i + 1))), (3, .int (nI N)), (0, .ref (adr M a)), (1, .int v)]) dJ7_fill_53178_14 0 rfl (by rw [← nI_1]; rfl) (by decide) rfl ?_
      refine jc_goto C (tgt := 5) dJ7_fill_53178_17 (by decide) ?_
      exact ih (i + 1) (by omega)
  refine jc_iconst C (v := 0) dJ7_fill_53178_0 (by decide) ?_
  refine jc_istore_n C (Ls' := [(2, .int 0), (0, .ref (adr M a)), (1, .int v)]) dJ7_fill_53178_1 (by decide) rfl ?_
  refine jc_aload_n C dJ7_fill_53178_2 rfl ?_
  refine jc_alen C dJ7_fill_53178_3 ha hc ?_
  refine jc_istore_n C (Ls' := [(3, .int (nI N)), (2, .int 0), (0, .ref (adr M a)), (1, .int v)]) dJ7_fill_53178_4 (by decide) rfl ?_
  have h0 := key N 0 (by omega)
  rw [flx_0] at h0
  intro H locs ls hw hs hl
  refine h0 H locs ls ?_ hs (lv_sub hl [1, 0, 2, 3] (by rw [nI_0]; rfl))
  rwa [wlp_congr (cg := va_up cf a (.inl (M.2.1 13, N, .inl f))) (fun k hk => by unfold va_up; split; (rename_i h; rw [h, hc]); rfl)] at hw

theorem ff_8_1 : FSF RX8 8 1 (tyX8 1) := ⟨RX8, TX8, 3, tyX8, rfl, tyX8_ok, nmX8, rfl, by decide +kernel, rfl⟩
theorem ff_8_2 : FSF RX8 8 2 (tyX8 2) := ⟨RX8, TX8, 3, tyX8, rfl, tyX8_ok, nmX8, rfl, by decide +kernel, rfl⟩
theorem vs_RX8_22 : VS RX8 22 yJ7_fill_53178 cJ7_fill_53178 4 none 2 := ⟨⟨⟨cd_yJ7_fill_53178, cini_RJ7, (mem_g 122 (by decide +kernel) (by decide))⟩, by decide, by decide, by decide +kernel⟩, ci_yJ7_fill_53178⟩
theorem shb_8_0 : ((List.range NC).all fun c => decide (kd c = 8 → (c + 3 ≤ NC ∧ (kd (c + 1) = 13 ∧ ln (c + 1) = 7 ∧ frT.getD (c + 1) 0 = 1) ∧ (kd (c + 2) = 13 ∧ ln (c + 2) = 6 ∧ frT.getD (c + 2) 0 = 1) ∧ rf c 1 = c + 1 ∧ rf c 2 = c + 2 ∧ obT.getD c [] = [3, 0, 0]))) = true := by decide +kernel
theorem shc_8_0 {c : Nat} (h : isK c 8) : c + 3 ≤ NC ∧ (kd (c + 1) = 13 ∧ ln (c + 1) = 7 ∧ frT.getD (c + 1) 0 = 1) ∧ (kd (c + 2) = 13 ∧ ln (c + 2) = 6 ∧ frT.getD (c + 2) 0 = 1) ∧ rf c 1 = c + 1 ∧ rf c 2 = c + 2 ∧ obT.getD c [] = [3, 0, 0] := of_decide_eq_true (List.all_eq_true.mp shb_8_0 c (List.mem_range.mpr h.1)) h.2
theorem sh_8_0 {c : Nat} (h : isK c 8) : c + 3 ≤ NC := (shc_8_0 h).1
theorem sh_8_1 {c : Nat} (h : isK c 8) : (kd (c + 1) = 13 ∧ ln (c + 1) = 7 ∧ frT.getD (c + 1) 0 = 1) := (shc_8_0 h).2.1
theorem sh_8_2 {c : Nat} (h : isK c 8) : (kd (c + 2) = 13 ∧ ln (c + 2) = 6 ∧ frT.getD (c + 2) 0 = 1) := (shc_8_0 h).2.2.1
theorem sh_8_3 {c : Nat} (h : isK c 8) : rf c 1 = c + 1 := (shc_8_0 h).2.2.2.1
theorem sh_8_4 {c : Nat} (h : isK c 8) : rf c 2 = c + 2 := (shc_8_0 h).2.2.2.2.1
theorem sh_8_5 {c : Nat} (h : isK c 8) : obT.getD c [] = [3, 0, 0] := (shc_8_0 h).2.2.2.2.2
set_option maxRecDepth 100000 in
set_option maxHeartbeats 4000000 in
theorem KX8_init (l : Launch) (M : Mc) (hE : Ex M) (c : Nat) (hc : isK c 8) (cf : Nat → va_E) (hz : cf c = .inr (8, [.int 0, .null, .null])) : CtC l M yX8_init cX8_init 1 { frames := 1, cells := 2, slots := 13, locals := 30 } 2 13 [.ref (adr M c)] (c + 1) cf (c + 3) (mix M c cf) := by
  have hh0 := sh_8_0 hc
  have hi0 : sg0 c 0 = (3 : Int32) := by rw [sg0_obj hc.2 (by decide) (sh_8_5 hc)]; rfl
  have hself : celX M sg0 c = .inr (8, [.int (3 : Int32), .ref (adr M (c + 1)), .ref (adr M (c + 2))]) := by
    rw [celX_obj hc.2 (by decide), mp_eq]
    show (Sum.inr (8, [.int (sg0 c 0), .ref (adr M (rf c 1)), .ref (adr M (rf c 2))]) : va_E) = _
    rw [hi0, (sh_8_3 hc), (sh_8_4 hc)]
  refine ctc_of (l := l) hE.Dj (by decide) (Nat.le_of_ble_eq_true rfl) ?_
  intro p e s m args below meth cd C hin hsz hAO
  refine jc_congr (cg := W0 c cf 8 [.int 0, .null, .null] (celX M sg0)) (ent0 hz) ?_
  refine jc_aload_n C dX8_init_0 rfl ?_
  refine jc_obj C dX8_init_1 (mem_g 121 (by decide +kernel) (by decide)) lo_1 lo_2 (by decide) (Nat.le_of_ble_eq_true rfl) ?_
  refine jc_aload_n C dX8_init_4 rfl ?_
  refine jc_iconst C (v := (3 : Int32)) dX8_init_5 (by decide) ?_
  refine jc_put C (fs2 := [.int (3 : Int32), .null, .null]) dX8_init_6 fl_RX8_9 fs_8_0 (by omega) (by omega) (Nat.le_of_ble_eq_true rfl) rfl rfl rfl ?_
  refine jc_aload_n C dX8_init_9 rfl ?_
  refine jc_bipush C (v := (7 : Int32)) dX8_init_10 (by decide) ?_
  refine jc_newa_i C hE (N := 7) dX8_init_12 ac_int (by omega) (hE.at hsz (by omega)) (by decide) (by decide) (by decide) ⟨by decide, by decide⟩ ?_
  refine jc_n (n2 := c + 2) (by omega) ?_
  refine jc_congr (cg := W0 c cf 8 [.int (3 : Int32), .null, .null] (va_up (celX M sg0) (c + 1) (.inl (M.2.1 13, 7, .inl fun _ => 0)))) (up_b (by omega) _) ?_
  refine jc_putF C (fs2 := [.int (3 : Int32), .ref (adr M (c + 1)), .null]) dX8_init_14 fl_RX8_15 ff_8_1 hin (by omega) (by omega) (Nat.le_of_ble_eq_true rfl) rfl rfl rfl ?_
  refine jc_aload_n C dX8_init_17 rfl ?_
  refine jc_bipush C (v := (6 : Int32)) dX8_init_18 (by decide) ?_
  refine jc_newa_i C hE (N := 6) dX8_init_20 ac_int (by omega) (hE.at hsz (by omega)) (by decide) (by decide) (by decide) ⟨by decide, by decide⟩ ?_
  refine jc_n (n2 := c + 3) (by omega) ?_
  refine jc_congr (cg := W0 c cf 8 [.int (3 : Int32), .ref (adr M (c + 1)), .null] (va_up (va_up (celX M sg0) (c + 1) (.inl (M.2.1 13, 7, .inl fun _ => 0))) (c + 2) (.inl (M.2.1 13, 6, .inl fun _ => 0)))) (up_b (by omega) _) ?_
  refine jc_putF C (fs2 := [.int (3 : Int32), .ref (adr M (c + 1)), .ref (adr M (c + 2))]) dX8_init_22 fl_RX8_19 ff_8_2 hin (by omega) (by omega) (Nat.le_of_ble_eq_true rfl) rfl rfl rfl ?_
  refine jc_aload_n C dX8_init_25 rfl ?_
  refine jc_get C (v := .ref (adr M (c + 1))) dX8_init_26 fl_RX8_15 (by omega) W0_self rfl ?_
  refine jc_bipush C (v := (10 : Int32)) dX8_init_29 (by decide) ?_
  refine jc_callS C hE hAO (As := [.ref (adr M (c + 1)), .int (10 : Int32)]) dX8_init_31 (cfill l M hE (a := c + 1) (n := c + 3) (N := 7) (f := fun _ => 0) (v := (10 : Int32)) (by omega) (by omega) (by decide) (by rw [W0_hi (by omega)]; simp [va_up])) vs_RX8_22 rfl rfl ⟨rfl, rfl⟩ (by decide) (Nat.le_of_ble_eq_true rfl) ⟨by decide, by decide⟩ (by omega) (hE.at hsz (by omega)) ?_
  refine jc_congr (cg := W0 c cf 8 [.int (3 : Int32), .ref (adr M (c + 1)), .ref (adr M (c + 2))] (va_up (celX M sg0) (c + 2) (.inl (M.2.1 13, 6, .inl fun _ => 0)))) (fun q hq => ?_) ?_
  · by_cases a1 : q = c + 1
    · subst a1
      rw [va_up_eq, W0_hi (by omega), va_up_ne _ _ (by omega), celX_arr1 (sh_8_1 hc)]
    · rw [va_up_ne _ _ a1]
      unfold W0
      split
      · rfl
      split
      · rfl
      simp [va_up, a1]
  refine jc_aload_n C dX8_init_34 rfl ?_
  refine jc_get C (v := .ref (adr M (c + 2))) dX8_init_35 fl_RX8_19 (by omega) W0_self rfl ?_
  refine jc_bipush C (v := (10 : Int32)) dX8_init_38 (by decide) ?_
  refine jc_callS C hE hAO (As := [.ref (adr M (c + 2)), .int (10 : Int32)]) dX8_init_40 (cfill l M hE (a := c + 2) (n := c + 3) (N := 6) (f := fun _ => 0) (v := (10 : Int32)) (by omega) (by omega) (by decide) (by rw [W0_hi (by omega)]; simp [va_up])) vs_RX8_22 rfl rfl ⟨rfl, rfl⟩ (by decide) (Nat.le_of_ble_eq_true rfl) ⟨by decide, by decide⟩ (by omega) (hE.at hsz (by omega)) ?_
  refine jc_congr (cg := W0 c cf 8 [.int (3 : Int32), .ref (adr M (c + 1)), .ref (adr M (c + 2))] (celX M sg0)) (fun q hq => ?_) ?_
  · by_cases a1 : q = c + 2
    · subst a1
      rw [va_up_eq, W0_hi (by omega), celX_arr1 (sh_8_2 hc)]
    · rw [va_up_ne _ _ a1]
      unfold W0
      split
      · rfl
      split
      · rfl
      simp [va_up, a1]
  exact jc_vret C hE dX8_init_43 (fin0 hself (fun q _ _ => rfl)) (by omega) (hE.at hsz (by omega))
