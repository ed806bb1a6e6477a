theorem nw_RL_7 : NW RL 7 10 6 [.null, .null, .null, .null, .null, .int 0] := ⟨RX10, TX10, tyX10, rfl, cw_X10, ⟨(mem_g 90 (by decide +kernel) (by decide)), (mem_g 91 (by decide +kernel) (by decide)), (mem_g 75 (by decide +kernel) (by decide))⟩, tyX10_ok, by decide +kernel⟩
theorem nw_RL_10 : NW RL 10 11 41 [.null, .null, .int 0, .int 0, .int 0, .null, .null, .null, .null, .int 0, .null, .null, .null, .null, .null, .null, .null, .null, .null, .null, .null, .null, .null, .null, .null, .int 0, .int 0, .int 0, .int 0, .int 0, .int 0, .int 0, .int 0, .int 0, .int 0, .null, .null, .null, .null, .int 0, .int 0] := ⟨RX11, TX11, tyX11, rfl, cw_X11, ⟨(mem_g 1004 (by decide +kernel) (by decide)), (mem_g 1005 (by decide +kernel) (by decide)), (mem_g 87 (by decide +kernel) (by decide))⟩, tyX11_ok, by decide +kernel⟩
theorem vi_RL_9 : VB RL 9 yX10_init cX10_init 2 none 0 := ⟨⟨(mem_g 94 (by decide +kernel) (by decide)), (mem_g 75 (by decide +kernel) (by decide)), (mem_g 92 (by decide +kernel) (by decide))⟩, by decide, by decide, by decide +kernel⟩
theorem vj_RL_9 : Cond.instanceMethod yX10_init ∈ lw_g := (mem_g 93 (by decide +kernel) (by decide))
theorem vi_RL_12 : VB RL 12 yX11_init cX11_init 2 none 0 := ⟨⟨(mem_g 1008 (by decide +kernel) (by decide)), (mem_g 87 (by decide +kernel) (by decide)), (mem_g 1006 (by decide +kernel) (by decide))⟩, by decide, by decide, by decide +kernel⟩
theorem vj_RL_12 : Cond.instanceMethod yX11_init ∈ lw_g := (mem_g 1007 (by decide +kernel) (by decide))
theorem idX_ok : isK 0 10 := ⟨by decide +kernel, by decide +kernel⟩
theorem idM_ok : isK 373 11 := ⟨by decide +kernel, by decide +kernel⟩
/-- the two statics -/
theorem stc_known {b : Nat} {s : State} (A : Nat → Prop) (hA : ∀ a : Nat, a < s.heap.size → ¬ A a) (hts : ∀ w ∈ lw_tbl, w.before #[Value.ref b] s = true) (hgv : (Jvm.Cond.and given_1 narrow_1).before #[Value.ref b] s = true) :
    ∃ t1 t2 : Nat, ((va_Z "SidingLine$Trains" "RANK_OF_KIND" "[I" (.ref t1) A s s.heap ∧ va_T .int t1 4 (fun j => .int (rnk j)) A s s.heap) ∧ (va_Z "SidingLine$Trains" "KIND_ABOVE" "[I" (.ref t2) A s s.heap ∧ va_T .int t2 4 (fun j => .int (kab j)) A s s.heap)) := by
  have hs := flat_of_before _ hgv
  have hini := hts (.initialized "SidingLine$Trains") (mem_t 81 (by decide +kernel))
  obtain ⟨t1, e1, hT1⟩ := va_Tof (args := #[Value.ref b]) (s := s) (tm := (Term.static "SidingLine$Trains" "RANK_OF_KIND" "[I")) (ty := .int) (N := 4) (f := fun j => .int (rnk j)) (A := A) (by decide) (hs _ (by decide +kernel)) (va_eqt (hs (.eq (.length (Term.static "SidingLine$Trains" "RANK_OF_KIND" "[I")) (.int 4)) (by decide +kernel))) (fun j hj => by
    match j, hj with
    | 0, _ => exact va_eqt (hs (.eq (.elem (Term.static "SidingLine$Trains" "RANK_OF_KIND" "[I") (.int 0)) (.int 0)) (by decide +kernel))
    | 1, _ => exact va_eqt (hs (.eq (.elem (Term.static "SidingLine$Trains" "RANK_OF_KIND" "[I") (.int 1)) (.int 1)) (by decide +kernel))
    | 2, _ => exact va_eqt (hs (.eq (.elem (Term.static "SidingLine$Trains" "RANK_OF_KIND" "[I") (.int 2)) (.int 2)) (by decide +kernel))
    | 3, _ => exact va_eqt (hs (.eq (.elem (Term.static "SidingLine$Trains" "RANK_OF_KIND" "[I") (.int 3)) (.int 0)) (by decide +kernel))
    | j + 4, h => omega) hA
  obtain ⟨t2, e2, hT2⟩ := va_Tof (args := #[Value.ref b]) (s := s) (tm := (Term.static "SidingLine$Trains" "KIND_ABOVE" "[I")) (ty := .int) (N := 4) (f := fun j => .int (kab j)) (A := A) (by decide) (hs _ (by decide +kernel)) (va_eqt (hs (.eq (.length (Term.static "SidingLine$Trains" "KIND_ABOVE" "[I")) (.int 4)) (by decide +kernel))) (fun j hj => by
    match j, hj with
    | 0, _ => exact va_eqt (hs (.eq (.elem (Term.static "SidingLine$Trains" "KIND_ABOVE" "[I") (.int 0)) (.int (-1))) (by decide +kernel))
    | 1, _ => exact va_eqt (hs (.eq (.elem (Term.static "SidingLine$Trains" "KIND_ABOVE" "[I") (.int 1)) (.int 0)) (by decide +kernel))
    | 2, _ => exact va_eqt (hs (.eq (.elem (Term.static "SidingLine$Trains" "KIND_ABOVE" "[I") (.int 2)) (.int 1)) (by decide +kernel))
    | 3, _ => exact va_eqt (hs (.eq (.elem (Term.static "SidingLine$Trains" "KIND_ABOVE" "[I") (.int 3)) (.int 0)) (by decide +kernel))
    | j + 4, h => omega) hA
  exact ⟨t1, t2, ⟨va_Zof (hts _ (mem_t 624 (by decide +kernel))) hini e1 hA, hT1⟩, va_Zof (hts _ (mem_t 569 (by decide +kernel))) hini e2 hA, hT2⟩
/-- the machine's own numbers of classes and arrays -/
theorem mc_known {b : Nat} {s : State} (hts : ∀ w ∈ lw_tbl, w.before #[Value.ref b] s = true) (hAO : AOs s) : ∃ (D : va_G) (dA : Nat → ClassId), ∀ (ad : Nat → Nat) (t1 t2 : Nat), va_K D vwCl (tys (D, dA, ad, t1, t2)) s := by
  obtain ⟨c0, i0, hK0⟩ := u_known (C := RX0) (T := TX0) (N := 15) (n := 15) hts (fun w h => lw_g_in (cw_X0 w h)) (hts (.instantiable RX0 15) (mem_t 105 (by decide +kernel)))
  obtain ⟨c1, i1, hK1⟩ := u_known (C := RX1) (T := TX1) (N := 13) (n := 13) hts (fun w h => lw_g_in (cw_X1 w h)) (hts (.instantiable RX1 13) (mem_t 241 (by decide +kernel)))
  obtain ⟨c2, i2, hK2⟩ := u_known (C := RX2) (T := TX2) (N := 3) (n := 3) hts (fun w h => lw_g_in (cw_X2 w h)) (hts (.instantiable RX2 3) (mem_t 400 (by decide +kernel)))
  obtain ⟨c3, i3, hK3⟩ := u_known (C := RX3) (T := TX3) (N := 6) (n := 6) hts (fun w h => lw_g_in (cw_X3 w h)) (hts (.instantiable RX3 6) (mem_t 111 (by decide +kernel)))
  obtain ⟨c4, i4, hK4⟩ := u_known (C := RX4) (T := TX4) (N := 4) (n := 4) hts (fun w h => lw_g_in (cw_X4 w h)) (hts (.instantiable RX4 4) (mem_t 99 (by decide +kernel)))
  obtain ⟨c5, i5, hK5⟩ := u_known (C := RX5) (T := TX5) (N := 7) (n := 7) hts (fun w h => lw_g_in (cw_X5 w h)) (hts (.instantiable RX5 7) (mem_t 178 (by decide +kernel)))
  obtain ⟨c6, i6, hK6⟩ := u_known (C := RX6) (T := TX6) (N := 8) (n := 8) hts (fun w h => lw_g_in (cw_X6 w h)) (hts (.instantiable RX6 8) (mem_t 302 (by decide +kernel)))
  obtain ⟨c7, i7, hK7⟩ := u_known (C := RX7) (T := TX7) (N := 3) (n := 3) hts (fun w h => lw_g_in (cw_X7 w h)) (hts (.instantiable RX7 3) (mem_t 421 (by decide +kernel)))
  obtain ⟨c8, i8, hK8⟩ := u_known (C := RX8) (T := TX8) (N := 3) (n := 3) hts (fun w h => lw_g_in (cw_X8 w h)) (hts (.instantiable RX8 3) (mem_t 117 (by decide +kernel)))
  obtain ⟨c9, i9, hK9⟩ := u_known (C := RX9) (T := TX9) (N := 6) (n := 6) hts (fun w h => lw_g_in (cw_X9 w h)) (hts (.instantiable RX9 6) (mem_t 143 (by decide +kernel)))
  obtain ⟨c10, i10, hK10⟩ := u_known (C := RX10) (T := TX10) (N := 6) (n := 6) hts (fun w h => lw_g_in (cw_X10 w h)) (hts (.instantiable RX10 6) (mem_t 91 (by decide +kernel)))
  obtain ⟨c11, i11, hK11⟩ := u_known (C := RX11) (T := TX11) (N := 41) (n := 41) hts (fun w h => lw_g_in (cw_X11 w h)) (hts (.instantiable RX11 41) (mem_t 1005 (by decide +kernel)))
  obtain ⟨a0, hA0⟩ := arr_known (hts (.arrayClass .byte) (mem_t 299 (by decide +kernel))) (fun C h => by cases h)
  obtain ⟨a1, hA1⟩ := arr_known (hts (.arrayClass .int) (mem_t 141 (by decide +kernel))) (fun C h => by cases h)
  obtain ⟨a2, hA2⟩ := arr_known (hts (.arrayClass .short) (mem_t 298 (by decide +kernel))) (fun C h => by cases h)
  obtain ⟨a3, hA3⟩ := arr_known (hts (.arrayClass .boolean) (mem_t 1134 (by decide +kernel))) (fun C h => by cases h)
  obtain ⟨a4, hA4⟩ := rarr_known hAO.1
  obtain ⟨a5, hA5⟩ := rarr_known hAO.2.1
  obtain ⟨a6, hA6⟩ := rarr_known hAO.2.2
  refine ⟨(fun k => ([c0, c1, c2, c3, c4, c5, c6, c7, c8, c9, c10, c11] : List ClassId).getD k c0, fun k => ([i0, i1, i2, i3, i4, i5, i6, i7, i8, i9, i10, i11] : List (Nat → Nat)).getD k i0), fun k => ([a0, a1, a2, a3, a4, a5, a6] : List ClassId).getD (k - 12) a0, fun ad t1 t2 => ⟨fun k q hq => ?_, fun k q hq => ?_⟩⟩
  · match k, hq with
    | 0, hq => cases hq; exact hK0
    | 1, hq => cases hq; exact hK1
    | 2, hq => cases hq; exact hK2
    | 3, hq => cases hq; exact hK3
    | 4, hq => cases hq; exact hK4
    | 5, hq => cases hq; exact hK5
    | 6, hq => cases hq; exact hK6
    | 7, hq => cases hq; exact hK7
    | 8, hq => cases hq; exact hK8
    | 9, hq => cases hq; exact hK9
    | 10, hq => cases hq; exact hK10
    | 11, hq => cases hq; exact hK11
    | k + 12, hq => simp [vwCl] at hq
  · match k, hq with
    | 0, hq => cases hq; exact hA0
    | 1, hq => cases hq; exact hA1
    | 2, hq => cases hq; exact hA2
    | 3, hq => cases hq; exact hA3
    | 4, hq => cases hq; exact hA4
    | 5, hq => cases hq; exact hA5
    | 6, hq => cases hq; exact hA6
    | k + 7, hq => simp [tys] at hq
set_option maxRecDepth 100000 in
set_option maxHeartbeats 4000000 in
/-- THE LAW, from its entry, if its pure tail answers 1 -/
theorem start_of (hpure : ∀ (xs : Nat → Int32) (L : Nat), L ≤ 3072 → ∃ σ', fL_law xs L 0 373 sg0 = some (1, σ')) {p : Program} {e : Env} {s : State} {m : MethodId} {below : List Frame} {meth : Method} {c : Code} (l : Launch) {b L : Nat} {xs : Nat → Int32} (hL : L ≤ 3072) (C0 : lw_At p s m meth c b L xs) : W p l e room_1 s m #[Value.ref b] below meth c s.heap [] 0 0 (lw_Z below #[Value.ref b] s) (entryFrame m ([Value.ref b] : List Value).toArray 4) := by
  obtain ⟨hx, hb, hr, hml, hown, hts, hX, hbl, hlocks, hgv⟩ := id C0
  have hAO : AOs s := ⟨va_AO.of (hts _ (mem_t 406 (by decide +kernel))), va_AO.of (hts _ (mem_t 301 (by decide +kernel))), va_AO.of (hts _ (mem_t 420 (by decide +kernel)))⟩
  obtain ⟨D, dA, hKK⟩ := mc_known hts hAO
  obtain ⟨t1, t2, hSt⟩ := stc_known (fun q => ∃ k, k < NC ∧ q = s.heap.size + k) (fun a ha h => by obtain ⟨k, -, h⟩ := h; omega) hts hgv
  obtain ⟨M, hM⟩ : ∃ M : Mc, M = (D, dA, (fun k => s.heap.size + k), t1, t2) := ⟨_, rfl⟩
  have had : ∀ k, adr M k = s.heap.size + k := fun k => by rw [hM]; rfl
  have hE : Ex M := fun k => by rw [had, had]; omega
  have hK : va_K M.1 vwCl (tys M) s := by rw [hM]; exact hKK _ t1 t2
  have hS0 : Stc M s s.heap := by
    have hAm : Am M = fun q => ∃ k, k < NC ∧ q = s.heap.size + k := by
      funext q
      unfold Am
      simp only [had]
    unfold Stc
    rw [hAm, hM]
    exact hSt
  have C : Cx p s m #[Value.ref b] meth c M code 4 RL ret := ⟨⟨hx, hb⟩, ⟨hml, hown, fun w hw => hts w (lw_g_in hw)⟩, ⟨hlocks, hr⟩, hK, hE.Dj, hS0⟩
  have hA1 : ∀ q, Am M q → s.heap.size ≤ q := fun q h => by obtain ⟨k, -, rfl⟩ := h; rw [had]; omega
  have hbA : ¬ Am M b := fun h => by have := hA1 b h; omega
  have hl := lv_entry ([.ref b]) (n := 4) (Nat.le_of_ble_eq_true rfl)
  rw [lg_entry_eq]
  generalize (lg_sl ([.ref b]) ++ List.replicate (4 - (lg_sl ([.ref b])).length) Slot.unset).toArray = ls at hl ⊢
  have hl : lv_has ls 4 [(0, .ref b)] := hl
  refine w_new0 (cf := fun _ => .inr (0, [])) C dL_law_0 nw_RL_7 (by rw [had]; rfl) ⟨by decide, by decide⟩ hl ?_
  refine jc_dup C dL_law_3 rfl ?_
  refine jc_init C hE hAO (As := []) dL_law_4 (KX10_init l M hE 0 idX_ok _ (va_up_eq _ _ _)) vi_RL_9 ⟨rfl, vj_RL_9⟩ rfl rfl ⟨rfl, rfl⟩ (by decide) (Nat.le_of_ble_eq_true rfl) ⟨by decide, by decide⟩ (by omega) (by rw [had]) ?_
  refine jc_n (n2 := 373) (by omega) ?_
  refine jc_congr (cg := celX M sg0) (fun k hk => by unfold mix; rw [if_neg (by omega)]) ?_
  refine jc_astore_n C (Ls' := [(1, .ref (adr M 0)), (0, .ref b)]) dL_law_7 (by decide) rfl ?_
  refine jc_new C hE dL_law_8 nw_RL_10 (by omega) (by rw [had]) ⟨by decide, by decide⟩ ?_
  refine jc_dup C dL_law_11 rfl ?_
  refine jc_init C hE hAO (As := []) dL_law_12 (KX11_init l M hE 373 idM_ok _ (va_up_eq _ _ _)) vi_RL_12 ⟨rfl, vj_RL_12⟩ rfl rfl ⟨rfl, rfl⟩ (by decide) (Nat.le_of_ble_eq_true rfl) ⟨by decide, by decide⟩ (by omega) (by rw [had]) ?_
  refine jc_n (n2 := NC) (by decide) ?_
  refine jc_congr (cg := celX M sg0) (fun k hk => by
    unfold mix
    split
    · rw [va_up_ne _ _ (by omega)]
    · rfl) ?_
  refine jc_astore_n C (Ls' := [(2, .ref (adr M 373)), (1, .ref (adr M 0)), (0, .ref b)]) dL_law_15 (by decide) rfl ?_
  obtain ⟨σ', hF⟩ := hpure xs L hL
  intro H locs ls hP hS hl
  have key := CL_law (l := l) (e := e) (below := below) (cs := 1 + 372 + 1 + 25) (sl := 6 + 9059 + 41 + 8665) C hX hbl hbA ⟨by decide, by decide⟩ hA1 0 idX_ok 373 idM_ok sg0 H locs ls 1 σ' (celX_P hP) hS hl hF
  intro T hT X
  obtain ⟨t, a1, b1⟩ := key T hT X
  exact ⟨t, a1, b1 rfl⟩
