/-! THE LAW behind its two constructors -/
section LROWS
variable {ρ : Type} {p : Program} {l : Launch} {e : Env} {R : Room} {s : State} {m : MethodId} {args : Array Value} {below : List Frame} {meth : Method} {c : Code} {M : Mc} {nL cs sl : Nat} {Q : ρ → Sg → State → Prop} {cc : ByteArray} {own : String} {ret1 : Option FieldType} {σ : Sg} {pc : Nat} {Ls : List (Nat × Value)} {st : List Value} {F : Option (ρ × Sg)}
theorem j_sld (C : Cx p s m args meth c M cc nL own ret1) {b L : Nat} {xs : Nat → Int32} (hX : va_X b L xs s s.heap) (hbl : b < s.heap.size) (hbA : ¬ Am M b) {i : Int32} (d : decode cc pc = .ok (.iaload, 1)) (n : Jg p l e R s m args below meth c M nL cs sl Q σ (pc + 1) Ls (.int (xs i.toNatClampNeg) :: st) F) : Jg p l e R s m args below meth c M nL cs sl Q σ pc Ls (.int i :: .ref b :: st) (gd (inR i L) F) :=
  j_gd fun hi => j_lift (fun H locs ls Q hl hw hs kk => va_sld C.1.1 C.1.2 hX hbl hbA hs hi d kk) n
theorem j_slen (C : Cx p s m args meth c M cc nL own ret1) {b L : Nat} {xs : Nat → Int32} (hX : va_X b L xs s s.heap) (hbl : b < s.heap.size) (hbA : ¬ Am M b) (d : decode cc pc = .ok (.arraylength, 1)) (n : Jg p l e R s m args below meth c M nL cs sl Q σ (pc + 1) Ls (.int (nI L) :: st) F) : Jg p l e R s m args below meth c M nL cs sl Q σ pc Ls (.ref b :: st) F :=
  j_lift (fun H locs ls Q hl hw hs kk => va_slen C.1.1 C.1.2 hX hbl hbA hs d kk) n
/-- the law's end: with 1 it is the claim's -/
def Ql (below : List Frame) (b : Nat) (s : State) : Int32 → Sg → State → Prop := fun r _ t => r = 1 → lw_Z below #[Value.ref b] s t
theorem j_lret {b : Nat} (C : Cx p s m #[Value.ref b] meth c M code nL own ret) (hz : cs ≤ room_1.cells ∧ sl ≤ room_1.slots) (hA1 : ∀ q, Am M q → s.heap.size ≤ q) {v : Int32} (d : decode code pc = .ok (.ireturn, 1)) : Jg p l e room_1 s m #[Value.ref b] below meth c M nL cs sl (Ql below b s) σ pc Ls [.int v] (some (v, σ)) := by
  intro H locs ls r σ' hw hs hl hF
  cases hF
  by_cases hv : v = 1
  · subst hv
    have h1 : W p l e room_1 s m #[Value.ref b] below meth c H locs cs sl (lw_Z below #[Value.ref b] s) (F0 m pc ls [.int 1]) := by
      refine va_forget (fun q hq => hA1 _ (hs.2.2 q hq)) ?_
      exact W.widen (k := 600000) (n := 7302250) hz.1 hz.2 (lw_ret C.1.1 C.1.2 C.2.2.1.2 C.2.2.1.1 d)
    intro T hT X
    obtain ⟨t, a1, b1⟩ := h1 T hT X
    exact ⟨t, a1, fun _ => b1⟩
  · intro T hT X
    exact ⟨_, Steps.refl _, fun h => absurd h hv⟩
end LROWS
theorem vv_RL_13 : VV RL 13 10 yX10_stations cX10_stations 3 (some .int) 1 := ⟨⟨⟨cd_yX10_stations, cini_RX10, (mem_g 460 (by decide +kernel) (by decide))⟩, by decide, by decide, by decide +kernel⟩, ⟨ci_yX10_stations, cs_yX10_stations⟩, _, rfl, rfl⟩
theorem vv_RL_17 : VV RL 17 11 yX11_stations cX11_stations 3 (some .int) 1 := ⟨⟨⟨cd_yX11_stations, cini_RX11, (mem_g 1144 (by decide +kernel) (by decide))⟩, by decide, by decide, by decide +kernel⟩, ⟨ci_yX11_stations, cs_yX11_stations⟩, _, rfl, rfl⟩
theorem vv_RL_18 : VV RL 18 10 yX10_siding cX10_siding 4 (some .int) 2 := ⟨⟨⟨cd_yX10_siding, cini_RX10, (mem_g 527 (by decide +kernel) (by decide))⟩, by decide, by decide, by decide +kernel⟩, ⟨ci_yX10_siding, cs_yX10_siding⟩, _, rfl, rfl⟩
theorem vv_RL_22 : VV RL 22 11 yX11_siding cX11_siding 3 (some .int) 2 := ⟨⟨⟨cd_yX11_siding, cini_RX11, (mem_g 1173 (by decide +kernel) (by decide))⟩, by decide, by decide, by decide +kernel⟩, ⟨ci_yX11_siding, cs_yX11_siding⟩, _, rfl, rfl⟩
theorem vv_RL_23 : VV RL 23 10 yX10_section cX10_section 4 (some .int) 2 := ⟨⟨⟨cd_yX10_section, cini_RX10, (mem_g 535 (by decide +kernel) (by decide))⟩, by decide, by decide, by decide +kernel⟩, ⟨ci_yX10_section, cs_yX10_section⟩, _, rfl, rfl⟩
theorem vv_RL_26 : VV RL 26 11 yX11_section cX11_section 3 (some .int) 2 := ⟨⟨⟨cd_yX11_section, cini_RX11, (mem_g 1181 (by decide +kernel) (by decide))⟩, by decide, by decide, by decide +kernel⟩, ⟨ci_yX11_section, cs_yX11_section⟩, _, rfl, rfl⟩
theorem vv_RL_27 : VV RL 27 10 yX10_train cX10_train 6 (some .int) 5 := ⟨⟨⟨cd_yX10_train, cini_RX10, (mem_g 546 (by decide +kernel) (by decide))⟩, by decide, by decide, by decide +kernel⟩, ⟨ci_yX10_train, cs_yX10_train⟩, _, rfl, rfl⟩
theorem vv_RL_31 : VV RL 31 11 yX11_train cX11_train 7 (some .int) 5 := ⟨⟨⟨cd_yX11_train, cini_RX11, (mem_g 1185 (by decide +kernel) (by decide))⟩, by decide, by decide, by decide +kernel⟩, ⟨ci_yX11_train, cs_yX11_train⟩, _, rfl, rfl⟩
theorem vv_RL_32 : VV RL 32 10 yX10_as cX10_as 3 (some .int) 2 := ⟨⟨⟨cd_yX10_as, cini_RX10, (mem_g 556 (by decide +kernel) (by decide))⟩, by decide, by decide, by decide +kernel⟩, ⟨ci_yX10_as, cs_yX10_as⟩, _, rfl, rfl⟩
theorem vv_RL_35 : VV RL 35 11 yX11_as cX11_as 3 (some .int) 2 := ⟨⟨⟨cd_yX11_as, cini_RX11, (mem_g 1191 (by decide +kernel) (by decide))⟩, by decide, by decide, by decide +kernel⟩, ⟨ci_yX11_as, cs_yX11_as⟩, _, rfl, rfl⟩
theorem vv_RL_36 : VV RL 36 10 yX10_of cX10_of 3 (some .int) 2 := ⟨⟨⟨cd_yX10_of, cini_RX10, (mem_g 571 (by decide +kernel) (by decide))⟩, by decide, by decide, by decide +kernel⟩, ⟨ci_yX10_of, cs_yX10_of⟩, _, rfl, rfl⟩
theorem vv_RL_39 : VV RL 39 11 yX11_of cX11_of 3 (some .int) 2 := ⟨⟨⟨cd_yX11_of, cini_RX11, (mem_g 1204 (by decide +kernel) (by decide))⟩, by decide, by decide, by decide +kernel⟩, ⟨ci_yX11_of, cs_yX11_of⟩, _, rfl, rfl⟩
theorem vv_RL_40 : VV RL 40 10 yX10_time cX10_time 4 (some .int) 2 := ⟨⟨⟨cd_yX10_time, cini_RX10, (mem_g 583 (by decide +kernel) (by decide))⟩, by decide, by decide, by decide +kernel⟩, ⟨ci_yX10_time, cs_yX10_time⟩, _, rfl, rfl⟩
theorem vv_RL_43 : VV RL 43 11 yX11_time cX11_time 3 (some .int) 2 := ⟨⟨⟨cd_yX11_time, cini_RX11, (mem_g 1212 (by decide +kernel) (by decide))⟩, by decide, by decide, by decide +kernel⟩, ⟨ci_yX11_time, cs_yX11_time⟩, _, rfl, rfl⟩
theorem vv_RL_44 : VV RL 44 10 yX10_due cX10_due 3 (some .int) 2 := ⟨⟨⟨cd_yX10_due, cini_RX10, (mem_g 587 (by decide +kernel) (by decide))⟩, by decide, by decide, by decide +kernel⟩, ⟨ci_yX10_due, cs_yX10_due⟩, _, rfl, rfl⟩
theorem vv_RL_47 : VV RL 47 11 yX11_due cX11_due 3 (some .int) 2 := ⟨⟨⟨cd_yX11_due, cini_RX11, (mem_g 1216 (by decide +kernel) (by decide))⟩, by decide, by decide, by decide +kernel⟩, ⟨ci_yX11_due, cs_yX11_due⟩, _, rfl, rfl⟩
theorem vv_RL_48 : VV RL 48 10 yX10_over cX10_over 5 (some .int) 2 := ⟨⟨⟨cd_yX10_over, cini_RX10, (mem_g 610 (by decide +kernel) (by decide))⟩, by decide, by decide, by decide +kernel⟩, ⟨ci_yX10_over, cs_yX10_over⟩, _, rfl, rfl⟩
theorem vv_RL_51 : VV RL 51 11 yX11_over cX11_over 3 (some .int) 2 := ⟨⟨⟨cd_yX11_over, cini_RX11, (mem_g 1236 (by decide +kernel) (by decide))⟩, by decide, by decide, by decide +kernel⟩, ⟨ci_yX11_over, cs_yX11_over⟩, _, rfl, rfl⟩
theorem vv_RL_52 : VV RL 52 10 yX10_meet cX10_meet 5 (some .int) 3 := ⟨⟨⟨cd_yX10_meet, cini_RX10, (mem_g 625 (by decide +kernel) (by decide))⟩, by decide, by decide, by decide +kernel⟩, ⟨ci_yX10_meet, cs_yX10_meet⟩, _, rfl, rfl⟩
theorem vv_RL_56 : VV RL 56 11 yX11_meet cX11_meet 4 (some .int) 3 := ⟨⟨⟨cd_yX11_meet, cini_RX11, (mem_g 1248 (by decide +kernel) (by decide))⟩, by decide, by decide, by decide +kernel⟩, ⟨ci_yX11_meet, cs_yX11_meet⟩, _, rfl, rfl⟩
theorem vv_RL_57 : VV RL 57 10 yX10_late cX10_late 3 (some .int) 2 := ⟨⟨⟨cd_yX10_late, cini_RX10, (mem_g 641 (by decide +kernel) (by decide))⟩, by decide, by decide, by decide +kernel⟩, ⟨ci_yX10_late, cs_yX10_late⟩, _, rfl, rfl⟩
theorem vv_RL_60 : VV RL 60 11 yX11_late cX11_late 3 (some .int) 2 := ⟨⟨⟨cd_yX11_late, cini_RX11, (mem_g 1256 (by decide +kernel) (by decide))⟩, by decide, by decide, by decide +kernel⟩, ⟨ci_yX11_late, cs_yX11_late⟩, _, rfl, rfl⟩
theorem vv_RL_61 : VV RL 61 10 yX10_wait cX10_wait 4 (some .int) 3 := ⟨⟨⟨cd_yX10_wait, cini_RX10, (mem_g 645 (by decide +kernel) (by decide))⟩, by decide, by decide, by decide +kernel⟩, ⟨ci_yX10_wait, cs_yX10_wait⟩, _, rfl, rfl⟩
theorem vv_RL_64 : VV RL 64 11 yX11_wait cX11_wait 4 (some .int) 3 := ⟨⟨⟨cd_yX11_wait, cini_RX11, (mem_g 1260 (by decide +kernel) (by decide))⟩, by decide, by decide, by decide +kernel⟩, ⟨ci_yX11_wait, cs_yX11_wait⟩, _, rfl, rfl⟩
theorem vv_RL_65 : VV RL 65 10 yX10_run cX10_run 3 (some .int) 2 := ⟨⟨⟨cd_yX10_run, cini_RX10, (mem_g 649 (by decide +kernel) (by decide))⟩, by decide, by decide, by decide +kernel⟩, ⟨ci_yX10_run, cs_yX10_run⟩, _, rfl, rfl⟩
theorem vv_RL_68 : VV RL 68 11 yX11_run cX11_run 3 (some .int) 2 := ⟨⟨⟨cd_yX11_run, cini_RX11, (mem_g 1264 (by decide +kernel) (by decide))⟩, by decide, by decide, by decide +kernel⟩, ⟨ci_yX11_run, cs_yX11_run⟩, _, rfl, rfl⟩
theorem vv_RL_69 : VV RL 69 10 yX10_annul cX10_annul 2 (some .int) 1 := ⟨⟨⟨cd_yX10_annul, cini_RX10, (mem_g 653 (by decide +kernel) (by decide))⟩, by decide, by decide, by decide +kernel⟩, ⟨ci_yX10_annul, cs_yX10_annul⟩, _, rfl, rfl⟩
theorem vv_RL_72 : VV RL 72 11 yX11_annul cX11_annul 2 (some .int) 1 := ⟨⟨⟨cd_yX11_annul, cini_RX11, (mem_g 1268 (by decide +kernel) (by decide))⟩, by decide, by decide, by decide +kernel⟩, ⟨ci_yX11_annul, cs_yX11_annul⟩, _, rfl, rfl⟩
theorem vv_RL_73 : VV RL 73 10 yX10_hand cX10_hand 4 (some .int) 3 := ⟨⟨⟨cd_yX10_hand, cini_RX10, (mem_g 661 (by decide +kernel) (by decide))⟩, by decide, by decide, by decide +kernel⟩, ⟨ci_yX10_hand, cs_yX10_hand⟩, _, rfl, rfl⟩
theorem vv_RL_76 : VV RL 76 11 yX11_hand cX11_hand 5 (some .int) 3 := ⟨⟨⟨cd_yX11_hand, cini_RX11, (mem_g 1276 (by decide +kernel) (by decide))⟩, by decide, by decide, by decide +kernel⟩, ⟨ci_yX11_hand, cs_yX11_hand⟩, _, rfl, rfl⟩
theorem vv_RL_77 : VV RL 77 10 yX10_holds cX10_holds 4 (some .int) 3 := ⟨⟨⟨cd_yX10_holds, cini_RX10, (mem_g 669 (by decide +kernel) (by decide))⟩, by decide, by decide, by decide +kernel⟩, ⟨ci_yX10_holds, cs_yX10_holds⟩, _, rfl, rfl⟩
theorem vv_RL_80 : VV RL 80 11 yX11_holds cX11_holds 4 (some .int) 3 := ⟨⟨⟨cd_yX11_holds, cini_RX11, (mem_g 1280 (by decide +kernel) (by decide))⟩, by decide, by decide, by decide +kernel⟩, ⟨ci_yX11_holds, cs_yX11_holds⟩, _, rfl, rfl⟩
theorem vv_RL_81 : VV RL 81 10 yX10_order cX10_order 3 (some .int) 2 := ⟨⟨⟨cd_yX10_order, cini_RX10, (mem_g 677 (by decide +kernel) (by decide))⟩, by decide, by decide, by decide +kernel⟩, ⟨ci_yX10_order, cs_yX10_order⟩, _, rfl, rfl⟩
theorem vv_RL_84 : VV RL 84 11 yX11_order cX11_order 5 (some .int) 2 := ⟨⟨⟨cd_yX11_order, cini_RX11, (mem_g 1299 (by decide +kernel) (by decide))⟩, by decide, by decide, by decide +kernel⟩, ⟨ci_yX11_order, cs_yX11_order⟩, _, rfl, rfl⟩
theorem vv_RL_85 : VV RL 85 10 yX10_force cX10_force 3 (some .int) 2 := ⟨⟨⟨cd_yX10_force, cini_RX10, (mem_g 689 (by decide +kernel) (by decide))⟩, by decide, by decide, by decide +kernel⟩, ⟨ci_yX10_force, cs_yX10_force⟩, _, rfl, rfl⟩
theorem vv_RL_88 : VV RL 88 11 yX11_force cX11_force 3 (some .int) 2 := ⟨⟨⟨cd_yX11_force, cini_RX11, (mem_g 1303 (by decide +kernel) (by decide))⟩, by decide, by decide, by decide +kernel⟩, ⟨ci_yX11_force, cs_yX11_force⟩, _, rfl, rfl⟩
theorem vv_RL_89 : VV RL 89 10 yX10_where cX10_where 3 (some .int) 2 := ⟨⟨⟨cd_yX10_where, cini_RX10, (mem_g 697 (by decide +kernel) (by decide))⟩, by decide, by decide, by decide +kernel⟩, ⟨ci_yX10_where, cs_yX10_where⟩, _, rfl, rfl⟩
theorem vv_RL_92 : VV RL 92 11 yX11_where cX11_where 3 (some .int) 2 := ⟨⟨⟨cd_yX11_where, cini_RX11, (mem_g 1307 (by decide +kernel) (by decide))⟩, by decide, by decide, by decide +kernel⟩, ⟨ci_yX11_where, cs_yX11_where⟩, _, rfl, rfl⟩
theorem vv_RL_93 : VV RL 93 10 yX10_came cX10_came 4 (some .int) 2 := ⟨⟨⟨cd_yX10_came, cini_RX10, (mem_g 844 (by decide +kernel) (by decide))⟩, by decide, by decide, by decide +kernel⟩, ⟨ci_yX10_came, cs_yX10_came⟩, _, rfl, rfl⟩
theorem vv_RL_96 : VV RL 96 11 yX11_came cX11_came 3 (some .int) 2 := ⟨⟨⟨cd_yX11_came, cini_RX11, (mem_g 1403 (by decide +kernel) (by decide))⟩, by decide, by decide, by decide +kernel⟩, ⟨ci_yX11_came, cs_yX11_came⟩, _, rfl, rfl⟩
theorem vv_RL_97 : VV RL 97 10 yX10_left cX10_left 4 (some .int) 2 := ⟨⟨⟨cd_yX10_left, cini_RX10, (mem_g 848 (by decide +kernel) (by decide))⟩, by decide, by decide, by decide +kernel⟩, ⟨ci_yX10_left, cs_yX10_left⟩, _, rfl, rfl⟩
theorem vv_RL_100 : VV RL 100 11 yX11_left cX11_left 3 (some .int) 2 := ⟨⟨⟨cd_yX11_left, cini_RX11, (mem_g 1407 (by decide +kernel) (by decide))⟩, by decide, by decide, by decide +kernel⟩, ⟨ci_yX11_left, cs_yX11_left⟩, _, rfl, rfl⟩
theorem vv_RL_101 : VV RL 101 10 yX10_why cX10_why 4 (some .int) 2 := ⟨⟨⟨cd_yX10_why, cini_RX10, (mem_g 852 (by decide +kernel) (by decide))⟩, by decide, by decide, by decide +kernel⟩, ⟨ci_yX10_why, cs_yX10_why⟩, _, rfl, rfl⟩
theorem vv_RL_104 : VV RL 104 11 yX11_why cX11_why 4 (some .int) 2 := ⟨⟨⟨cd_yX11_why, cini_RX11, (mem_g 1411 (by decide +kernel) (by decide))⟩, by decide, by decide, by decide +kernel⟩, ⟨ci_yX11_why, cs_yX11_why⟩, _, rfl, rfl⟩
theorem vv_RL_105 : VV RL 105 10 yX10_heads cX10_heads 1 (some .int) 0 := ⟨⟨⟨cd_yX10_heads, cini_RX10, (mem_g 860 (by decide +kernel) (by decide))⟩, by decide, by decide, by decide +kernel⟩, ⟨ci_yX10_heads, cs_yX10_heads⟩, _, rfl, rfl⟩
theorem vv_RL_109 : VV RL 109 11 yX11_heads cX11_heads 1 (some .int) 0 := ⟨⟨⟨cd_yX11_heads, cini_RX11, (mem_g 1415 (by decide +kernel) (by decide))⟩, by decide, by decide, by decide +kernel⟩, ⟨ci_yX11_heads, cs_yX11_heads⟩, _, rfl, rfl⟩
theorem vv_RL_110 : VV RL 110 10 yX10_head cX10_head 3 (some .int) 1 := ⟨⟨⟨cd_yX10_head, cini_RX10, (mem_g 864 (by decide +kernel) (by decide))⟩, by decide, by decide, by decide +kernel⟩, ⟨ci_yX10_head, cs_yX10_head⟩, _, rfl, rfl⟩
theorem vv_RL_113 : VV RL 113 11 yX11_head cX11_head 2 (some .int) 1 := ⟨⟨⟨cd_yX11_head, cini_RX11, (mem_g 1419 (by decide +kernel) (by decide))⟩, by decide, by decide, by decide +kernel⟩, ⟨ci_yX11_head, cs_yX11_head⟩, _, rfl, rfl⟩
theorem vv_RL_114 : VV RL 114 10 yX10_cause cX10_cause 3 (some .int) 0 := ⟨⟨⟨cd_yX10_cause, cini_RX10, (mem_g 872 (by decide +kernel) (by decide))⟩, by decide, by decide, by decide +kernel⟩, ⟨ci_yX10_cause, cs_yX10_cause⟩, _, rfl, rfl⟩
theorem vv_RL_117 : VV RL 117 11 yX11_cause cX11_cause 3 (some .int) 0 := ⟨⟨⟨cd_yX11_cause, cini_RX11, (mem_g 1423 (by decide +kernel) (by decide))⟩, by decide, by decide, by decide +kernel⟩, ⟨ci_yX11_cause, cs_yX11_cause⟩, _, rfl, rfl⟩
theorem vv_RL_118 : VV RL 118 10 yX10_fouls cX10_fouls 1 (some .int) 0 := ⟨⟨⟨cd_yX10_fouls, cini_RX10, (mem_g 885 (by decide +kernel) (by decide))⟩, by decide, by decide, by decide +kernel⟩, ⟨ci_yX10_fouls, cs_yX10_fouls⟩, _, rfl, rfl⟩
theorem vv_RL_121 : VV RL 121 11 yX11_fouls cX11_fouls 1 (some .int) 0 := ⟨⟨⟨cd_yX11_fouls, cini_RX11, (mem_g 1431 (by decide +kernel) (by decide))⟩, by decide, by decide, by decide +kernel⟩, ⟨ci_yX11_fouls, cs_yX11_fouls⟩, _, rfl, rfl⟩
theorem vv_RL_122 : VV RL 122 10 yX10_delay cX10_delay 1 (some .int) 0 := ⟨⟨⟨cd_yX10_delay, cini_RX10, (mem_g 889 (by decide +kernel) (by decide))⟩, by decide, by decide, by decide +kernel⟩, ⟨ci_yX10_delay, cs_yX10_delay⟩, _, rfl, rfl⟩
theorem vv_RL_125 : VV RL 125 11 yX11_delay cX11_delay 1 (some .int) 0 := ⟨⟨⟨cd_yX11_delay, cini_RX11, (mem_g 1435 (by decide +kernel) (by decide))⟩, by decide, by decide, by decide +kernel⟩, ⟨ci_yX11_delay, cs_yX11_delay⟩, _, rfl, rfl⟩
theorem vv_RL_126 : VV RL 126 10 yX10_best cX10_best 3 (some .int) 1 := ⟨⟨⟨cd_yX10_best, cini_RX10, (mem_g 893 (by decide +kernel) (by decide))⟩, by decide, by decide, by decide +kernel⟩, ⟨ci_yX10_best, cs_yX10_best⟩, _, rfl, rfl⟩
theorem vv_RL_129 : VV RL 129 11 yX11_best cX11_best 2 (some .int) 1 := ⟨⟨⟨cd_yX11_best, cini_RX11, (mem_g 1443 (by decide +kernel) (by decide))⟩, by decide, by decide, by decide +kernel⟩, ⟨ci_yX11_best, cs_yX11_best⟩, _, rfl, rfl⟩
theorem vv_RL_130 : VV RL 130 10 yX10_price cX10_price 5 (some .int) 3 := ⟨⟨⟨cd_yX10_price, cini_RX10, (mem_g 932 (by decide +kernel) (by decide))⟩, by decide, by decide, by decide +kernel⟩, ⟨ci_yX10_price, cs_yX10_price⟩, _, rfl, rfl⟩
theorem vv_RL_133 : VV RL 133 11 yX11_price cX11_price 4 (some .int) 3 := ⟨⟨⟨cd_yX11_price, cini_RX11, (mem_g 1456 (by decide +kernel) (by decide))⟩, by decide, by decide, by decide +kernel⟩, ⟨ci_yX11_price, cs_yX11_price⟩, _, rfl, rfl⟩
theorem vv_RL_134 : VV RL 134 10 yX10_proves cX10_proves 7 (some .int) 4 := ⟨⟨⟨cd_yX10_proves, cini_RX10, (mem_g 941 (by decide +kernel) (by decide))⟩, by decide, by decide, by decide +kernel⟩, ⟨ci_yX10_proves, cs_yX10_proves⟩, _, rfl, rfl⟩
theorem vv_RL_138 : VV RL 138 11 yX11_proves cX11_proves 8 (some .int) 4 := ⟨⟨⟨cd_yX11_proves, cini_RX11, (mem_g 1460 (by decide +kernel) (by decide))⟩, by decide, by decide, by decide +kernel⟩, ⟨ci_yX11_proves, cs_yX11_proves⟩, _, rfl, rfl⟩
theorem vv_RL_139 : VV RL 139 10 yX10_sheet cX10_sheet 4 (some .int) 3 := ⟨⟨⟨cd_yX10_sheet, cini_RX10, (mem_g 961 (by decide +kernel) (by decide))⟩, by decide, by decide, by decide +kernel⟩, ⟨ci_yX10_sheet, cs_yX10_sheet⟩, _, rfl, rfl⟩
theorem vv_RL_142 : VV RL 142 11 yX11_sheet cX11_sheet 5 (some .int) 3 := ⟨⟨⟨cd_yX11_sheet, cini_RX11, (mem_g 1471 (by decide +kernel) (by decide))⟩, by decide, by decide, by decide +kernel⟩, ⟨ci_yX11_sheet, cs_yX11_sheet⟩, _, rfl, rfl⟩
theorem vv_RL_143 : VV RL 143 10 yX10_put cX10_put 4 (some .int) 3 := ⟨⟨⟨cd_yX10_put, cini_RX10, (mem_g 973 (by decide +kernel) (by decide))⟩, by decide, by decide, by decide +kernel⟩, ⟨ci_yX10_put, cs_yX10_put⟩, _, rfl, rfl⟩
theorem vv_RL_146 : VV RL 146 11 yX11_put cX11_put 4 (some .int) 3 := ⟨⟨⟨cd_yX11_put, cini_RX11, (mem_g 1475 (by decide +kernel) (by decide))⟩, by decide, by decide, by decide +kernel⟩, ⟨ci_yX11_put, cs_yX11_put⟩, _, rfl, rfl⟩
theorem vv_RL_147 : VV RL 147 10 yX10_copy cX10_copy 6 (some .int) 5 := ⟨⟨⟨cd_yX10_copy, cini_RX10, (mem_g 978 (by decide +kernel) (by decide))⟩, by decide, by decide, by decide +kernel⟩, ⟨ci_yX10_copy, cs_yX10_copy⟩, _, rfl, rfl⟩
theorem vv_RL_150 : VV RL 150 11 yX11_copy cX11_copy 7 (some .int) 5 := ⟨⟨⟨cd_yX11_copy, cini_RX11, (mem_g 1479 (by decide +kernel) (by decide))⟩, by decide, by decide, by decide +kernel⟩, ⟨ci_yX11_copy, cs_yX11_copy⟩, _, rfl, rfl⟩
theorem vv_RL_151 : VV RL 151 10 yX10_grades cX10_grades 5 (some .int) 1 := ⟨⟨⟨cd_yX10_grades, cini_RX10, (mem_g 987 (by decide +kernel) (by decide))⟩, by decide, by decide, by decide +kernel⟩, ⟨ci_yX10_grades, cs_yX10_grades⟩, _, rfl, rfl⟩
theorem vv_RL_154 : VV RL 154 11 yX11_grades cX11_grades 4 (some .int) 1 := ⟨⟨⟨cd_yX11_grades, cini_RX11, (mem_g 1483 (by decide +kernel) (by decide))⟩, by decide, by decide, by decide +kernel⟩, ⟨ci_yX11_grades, cs_yX11_grades⟩, _, rfl, rfl⟩
theorem vv_RL_155 : VV RL 155 10 yX10_undo cX10_undo 1 (some .int) 0 := ⟨⟨⟨cd_yX10_undo, cini_RX10, (mem_g 992 (by decide +kernel) (by decide))⟩, by decide, by decide, by decide +kernel⟩, ⟨ci_yX10_undo, cs_yX10_undo⟩, _, rfl, rfl⟩
theorem vv_RL_158 : VV RL 158 11 yX11_undo cX11_undo 2 (some .int) 0 := ⟨⟨⟨cd_yX11_undo, cini_RX11, (mem_g 1135 (by decide +kernel) (by decide))⟩, by decide, by decide, by decide +kernel⟩, ⟨ci_yX11_undo, cs_yX11_undo⟩, _, rfl, rfl⟩
theorem vv_RL_159 : VV RL 159 10 yX10_all cX10_all 2 (some .int) 1 := ⟨⟨⟨cd_yX10_all, cini_RX10, (mem_g 1000 (by decide +kernel) (by decide))⟩, by decide, by decide, by decide +kernel⟩, ⟨ci_yX10_all, cs_yX10_all⟩, _, rfl, rfl⟩
theorem vv_RL_162 : VV RL 162 11 yX11_all cX11_all 2 (some .int) 1 := ⟨⟨⟨cd_yX11_all, cini_RX11, (mem_g 1487 (by decide +kernel) (by decide))⟩, by decide, by decide, by decide +kernel⟩, ⟨ci_yX11_all, cs_yX11_all⟩, _, rfl, rfl⟩
def fL_law_1370 (xs : Nat → Int32) (L : Nat) (v1 : Nat) (v2 : Nat) (v3 : Int32) (k18 : Int32 → Sg → Option (Int32 × Sg)) (σ : Sg) : Option (Int32 × Sg) :=
  lt (v3 + (6 : Int32)) fun v3_1370 =>
  k18 v3_1370 σ
def fL_law_18 (xs : Nat → Int32) (L : Nat) (v1 : Nat) (v2 : Nat) (k18 : Int32 → Sg → Option (Int32 × Sg)) (v3 : Int32) (σ : Sg) : Option (Int32 × Sg) :=
  if ((nI L) - (6 : Int32)) < v3 then
  (some ((1 : Int32), σ))
  else
  (gd (inR v3 L) <|
  if ((xs (v3).toNatClampNeg) &&& (63 : Int32)) = (0 : Int32) then
  (gd (inR (v3 + (1 : Int32)) L) <|
  bd (fX10_stations v1 (xs ((v3 + (1 : Int32))).toNatClampNeg) σ) fun r_198 s_198 =>
  gd (inR (v3 + (1 : Int32)) L) <|
  bd (fX11_stations v2 (xs ((v3 + (1 : Int32))).toNatClampNeg) s_198) fun r_207 s_207 =>
  if r_198 = r_207 then
  (fL_law_1370 xs L v1 v2 v3 k18 s_207)
  else
  (some ((0 : Int32), s_207)))
  else
  (if ((xs (v3).toNatClampNeg) &&& (63 : Int32)) = (1 : Int32) then
  (gd (inR (v3 + (1 : Int32)) L) <|
  gd (inR (v3 + (2 : Int32)) L) <|
  bd (fX10_siding v1 (xs ((v3 + (1 : Int32))).toNatClampNeg) (xs ((v3 + (2 : Int32))).toNatClampNeg) σ) fun r_226 s_226 =>
  gd (inR (v3 + (1 : Int32)) L) <|
  gd (inR (v3 + (2 : Int32)) L) <|
  bd (fX11_siding v2 (xs ((v3 + (1 : Int32))).toNatClampNeg) (xs ((v3 + (2 : Int32))).toNatClampNeg) s_226) fun r_240 s_240 =>
  if r_226 = r_240 then
  (fL_law_1370 xs L v1 v2 v3 k18 s_240)
  else
  (some ((0 : Int32), s_240)))
  else
  (if ((xs (v3).toNatClampNeg) &&& (63 : Int32)) = (2 : Int32) then
  (gd (inR (v3 + (1 : Int32)) L) <|
  gd (inR (v3 + (2 : Int32)) L) <|
  bd (fX10_section v1 (xs ((v3 + (1 : Int32))).toNatClampNeg) (xs ((v3 + (2 : Int32))).toNatClampNeg) σ) fun r_259 s_259 =>
  gd (inR (v3 + (1 : Int32)) L) <|
  gd (inR (v3 + (2 : Int32)) L) <|
  bd (fX11_section v2 (xs ((v3 + (1 : Int32))).toNatClampNeg) (xs ((v3 + (2 : Int32))).toNatClampNeg) s_259) fun r_273 s_273 =>
  if r_259 = r_273 then
  (fL_law_1370 xs L v1 v2 v3 k18 s_273)
  else
  (some ((0 : Int32), s_273)))
  else
  (if ((xs (v3).toNatClampNeg) &&& (63 : Int32)) = (3 : Int32) then
  (gd (inR (v3 + (1 : Int32)) L) <|
  gd (inR (v3 + (2 : Int32)) L) <|
  gd (inR (v3 + (3 : Int32)) L) <|
  gd (inR (v3 + (4 : Int32)) L) <|
  gd (inR (v3 + (5 : Int32)) L) <|
  bd (fX10_train v1 (xs ((v3 + (1 : Int32))).toNatClampNeg) (xs ((v3 + (2 : Int32))).toNatClampNeg) (xs ((v3 + (3 : Int32))).toNatClampNeg) (xs ((v3 + (4 : Int32))).toNatClampNeg) (xs ((v3 + (5 : Int32))).toNatClampNeg) σ) fun r_307 s_307 =>
  gd (inR (v3 + (1 : Int32)) L) <|
  gd (inR (v3 + (2 : Int32)) L) <|
  gd (inR (v3 + (3 : Int32)) L) <|
  gd (inR (v3 + (4 : Int32)) L) <|
  gd (inR (v3 + (5 : Int32)) L) <|
  bd (fX11_train v2 (xs ((v3 + (1 : Int32))).toNatClampNeg) (xs ((v3 + (2 : Int32))).toNatClampNeg) (xs ((v3 + (3 : Int32))).toNatClampNeg) (xs ((v3 + (4 : Int32))).toNatClampNeg) (xs ((v3 + (5 : Int32))).toNatClampNeg) s_307) fun r_336 s_336 =>
  if r_307 = r_336 then
  (fL_law_1370 xs L v1 v2 v3 k18 s_336)
  else
  (some ((0 : Int32), s_336)))
  else
  (if ((xs (v3).toNatClampNeg) &&& (63 : Int32)) = (4 : Int32) then
  (gd (inR (v3 + (1 : Int32)) L) <|
  gd (inR (v3 + (2 : Int32)) L) <|
  bd (fX10_as v1 (xs ((v3 + (1 : Int32))).toNatClampNeg) (xs ((v3 + (2 : Int32))).toNatClampNeg) σ) fun r_355 s_355 =>
  gd (inR (v3 + (1 : Int32)) L) <|
  gd (inR (v3 + (2 : Int32)) L) <|
  bd (fX11_as v2 (xs ((v3 + (1 : Int32))).toNatClampNeg) (xs ((v3 + (2 : Int32))).toNatClampNeg) s_355) fun r_369 s_369 =>
  if r_355 = r_369 then
  (fL_law_1370 xs L v1 v2 v3 k18 s_369)
  else
  (some ((0 : Int32), s_369)))
  else
  (if ((xs (v3).toNatClampNeg) &&& (63 : Int32)) = (5 : Int32) then
  (gd (inR (v3 + (1 : Int32)) L) <|
  gd (inR (v3 + (2 : Int32)) L) <|
  bd (fX10_of v1 (xs ((v3 + (1 : Int32))).toNatClampNeg) (xs ((v3 + (2 : Int32))).toNatClampNeg) σ) fun r_388 s_388 =>
  gd (inR (v3 + (1 : Int32)) L) <|
  gd (inR (v3 + (2 : Int32)) L) <|
  bd (fX11_of v2 (xs ((v3 + (1 : Int32))).toNatClampNeg) (xs ((v3 + (2 : Int32))).toNatClampNeg) s_388) fun r_402 s_402 =>
  if r_388 = r_402 then
  (fL_law_1370 xs L v1 v2 v3 k18 s_402)
  else
  (some ((0 : Int32), s_402)))
  else
  (if ((xs (v3).toNatClampNeg) &&& (63 : Int32)) = (6 : Int32) then
  (gd (inR (v3 + (1 : Int32)) L) <|
  gd (inR (v3 + (2 : Int32)) L) <|
  bd (fX10_time v1 (xs ((v3 + (1 : Int32))).toNatClampNeg) (xs ((v3 + (2 : Int32))).toNatClampNeg) σ) fun r_421 s_421 =>
  gd (inR (v3 + (1 : Int32)) L) <|
  gd (inR (v3 + (2 : Int32)) L) <|
  bd (fX11_time v2 (xs ((v3 + (1 : Int32))).toNatClampNeg) (xs ((v3 + (2 : Int32))).toNatClampNeg) s_421) fun r_435 s_435 =>
  if r_421 = r_435 then
  (fL_law_1370 xs L v1 v2 v3 k18 s_435)
  else
  (some ((0 : Int32), s_435)))
  else
  (if ((xs (v3).toNatClampNeg) &&& (63 : Int32)) = (7 : Int32) then
  (gd (inR (v3 + (1 : Int32)) L) <|
  gd (inR (v3 + (2 : Int32)) L) <|
  bd (fX10_due v1 (xs ((v3 + (1 : Int32))).toNatClampNeg) (xs ((v3 + (2 : Int32))).toNatClampNeg) σ) fun r_454 s_454 =>
  gd (inR (v3 + (1 : Int32)) L) <|
  gd (inR (v3 + (2 : Int32)) L) <|
  bd (fX11_due v2 (xs ((v3 + (1 : Int32))).toNatClampNeg) (xs ((v3 + (2 : Int32))).toNatClampNeg) s_454) fun r_468 s_468 =>
  if r_454 = r_468 then
  (fL_law_1370 xs L v1 v2 v3 k18 s_468)
  else
  (some ((0 : Int32), s_468)))
  else
  (if ((xs (v3).toNatClampNeg) &&& (63 : Int32)) = (8 : Int32) then
  (gd (inR (v3 + (1 : Int32)) L) <|
  gd (inR (v3 + (2 : Int32)) L) <|
  bd (fX10_over v1 (xs ((v3 + (1 : Int32))).toNatClampNeg) (xs ((v3 + (2 : Int32))).toNatClampNeg) σ) fun r_487 s_487 =>
  gd (inR (v3 + (1 : Int32)) L) <|
  gd (inR (v3 + (2 : Int32)) L) <|
  bd (fX11_over v2 (xs ((v3 + (1 : Int32))).toNatClampNeg) (xs ((v3 + (2 : Int32))).toNatClampNeg) s_487) fun r_501 s_501 =>
  if r_487 = r_501 then
  (fL_law_1370 xs L v1 v2 v3 k18 s_501)
  else
  (some ((0 : Int32), s_501)))
  else
  (if ((xs (v3).toNatClampNeg) &&& (63 : Int32)) = (9 : Int32) then
  (gd (inR (v3 + (1 : Int32)) L) <|
  gd (inR (v3 + (2 : Int32)) L) <|
  gd (inR (v3 + (3 : Int32)) L) <|
  bd (fX10_meet v1 (xs ((v3 + (1 : Int32))).toNatClampNeg) (xs ((v3 + (2 : Int32))).toNatClampNeg) (xs ((v3 + (3 : Int32))).toNatClampNeg) σ) fun r_525 s_525 =>
  gd (inR (v3 + (1 : Int32)) L) <|
  gd (inR (v3 + (2 : Int32)) L) <|
  gd (inR (v3 + (3 : Int32)) L) <|
  bd (fX11_meet v2 (xs ((v3 + (1 : Int32))).toNatClampNeg) (xs ((v3 + (2 : Int32))).toNatClampNeg) (xs ((v3 + (3 : Int32))).toNatClampNeg) s_525) fun r_544 s_544 =>
  if r_525 = r_544 then
  (fL_law_1370 xs L v1 v2 v3 k18 s_544)
  else
  (some ((0 : Int32), s_544)))
  else
  (if ((xs (v3).toNatClampNeg) &&& (63 : Int32)) = (10 : Int32) then
  (gd (inR (v3 + (1 : Int32)) L) <|
  gd (inR (v3 + (2 : Int32)) L) <|
  bd (fX10_late v1 (xs ((v3 + (1 : Int32))).toNatClampNeg) (xs ((v3 + (2 : Int32))).toNatClampNeg) σ) fun r_563 s_563 =>
  gd (inR (v3 + (1 : Int32)) L) <|
  gd (inR (v3 + (2 : Int32)) L) <|
  bd (fX11_late v2 (xs ((v3 + (1 : Int32))).toNatClampNeg) (xs ((v3 + (2 : Int32))).toNatClampNeg) s_563) fun r_577 s_577 =>
  if r_563 = r_577 then
  (fL_law_1370 xs L v1 v2 v3 k18 s_577)
  else
  (some ((0 : Int32), s_577)))
  else
  (if ((xs (v3).toNatClampNeg) &&& (63 : Int32)) = (11 : Int32) then
  (gd (inR (v3 + (1 : Int32)) L) <|
  gd (inR (v3 + (2 : Int32)) L) <|
  gd (inR (v3 + (3 : Int32)) L) <|
  bd (fX10_wait v1 (xs ((v3 + (1 : Int32))).toNatClampNeg) (xs ((v3 + (2 : Int32))).toNatClampNeg) (xs ((v3 + (3 : Int32))).toNatClampNeg) σ) fun r_601 s_601 =>
  gd (inR (v3 + (1 : Int32)) L) <|
  gd (inR (v3 + (2 : Int32)) L) <|
  gd (inR (v3 + (3 : Int32)) L) <|
  bd (fX11_wait v2 (xs ((v3 + (1 : Int32))).toNatClampNeg) (xs ((v3 + (2 : Int32))).toNatClampNeg) (xs ((v3 + (3 : Int32))).toNatClampNeg) s_601) fun r_620 s_620 =>
  if r_601 = r_620 then
  (fL_law_1370 xs L v1 v2 v3 k18 s_620)
  else
  (some ((0 : Int32), s_620)))
  else
  (if ((xs (v3).toNatClampNeg) &&& (63 : Int32)) = (12 : Int32) then
  (gd (inR (v3 + (1 : Int32)) L) <|
  gd (inR (v3 + (2 : Int32)) L) <|
  bd (fX10_run v1 (xs ((v3 + (1 : Int32))).toNatClampNeg) (xs ((v3 + (2 : Int32))).toNatClampNeg) σ) fun r_639 s_639 =>
  gd (inR (v3 + (1 : Int32)) L) <|
  gd (inR (v3 + (2 : Int32)) L) <|
  bd (fX11_run v2 (xs ((v3 + (1 : Int32))).toNatClampNeg) (xs ((v3 + (2 : Int32))).toNatClampNeg) s_639) fun r_653 s_653 =>
  if r_639 = r_653 then
  (fL_law_1370 xs L v1 v2 v3 k18 s_653)
  else
  (some ((0 : Int32), s_653)))
  else
  (if ((xs (v3).toNatClampNeg) &&& (63 : Int32)) = (13 : Int32) then
  (gd (inR (v3 + (1 : Int32)) L) <|
  bd (fX10_annul v1 (xs ((v3 + (1 : Int32))).toNatClampNeg) σ) fun r_667 s_667 =>
  gd (inR (v3 + (1 : Int32)) L) <|
  bd (fX11_annul v2 (xs ((v3 + (1 : Int32))).toNatClampNeg) s_667) fun r_676 s_676 =>
  if r_667 = r_676 then
  (fL_law_1370 xs L v1 v2 v3 k18 s_676)
  else
  (some ((0 : Int32), s_676)))
  else
  (if ((xs (v3).toNatClampNeg) &&& (63 : Int32)) = (14 : Int32) then
  (gd (inR (v3 + (1 : Int32)) L) <|
  gd (inR (v3 + (2 : Int32)) L) <|
  gd (inR (v3 + (3 : Int32)) L) <|
  bd (fX10_hand v1 (xs ((v3 + (1 : Int32))).toNatClampNeg) (xs ((v3 + (2 : Int32))).toNatClampNeg) (xs ((v3 + (3 : Int32))).toNatClampNeg) σ) fun r_700 s_700 =>
  gd (inR (v3 + (1 : Int32)) L) <|
  gd (inR (v3 + (2 : Int32)) L) <|
  gd (inR (v3 + (3 : Int32)) L) <|
  bd (fX11_hand v2 (xs ((v3 + (1 : Int32))).toNatClampNeg) (xs ((v3 + (2 : Int32))).toNatClampNeg) (xs ((v3 + (3 : Int32))).toNatClampNeg) s_700) fun r_719 s_719 =>
  if r_700 = r_719 then
  (fL_law_1370 xs L v1 v2 v3 k18 s_719)
  else
  (some ((0 : Int32), s_719)))
  else
  (if ((xs (v3).toNatClampNeg) &&& (63 : Int32)) = (15 : Int32) then
  (gd (inR (v3 + (1 : Int32)) L) <|
  gd (inR (v3 + (2 : Int32)) L) <|
  gd (inR (v3 + (3 : Int32)) L) <|
  bd (fX10_holds v1 (xs ((v3 + (1 : Int32))).toNatClampNeg) (xs ((v3 + (2 : Int32))).toNatClampNeg) (xs ((v3 + (3 : Int32))).toNatClampNeg) σ) fun r_743 s_743 =>
  gd (inR (v3 + (1 : Int32)) L) <|
  gd (inR (v3 + (2 : Int32)) L) <|
  gd (inR (v3 + (3 : Int32)) L) <|
  bd (fX11_holds v2 (xs ((v3 + (1 : Int32))).toNatClampNeg) (xs ((v3 + (2 : Int32))).toNatClampNeg) (xs ((v3 + (3 : Int32))).toNatClampNeg) s_743) fun r_762 s_762 =>
  if r_743 = r_762 then
  (fL_law_1370 xs L v1 v2 v3 k18 s_762)
  else
  (some ((0 : Int32), s_762)))
  else
  (if ((xs (v3).toNatClampNeg) &&& (63 : Int32)) = (16 : Int32) then
  (gd (inR (v3 + (1 : Int32)) L) <|
  gd (inR (v3 + (2 : Int32)) L) <|
  bd (fX10_order v1 (xs ((v3 + (1 : Int32))).toNatClampNeg) (xs ((v3 + (2 : Int32))).toNatClampNeg) σ) fun r_781 s_781 =>
  gd (inR (v3 + (1 : Int32)) L) <|
  gd (inR (v3 + (2 : Int32)) L) <|
  bd (fX11_order v2 (xs ((v3 + (1 : Int32))).toNatClampNeg) (xs ((v3 + (2 : Int32))).toNatClampNeg) s_781) fun r_795 s_795 =>
  if r_781 = r_795 then
  (fL_law_1370 xs L v1 v2 v3 k18 s_795)
  else
  (some ((0 : Int32), s_795)))
  else
  (if ((xs (v3).toNatClampNeg) &&& (63 : Int32)) = (17 : Int32) then
  (gd (inR (v3 + (1 : Int32)) L) <|
  gd (inR (v3 + (2 : Int32)) L) <|
  bd (fX10_force v1 (xs ((v3 + (1 : Int32))).toNatClampNeg) (xs ((v3 + (2 : Int32))).toNatClampNeg) σ) fun r_814 s_814 =>
  gd (inR (v3 + (1 : Int32)) L) <|
  gd (inR (v3 + (2 : Int32)) L) <|
  bd (fX11_force v2 (xs ((v3 + (1 : Int32))).toNatClampNeg) (xs ((v3 + (2 : Int32))).toNatClampNeg) s_814) fun r_828 s_828 =>
  if r_814 = r_828 then
  (fL_law_1370 xs L v1 v2 v3 k18 s_828)
  else
  (some ((0 : Int32), s_828)))
  else
  (if ((xs (v3).toNatClampNeg) &&& (63 : Int32)) = (18 : Int32) then
  (gd (inR (v3 + (1 : Int32)) L) <|
  gd (inR (v3 + (2 : Int32)) L) <|
  bd (fX10_where v1 (xs ((v3 + (1 : Int32))).toNatClampNeg) (xs ((v3 + (2 : Int32))).toNatClampNeg) σ) fun r_847 s_847 =>
  gd (inR (v3 + (1 : Int32)) L) <|
  gd (inR (v3 + (2 : Int32)) L) <|
  bd (fX11_where v2 (xs ((v3 + (1 : Int32))).toNatClampNeg) (xs ((v3 + (2 : Int32))).toNatClampNeg) s_847) fun r_861 s_861 =>
  if r_847 = r_861 then
  (fL_law_1370 xs L v1 v2 v3 k18 s_861)
  else
  (some ((0 : Int32), s_861)))
  else
  (if ((xs (v3).toNatClampNeg) &&& (63 : Int32)) = (19 : Int32) then
  (gd (inR (v3 + (1 : Int32)) L) <|
  gd (inR (v3 + (2 : Int32)) L) <|
  bd (fX10_came v1 (xs ((v3 + (1 : Int32))).toNatClampNeg) (xs ((v3 + (2 : Int32))).toNatClampNeg) σ) fun r_880 s_880 =>
  gd (inR (v3 + (1 : Int32)) L) <|
  gd (inR (v3 + (2 : Int32)) L) <|
  bd (fX11_came v2 (xs ((v3 + (1 : Int32))).toNatClampNeg) (xs ((v3 + (2 : Int32))).toNatClampNeg) s_880) fun r_894 s_894 =>
  if r_880 = r_894 then
  (fL_law_1370 xs L v1 v2 v3 k18 s_894)
  else
  (some ((0 : Int32), s_894)))
  else
  (if ((xs (v3).toNatClampNeg) &&& (63 : Int32)) = (20 : Int32) then
  (gd (inR (v3 + (1 : Int32)) L) <|
  gd (inR (v3 + (2 : Int32)) L) <|
  bd (fX10_left v1 (xs ((v3 + (1 : Int32))).toNatClampNeg) (xs ((v3 + (2 : Int32))).toNatClampNeg) σ) fun r_913 s_913 =>
  gd (inR (v3 + (1 : Int32)) L) <|
  gd (inR (v3 + (2 : Int32)) L) <|
  bd (fX11_left v2 (xs ((v3 + (1 : Int32))).toNatClampNeg) (xs ((v3 + (2 : Int32))).toNatClampNeg) s_913) fun r_927 s_927 =>
  if r_913 = r_927 then
  (fL_law_1370 xs L v1 v2 v3 k18 s_927)
  else
  (some ((0 : Int32), s_927)))
  else
  (if ((xs (v3).toNatClampNeg) &&& (63 : Int32)) = (21 : Int32) then
  (gd (inR (v3 + (1 : Int32)) L) <|
  gd (inR (v3 + (2 : Int32)) L) <|
  bd (fX10_why v1 (xs ((v3 + (1 : Int32))).toNatClampNeg) (xs ((v3 + (2 : Int32))).toNatClampNeg) σ) fun r_946 s_946 =>
  gd (inR (v3 + (1 : Int32)) L) <|
  gd (inR (v3 + (2 : Int32)) L) <|
  bd (fX11_why v2 (xs ((v3 + (1 : Int32))).toNatClampNeg) (xs ((v3 + (2 : Int32))).toNatClampNeg) s_946) fun r_960 s_960 =>
  if r_946 = r_960 then
  (fL_law_1370 xs L v1 v2 v3 k18 s_960)
  else
  (some ((0 : Int32), s_960)))
  else
  (if ((xs (v3).toNatClampNeg) &&& (63 : Int32)) = (22 : Int32) then
  (bd (fX10_heads v1 σ) fun r_969 s_969 =>
  bd (fX11_heads v2 s_969) fun r_973 s_973 =>
  if r_969 = r_973 then
  (fL_law_1370 xs L v1 v2 v3 k18 s_973)
  else
  (some ((0 : Int32), s_973)))
  else
  (if ((xs (v3).toNatClampNeg) &&& (63 : Int32)) = (23 : Int32) then
  (gd (inR (v3 + (1 : Int32)) L) <|
  bd (fX10_head v1 (xs ((v3 + (1 : Int32))).toNatClampNeg) σ) fun r_987 s_987 =>
  gd (inR (v3 + (1 : Int32)) L) <|
  bd (fX11_head v2 (xs ((v3 + (1 : Int32))).toNatClampNeg) s_987) fun r_996 s_996 =>
  if r_987 = r_996 then
  (fL_law_1370 xs L v1 v2 v3 k18 s_996)
  else
  (some ((0 : Int32), s_996)))
  else
  (if ((xs (v3).toNatClampNeg) &&& (63 : Int32)) = (24 : Int32) then
  (bd (fX10_cause v1 σ) fun r_1005 s_1005 =>
  bd (fX11_cause v2 s_1005) fun r_1009 s_1009 =>
  if r_1005 = r_1009 then
  (fL_law_1370 xs L v1 v2 v3 k18 s_1009)
  else
  (some ((0 : Int32), s_1009)))
  else
  (if ((xs (v3).toNatClampNeg) &&& (63 : Int32)) = (25 : Int32) then
  (bd (fX10_fouls v1 σ) fun r_1018 s_1018 =>
  bd (fX11_fouls v2 s_1018) fun r_1022 s_1022 =>
  if r_1018 = r_1022 then
  (fL_law_1370 xs L v1 v2 v3 k18 s_1022)
  else
  (some ((0 : Int32), s_1022)))
  else
  (if ((xs (v3).toNatClampNeg) &&& (63 : Int32)) = (26 : Int32) then
  (bd (fX10_delay v1 σ) fun r_1031 s_1031 =>
  bd (fX11_delay v2 s_1031) fun r_1035 s_1035 =>
  if r_1031 = r_1035 then
  (fL_law_1370 xs L v1 v2 v3 k18 s_1035)
  else
  (some ((0 : Int32), s_1035)))
  else
  (if ((xs (v3).toNatClampNeg) &&& (63 : Int32)) = (27 : Int32) then
  (gd (inR (v3 + (1 : Int32)) L) <|
  bd (fX10_best v1 (xs ((v3 + (1 : Int32))).toNatClampNeg) σ) fun r_1049 s_1049 =>
  gd (inR (v3 + (1 : Int32)) L) <|
  bd (fX11_best v2 (xs ((v3 + (1 : Int32))).toNatClampNeg) s_1049) fun r_1058 s_1058 =>
  if r_1049 = r_1058 then
  (fL_law_1370 xs L v1 v2 v3 k18 s_1058)
  else
  (some ((0 : Int32), s_1058)))
  else
  (if ((xs (v3).toNatClampNeg) &&& (63 : Int32)) = (28 : Int32) then
  (gd (inR (v3 + (1 : Int32)) L) <|
  gd (inR (v3 + (2 : Int32)) L) <|
  gd (inR (v3 + (3 : Int32)) L) <|
  bd (fX10_price v1 (xs ((v3 + (1 : Int32))).toNatClampNeg) (xs ((v3 + (2 : Int32))).toNatClampNeg) (xs ((v3 + (3 : Int32))).toNatClampNeg) σ) fun r_1082 s_1082 =>
  gd (inR (v3 + (1 : Int32)) L) <|
  gd (inR (v3 + (2 : Int32)) L) <|
  gd (inR (v3 + (3 : Int32)) L) <|
  bd (fX11_price v2 (xs ((v3 + (1 : Int32))).toNatClampNeg) (xs ((v3 + (2 : Int32))).toNatClampNeg) (xs ((v3 + (3 : Int32))).toNatClampNeg) s_1082) fun r_1101 s_1101 =>
  if r_1082 = r_1101 then
  (fL_law_1370 xs L v1 v2 v3 k18 s_1101)
  else
  (some ((0 : Int32), s_1101)))
  else
  (if ((xs (v3).toNatClampNeg) &&& (63 : Int32)) = (29 : Int32) then
  (gd (inR (v3 + (1 : Int32)) L) <|
  gd (inR (v3 + (2 : Int32)) L) <|
  gd (inR (v3 + (3 : Int32)) L) <|
  gd (inR (v3 + (4 : Int32)) L) <|
  bd (fX10_proves v1 (xs ((v3 + (1 : Int32))).toNatClampNeg) (xs ((v3 + (2 : Int32))).toNatClampNeg) (xs ((v3 + (3 : Int32))).toNatClampNeg) (xs ((v3 + (4 : Int32))).toNatClampNeg) σ) fun r_1130 s_1130 =>
  gd (inR (v3 + (1 : Int32)) L) <|
  gd (inR (v3 + (2 : Int32)) L) <|
  gd (inR (v3 + (3 : Int32)) L) <|
  gd (inR (v3 + (4 : Int32)) L) <|
  bd (fX11_proves v2 (xs ((v3 + (1 : Int32))).toNatClampNeg) (xs ((v3 + (2 : Int32))).toNatClampNeg) (xs ((v3 + (3 : Int32))).toNatClampNeg) (xs ((v3 + (4 : Int32))).toNatClampNeg) s_1130) fun r_1154 s_1154 =>
  if r_1130 = r_1154 then
  (fL_law_1370 xs L v1 v2 v3 k18 s_1154)
  else
  (some ((0 : Int32), s_1154)))
  else
  (if ((xs (v3).toNatClampNeg) &&& (63 : Int32)) = (30 : Int32) then
  (gd (inR (v3 + (1 : Int32)) L) <|
  gd (inR (v3 + (2 : Int32)) L) <|
  gd (inR (v3 + (3 : Int32)) L) <|
  bd (fX10_sheet v1 (xs ((v3 + (1 : Int32))).toNatClampNeg) (xs ((v3 + (2 : Int32))).toNatClampNeg) (xs ((v3 + (3 : Int32))).toNatClampNeg) σ) fun r_1178 s_1178 =>
  gd (inR (v3 + (1 : Int32)) L) <|
  gd (inR (v3 + (2 : Int32)) L) <|
  gd (inR (v3 + (3 : Int32)) L) <|
  bd (fX11_sheet v2 (xs ((v3 + (1 : Int32))).toNatClampNeg) (xs ((v3 + (2 : Int32))).toNatClampNeg) (xs ((v3 + (3 : Int32))).toNatClampNeg) s_1178) fun r_1197 s_1197 =>
  if r_1178 = r_1197 then
  (fL_law_1370 xs L v1 v2 v3 k18 s_1197)
  else
  (some ((0 : Int32), s_1197)))
  else
  (if ((xs (v3).toNatClampNeg) &&& (63 : Int32)) = (31 : Int32) then
  (gd (inR (v3 + (1 : Int32)) L) <|
  gd (inR (v3 + (2 : Int32)) L) <|
  gd (inR (v3 + (3 : Int32)) L) <|
  bd (fX10_put v1 (xs ((v3 + (1 : Int32))).toNatClampNeg) (xs ((v3 + (2 : Int32))).toNatClampNeg) (xs ((v3 + (3 : Int32))).toNatClampNeg) σ) fun r_1221 s_1221 =>
  gd (inR (v3 + (1 : Int32)) L) <|
  gd (inR (v3 + (2 : Int32)) L) <|
  gd (inR (v3 + (3 : Int32)) L) <|
  bd (fX11_put v2 (xs ((v3 + (1 : Int32))).toNatClampNeg) (xs ((v3 + (2 : Int32))).toNatClampNeg) (xs ((v3 + (3 : Int32))).toNatClampNeg) s_1221) fun r_1240 s_1240 =>
  if r_1221 = r_1240 then
  (fL_law_1370 xs L v1 v2 v3 k18 s_1240)
  else
  (some ((0 : Int32), s_1240)))
  else
  (if ((xs (v3).toNatClampNeg) &&& (63 : Int32)) = (32 : Int32) then
  (gd (inR (v3 + (1 : Int32)) L) <|
  gd (inR (v3 + (2 : Int32)) L) <|
  gd (inR (v3 + (3 : Int32)) L) <|
  gd (inR (v3 + (4 : Int32)) L) <|
  gd (inR (v3 + (5 : Int32)) L) <|
  bd (fX10_copy v1 (xs ((v3 + (1 : Int32))).toNatClampNeg) (xs ((v3 + (2 : Int32))).toNatClampNeg) (xs ((v3 + (3 : Int32))).toNatClampNeg) (xs ((v3 + (4 : Int32))).toNatClampNeg) (xs ((v3 + (5 : Int32))).toNatClampNeg) σ) fun r_1274 s_1274 =>
  gd (inR (v3 + (1 : Int32)) L) <|
  gd (inR (v3 + (2 : Int32)) L) <|
  gd (inR (v3 + (3 : Int32)) L) <|
  gd (inR (v3 + (4 : Int32)) L) <|
  gd (inR (v3 + (5 : Int32)) L) <|
  bd (fX11_copy v2 (xs ((v3 + (1 : Int32))).toNatClampNeg) (xs ((v3 + (2 : Int32))).toNatClampNeg) (xs ((v3 + (3 : Int32))).toNatClampNeg) (xs ((v3 + (4 : Int32))).toNatClampNeg) (xs ((v3 + (5 : Int32))).toNatClampNeg) s_1274) fun r_1303 s_1303 =>
  if r_1274 = r_1303 then
  (fL_law_1370 xs L v1 v2 v3 k18 s_1303)
  else
  (some ((0 : Int32), s_1303)))
  else
  (if ((xs (v3).toNatClampNeg) &&& (63 : Int32)) = (33 : Int32) then
  (gd (inR (v3 + (1 : Int32)) L) <|
  bd (fX10_grades v1 (xs ((v3 + (1 : Int32))).toNatClampNeg) σ) fun r_1317 s_1317 =>
  gd (inR (v3 + (1 : Int32)) L) <|
  bd (fX11_grades v2 (xs ((v3 + (1 : Int32))).toNatClampNeg) s_1317) fun r_1326 s_1326 =>
  if r_1317 = r_1326 then
  (fL_law_1370 xs L v1 v2 v3 k18 s_1326)
  else
  (some ((0 : Int32), s_1326)))
  else
  (if ((xs (v3).toNatClampNeg) &&& (63 : Int32)) = (34 : Int32) then
  (bd (fX10_undo v1 σ) fun r_1335 s_1335 =>
  bd (fX11_undo v2 s_1335) fun r_1339 s_1339 =>
  if r_1335 = r_1339 then
  (fL_law_1370 xs L v1 v2 v3 k18 s_1339)
  else
  (some ((0 : Int32), s_1339)))
  else
  (if ((xs (v3).toNatClampNeg) &&& (63 : Int32)) = (35 : Int32) then
  (gd (inR (v3 + (1 : Int32)) L) <|
  bd (fX10_all v1 (xs ((v3 + (1 : Int32))).toNatClampNeg) σ) fun r_1353 s_1353 =>
  gd (inR (v3 + (1 : Int32)) L) <|
  bd (fX11_all v2 (xs ((v3 + (1 : Int32))).toNatClampNeg) s_1353) fun r_1362 s_1362 =>
  if r_1353 = r_1362 then
  (fL_law_1370 xs L v1 v2 v3 k18 s_1362)
  else
  (some ((0 : Int32), s_1362)))
  else
  (fL_law_1370 xs L v1 v2 v3 k18 σ)))))))))))))))))))))))))))))))))))))
def fL_law (xs : Nat → Int32) (L : Nat) (v1 : Nat) (v2 : Nat) (σ : Sg) : Option (Int32 × Sg) :=
  lt (0 : Int32) fun v3_17 =>
  lq1 (fL_law_18 xs L v1 v2) FU v3_17 σ
set_option maxRecDepth 100000 in
set_option maxHeartbeats 40000000 in
theorem CL_law {p : Program} {l : Launch} {e : Env} {s : State} {m : MethodId} {below : List Frame} {meth : Method} {c : Code} {M : Mc} {cs sl : Nat} {b L : Nat} {xs : Nat → Int32} (C : Cx p s m #[Value.ref b] meth c M code 4 RL ret) (hX : va_X b L xs s s.heap) (hbl : b < s.heap.size) (hbA : ¬ Am M b) (hz : cs ≤ room_1.cells ∧ sl ≤ room_1.slots) (hA1 : ∀ q, Am M q → s.heap.size ≤ q) (v1 : Nat) (h1 : isK v1 10) (v2 : Nat) (h2 : isK v2 11) (σ : Sg) : Jg p l e room_1 s m #[Value.ref b] below meth c M 4 cs sl (Ql below b s) σ 16 [(2, .ref (adr M v2)), (1, .ref (adr M v1)), (0, .ref b)] [] (fL_law xs L v1 v2 σ) := by
  have hD := C.2.2.2.2.1
  have H18 : ∀  (n : Nat) (v3 : Int32) (τ : Sg), Jg p l e room_1 s m #[Value.ref b] below meth c M 4 cs sl (Ql below b s) τ 18 [(0, .ref b), (1, .ref (adr M v1)), (2, .ref (adr M v2)), (3, .int v3)] [] (lq1 (fL_law_18 xs L v1 v2) n v3 τ) := by
    refine j_lq1 (Ls := fun v3 => [(0, .ref b), (1, .ref (adr M v1)), (2, .ref (adr M v2)), (3, .int v3)]) (st := fun _ => []) ?_
    intro k18 hk18 v3 σ
    have H1370 : ∀ (v3 : Int32) (τ : Sg), Jg p l e room_1 s m #[Value.ref b] below meth c M 4 cs sl (Ql below b s) τ 1370 [(0, .ref b), (1, .ref (adr M v1)), (2, .ref (adr M v2)), (3, .int v3)] [] (fL_law_1370 xs L v1 v2 v3 k18 τ) := by
      intro v3 σ
      unfold fL_law_1370
      refine j_iinc C (v := (6 : Int32)) (Ls' := fun v3_1370 => [(3, .int v3_1370), (0, .ref b), (1, .ref (adr M v1)), (2, .ref (adr M v2))]) dL_law_1370 3 rfl (by decide) (by decide) (fun _ => rfl) (fun v3_1370 => ?_)
      refine j_goto C (tgt := 18) dL_law_1373 (by decide) ?_
      refine j_sub (Ls' := [(0, .ref b), (1, .ref (adr M v1)), (2, .ref (adr M v2)), (3, .int v3_1370)]) [1, 2, 3, 0] rfl ?_
      exact hk18 v3_1370 σ
    unfold fL_law_18
    refine j_iload_n C dL_law_18 rfl ?_
    refine j_aload_n C dL_law_19 rfl ?_
    refine j_slen C hX hbl hbA dL_law_20 ?_
    refine j_bipush C (v := (6 : Int32)) dL_law_21 (by decide) ?_
    refine j_isub C dL_law_23 ?_
    refine j_icmp_gt C (tgt := 1376) dL_law_24 (by decide) ?_ ?_
    · refine j_iconst C (v := (1 : Int32)) dL_law_1376 (by decide) ?_
      exact j_lret C hz hA1 dL_law_1377
    · refine j_aload_n C dL_law_27 rfl ?_
      refine j_iload_n C dL_law_28 rfl ?_
      refine j_sld C hX hbl hbA dL_law_29 ?_
      refine j_bipush C (v := (63 : Int32)) dL_law_30 (by decide) ?_
      refine j_iand C dL_law_32 ?_
      refine j_cases (fun hq33_0 => ?_) (fun hq33_0 => ?_)
      · refine j_tabIn C dL_law_33 (tgt := 192) hq33_0 (by decide) (by decide) rfl (by decide) ?_
        refine j_aload_n C dL_law_192 rfl ?_
        refine j_aload_n C dL_law_193 rfl ?_
        refine j_iload_n C dL_law_194 rfl ?_
        refine j_iconst C (v := (1 : Int32)) dL_law_195 (by decide) ?_
        refine j_iadd C dL_law_196 ?_
        refine j_sld C hX hbl hbA dL_law_197 ?_
        refine j_callVI C (As := [.int ((xs ((v3 + (1 : Int32))).toNatClampNeg))]) dL_law_198 (CX10_stations l M hD v1 h1 (xs ((v3 + (1 : Int32))).toNatClampNeg) σ) vv_RL_13 h1 (by decide) rfl rfl ⟨rfl, rfl⟩ (by decide) (Nat.le_of_ble_eq_true rfl) hz (fun r_198 s_198 => ?_)
        refine j_aload_n C dL_law_201 rfl ?_
        refine j_aload_n C dL_law_202 rfl ?_
        refine j_iload_n C dL_law_203 rfl ?_
        refine j_iconst C (v := (1 : Int32)) dL_law_204 (by decide) ?_
        refine j_iadd C dL_law_205 ?_
        refine j_sld C hX hbl hbA dL_law_206 ?_
        refine j_callVI C (As := [.int ((xs ((v3 + (1 : Int32))).toNatClampNeg))]) dL_law_207 (CX11_stations l M hD v2 h2 (xs ((v3 + (1 : Int32))).toNatClampNeg) s_198) vv_RL_17 h2 (by decide) rfl rfl ⟨rfl, rfl⟩ (by decide) (Nat.le_of_ble_eq_true rfl) hz (fun r_207 s_207 => ?_)
        refine j_icmp_eq C (tgt := 1370) dL_law_210 (by decide) ?_ ?_
        · exact H1370 v3 s_207
        · refine j_iconst C (v := (0 : Int32)) dL_law_213 (by decide) ?_
          exact j_lret C hz hA1 dL_law_214
      · refine j_cases (fun hq33_1 => ?_) (fun hq33_1 => ?_)
        · refine j_tabIn C dL_law_33 (tgt := 215) hq33_1 (by decide) (by decide) rfl (by decide) ?_
          refine j_aload_n C dL_law_215 rfl ?_
          refine j_aload_n C dL_law_216 rfl ?_
          refine j_iload_n C dL_law_217 rfl ?_
          refine j_iconst C (v := (1 : Int32)) dL_law_218 (by decide) ?_
          refine j_iadd C dL_law_219 ?_
          refine j_sld C hX hbl hbA dL_law_220 ?_
          refine j_aload_n C dL_law_221 rfl ?_
          refine j_iload_n C dL_law_222 rfl ?_
          refine j_iconst C (v := (2 : Int32)) dL_law_223 (by decide) ?_
          refine j_iadd C dL_law_224 ?_
          refine j_sld C hX hbl hbA dL_law_225 ?_
          refine j_callVI C (As := [.int ((xs ((v3 + (1 : Int32))).toNatClampNeg)), .int ((xs ((v3 + (2 : Int32))).toNatClampNeg))]) dL_law_226 (CX10_siding l M hD v1 h1 (xs ((v3 + (1 : Int32))).toNatClampNeg) (xs ((v3 + (2 : Int32))).toNatClampNeg) σ) vv_RL_18 h1 (by decide) rfl rfl ⟨rfl, rfl⟩ (by decide) (Nat.le_of_ble_eq_true rfl) hz (fun r_226 s_226 => ?_)
          refine j_aload_n C dL_law_229 rfl ?_
          refine j_aload_n C dL_law_230 rfl ?_
          refine j_iload_n C dL_law_231 rfl ?_
          refine j_iconst C (v := (1 : Int32)) dL_law_232 (by decide) ?_
          refine j_iadd C dL_law_233 ?_
          refine j_sld C hX hbl hbA dL_law_234 ?_
          refine j_aload_n C dL_law_235 rfl ?_
          refine j_iload_n C dL_law_236 rfl ?_
          refine j_iconst C (v := (2 : Int32)) dL_law_237 (by decide) ?_
          refine j_iadd C dL_law_238 ?_
          refine j_sld C hX hbl hbA dL_law_239 ?_
          refine j_callVI C (As := [.int ((xs ((v3 + (1 : Int32))).toNatClampNeg)), .int ((xs ((v3 + (2 : Int32))).toNatClampNeg))]) dL_law_240 (CX11_siding l M hD v2 h2 (xs ((v3 + (1 : Int32))).toNatClampNeg) (xs ((v3 + (2 : Int32))).toNatClampNeg) s_226) vv_RL_22 h2 (by decide) rfl rfl ⟨rfl, rfl⟩ (by decide) (Nat.le_of_ble_eq_true rfl) hz (fun r_240 s_240 => ?_)
          refine j_icmp_eq C (tgt := 1370) dL_law_243 (by decide) ?_ ?_
          · exact H1370 v3 s_240
          · refine j_iconst C (v := (0 : Int32)) dL_law_246 (by decide) ?_
            exact j_lret C hz hA1 dL_law_247
        · refine j_cases (fun hq33_2 => ?_) (fun hq33_2 => ?_)
          · refine j_tabIn C dL_law_33 (tgt := 248) hq33_2 (by decide) (by decide) rfl (by decide) ?_
            refine j_aload_n C dL_law_248 rfl ?_
            refine j_aload_n C dL_law_249 rfl ?_
            refine j_iload_n C dL_law_250 rfl ?_
            refine j_iconst C (v := (1 : Int32)) dL_law_251 (by decide) ?_
            refine j_iadd C dL_law_252 ?_
            refine j_sld C hX hbl hbA dL_law_253 ?_
            refine j_aload_n C dL_law_254 rfl ?_
            refine j_iload_n C dL_law_255 rfl ?_
            refine j_iconst C (v := (2 : Int32)) dL_law_256 (by decide) ?_
            refine j_iadd C dL_law_257 ?_
            refine j_sld C hX hbl hbA dL_law_258 ?_
            refine j_callVI C (As := [.int ((xs ((v3 + (1 : Int32))).toNatClampNeg)), .int ((xs ((v3 + (2 : Int32))).toNatClampNeg))]) dL_law_259 (CX10_section l M hD v1 h1 (xs ((v3 + (1 : Int32))).toNatClampNeg) (xs ((v3 + (2 : Int32))).toNatClampNeg) σ) vv_RL_23 h1 (by decide) rfl rfl ⟨rfl, rfl⟩ (by decide) (Nat.le_of_ble_eq_true rfl) hz (fun r_259 s_259 => ?_)
            refine j_aload_n C dL_law_262 rfl ?_
            refine j_aload_n C dL_law_263 rfl ?_
            refine j_iload_n C dL_law_264 rfl ?_
            refine j_iconst C (v := (1 : Int32)) dL_law_265 (by decide) ?_
            refine j_iadd C dL_law_266 ?_
            refine j_sld C hX hbl hbA dL_law_267 ?_
            refine j_aload_n C dL_law_268 rfl ?_
            refine j_iload_n C dL_law_269 rfl ?_
            refine j_iconst C (v := (2 : Int32)) dL_law_270 (by decide) ?_
            refine j_iadd C dL_law_271 ?_
            refine j_sld C hX hbl hbA dL_law_272 ?_
            refine j_callVI C (As := [.int ((xs ((v3 + (1 : Int32))).toNatClampNeg)), .int ((xs ((v3 + (2 : Int32))).toNatClampNeg))]) dL_law_273 (CX11_section l M hD v2 h2 (xs ((v3 + (1 : Int32))).toNatClampNeg) (xs ((v3 + (2 : Int32))).toNatClampNeg) s_259) vv_RL_26 h2 (by decide) rfl rfl ⟨rfl, rfl⟩ (by decide) (Nat.le_of_ble_eq_true rfl) hz (fun r_273 s_273 => ?_)
            refine j_icmp_eq C (tgt := 1370) dL_law_276 (by decide) ?_ ?_
            · exact H1370 v3 s_273
            · refine j_iconst C (v := (0 : Int32)) dL_law_279 (by decide) ?_
              exact j_lret C hz hA1 dL_law_280
          · refine j_cases (fun hq33_3 => ?_) (fun hq33_3 => ?_)
            · refine j_tabIn C dL_law_33 (tgt := 281) hq33_3 (by decide) (by decide) rfl (by decide) ?_
              refine j_aload_n C dL_law_281 rfl ?_
              refine j_aload_n C dL_law_282 rfl ?_
              refine j_iload_n C dL_law_283 rfl ?_
              refine j_iconst C (v := (1 : Int32)) dL_law_284 (by decide) ?_
              refine j_iadd C dL_law_285 ?_
              refine j_sld C hX hbl hbA dL_law_286 ?_
              refine j_aload_n C dL_law_287 rfl ?_
              refine j_iload_n C dL_law_288 rfl ?_
              refine j_iconst C (v := (2 : Int32)) dL_law_289 (by decide) ?_
              refine j_iadd C dL_law_290 ?_
              refine j_sld C hX hbl hbA dL_law_291 ?_
              refine j_aload_n C dL_law_292 rfl ?_
              refine j_iload_n C dL_law_293 rfl ?_
              refine j_iconst C (v := (3 : Int32)) dL_law_294 (by decide) ?_
              refine j_iadd C dL_law_295 ?_
              refine j_sld C hX hbl hbA dL_law_296 ?_
              refine j_aload_n C dL_law_297 rfl ?_
              refine j_iload_n C dL_law_298 rfl ?_
              refine j_iconst C (v := (4 : Int32)) dL_law_299 (by decide) ?_
              refine j_iadd C dL_law_300 ?_
              refine j_sld C hX hbl hbA dL_law_301 ?_
              refine j_aload_n C dL_law_302 rfl ?_
              refine j_iload_n C dL_law_303 rfl ?_
              refine j_iconst C (v := (5 : Int32)) dL_law_304 (by decide) ?_
              refine j_iadd C dL_law_305 ?_
              refine j_sld C hX hbl hbA dL_law_306 ?_
              refine j_callVI C (As := [.int ((xs ((v3 + (1 : Int32))).toNatClampNeg)), .int ((xs ((v3 + (2 : Int32))).toNatClampNeg)), .int ((xs ((v3 + (3 : Int32))).toNatClampNeg)), .int ((xs ((v3 + (4 : Int32))).toNatClampNeg)), .int ((xs ((v3 + (5 : Int32))).toNatClampNeg))]) dL_law_307 (CX10_train l M hD v1 h1 (xs ((v3 + (1 : Int32))).toNatClampNeg) (xs ((v3 + (2 : Int32))).toNatClampNeg) (xs ((v3 + (3 : Int32))).toNatClampNeg) (xs ((v3 + (4 : Int32))).toNatClampNeg) (xs ((v3 + (5 : Int32))).toNatClampNeg) σ) vv_RL_27 h1 (by decide) rfl rfl ⟨rfl, rfl⟩ (by decide) (Nat.le_of_ble_eq_true rfl) hz (fun r_307 s_307 => ?_)
              refine j_aload_n C dL_law_310 rfl ?_
              refine j_aload_n C dL_law_311 rfl ?_
              refine j_iload_n C dL_law_312 rfl ?_
              refine j_iconst C (v := (1 : Int32)) dL_law_313 (by decide) ?_
              refine j_iadd C dL_law_314 ?_
              refine j_sld C hX hbl hbA dL_law_315 ?_
              refine j_aload_n C dL_law_316 rfl ?_
              refine j_iload_n C dL_law_317 rfl ?_
              refine j_iconst C (v := (2 : Int32)) dL_law_318 (by decide) ?_
              refine j_iadd C dL_law_319 ?_
              refine j_sld C hX hbl hbA dL_law_320 ?_
              refine j_aload_n C dL_law_321 rfl ?_
              refine j_iload_n C dL_law_322 rfl ?_
              refine j_iconst C (v := (3 : Int32)) dL_law_323 (by decide) ?_
              refine j_iadd C dL_law_324 ?_
              refine j_sld C hX hbl hbA dL_law_325 ?_
              refine j_aload_n C dL_law_326 rfl ?_
              refine j_iload_n C dL_law_327 rfl ?_
              refine j_iconst C (v := (4 : Int32)) dL_law_328 (by decide) ?_
              refine j_iadd C dL_law_329 ?_
              refine j_sld C hX hbl hbA dL_law_330 ?_
              refine j_aload_n C dL_law_331 rfl ?_
              refine j_iload_n C dL_law_332 rfl ?_
              refine j_iconst C (v := (5 : Int32)) dL_law_333 (by decide) ?_
              refine j_iadd C dL_law_334 ?_
              refine j_sld C hX hbl hbA dL_law_335 ?_
              refine j_callVI C (As := [.int ((xs ((v3 + (1 : Int32))).toNatClampNeg)), .int ((xs ((v3 + (2 : Int32))).toNatClampNeg)), .int ((xs ((v3 + (3 : Int32))).toNatClampNeg)), .int ((xs ((v3 + (4 : Int32))).toNatClampNeg)), .int ((xs ((v3 + (5 : Int32))).toNatClampNeg))]) dL_law_336 (CX11_train l M hD v2 h2 (xs ((v3 + (1 : Int32))).toNatClampNeg) (xs ((v3 + (2 : Int32))).toNatClampNeg) (xs ((v3 + (3 : Int32))).toNatClampNeg) (xs ((v3 + (4 : Int32))).toNatClampNeg) (xs ((v3 + (5 : Int32))).toNatClampNeg) s_307) vv_RL_31 h2 (by decide) rfl rfl ⟨rfl, rfl⟩ (by decide) (Nat.le_of_ble_eq_true rfl) hz (fun r_336 s_336 => ?_)
              refine j_icmp_eq C (tgt := 1370) dL_law_339 (by decide) ?_ ?_
              · exact H1370 v3 s_336
              · refine j_iconst C (v := (0 : Int32)) dL_law_342 (by decide) ?_
                exact j_lret C hz hA1 dL_law_343
            · refine j_cases (fun hq33_4 => ?_) (fun hq33_4 => ?_)
              · refine j_tabIn C dL_law_33 (tgt := 344) hq33_4 (by decide) (by decide) rfl (by decide) ?_
                refine j_aload_n C dL_law_344 rfl ?_
                refine j_aload_n C dL_law_345 rfl ?_
                refine j_iload_n C dL_law_346 rfl ?_
                refine j_iconst C (v := (1 : Int32)) dL_law_347 (by decide) ?_
                refine j_iadd C dL_law_348 ?_
                refine j_sld C hX hbl hbA dL_law_349 ?_
                refine j_aload_n C dL_law_350 rfl ?_
                refine j_iload_n C dL_law_351 rfl ?_
                refine j_iconst C (v := (2 : Int32)) dL_law_352 (by decide) ?_
                refine j_iadd C dL_law_353 ?_
                refine j_sld C hX hbl hbA dL_law_354 ?_
                refine j_callVI C (As := [.int ((xs ((v3 + (1 : Int32))).toNatClampNeg)), .int ((xs ((v3 + (2 : Int32))).toNatClampNeg))]) dL_law_355 (CX10_as l M hD v1 h1 (xs ((v3 + (1 : Int32))).toNatClampNeg) (xs ((v3 + (2 : Int32))).toNatClampNeg) σ) vv_RL_32 h1 (by decide) rfl rfl ⟨rfl, rfl⟩ (by decide) (Nat.le_of_ble_eq_true rfl) hz (fun r_355 s_355 => ?_)
                refine j_aload_n C dL_law_358 rfl ?_
                refine j_aload_n C dL_law_359 rfl ?_
                refine j_iload_n C dL_law_360 rfl ?_
                refine j_iconst C (v := (1 : Int32)) dL_law_361 (by decide) ?_
                refine j_iadd C dL_law_362 ?_
                refine j_sld C hX hbl hbA dL_law_363 ?_
                refine j_aload_n C dL_law_364 rfl ?_
                refine j_iload_n C dL_law_365 rfl ?_
                refine j_iconst C (v := (2 : Int32)) dL_law_366 (by decide) ?_
                refine j_iadd C dL_law_367 ?_
                refine j_sld C hX hbl hbA dL_law_368 ?_
                refine j_callVI C (As := [.int ((xs ((v3 + (1 : Int32))).toNatClampNeg)), .int ((xs ((v3 + (2 : Int32))).toNatClampNeg))]) dL_law_369 (CX11_as l M hD v2 h2 (xs ((v3 + (1 : Int32))).toNatClampNeg) (xs ((v3 + (2 : Int32))).toNatClampNeg) s_355) vv_RL_35 h2 (by decide) rfl rfl ⟨rfl, rfl⟩ (by decide) (Nat.le_of_ble_eq_true rfl) hz (fun r_369 s_369 => ?_)
                refine j_icmp_eq C (tgt := 1370) dL_law_372 (by decide) ?_ ?_
                · exact H1370 v3 s_369
                · refine j_iconst C (v := (0 : Int32)) dL_law_375 (by decide) ?_
                  exact j_lret C hz hA1 dL_law_376
              · refine j_cases (fun hq33_5 => ?_) (fun hq33_5 => ?_)
                · refine j_tabIn C dL_law_33 (tgt := 377) hq33_5 (by decide) (by decide) rfl (by decide) ?_
                  refine j_aload_n C dL_law_377 rfl ?_
                  refine j_aload_n C dL_law_378 rfl ?_
                  refine j_iload_n C dL_law_379 rfl ?_
                  refine j_iconst C (v := (1 : Int32)) dL_law_380 (by decide) ?_
                  refine j_iadd C dL_law_381 ?_
                  refine j_sld C hX hbl hbA dL_law_382 ?_
                  refine j_aload_n C dL_law_383 rfl ?_
                  refine j_iload_n C dL_law_384 rfl ?_
                  refine j_iconst C (v := (2 : Int32)) dL_law_385 (by decide) ?_
                  refine j_iadd C dL_law_386 ?_
                  refine j_sld C hX hbl hbA dL_law_387 ?_
                  refine j_callVI C (As := [.int ((xs ((v3 + (1 : Int32))).toNatClampNeg)), .int ((xs ((v3 + (2 : Int32))).toNatClampNeg))]) dL_law_388 (CX10_of l M hD v1 h1 (xs ((v3 + (1 : Int32))).toNatClampNeg) (xs ((v3 + (2 : Int32))).toNatClampNeg) σ) vv_RL_36 h1 (by decide) rfl rfl ⟨rfl, rfl⟩ (by decide) (Nat.le_of_ble_eq_true rfl) hz (fun r_388 s_388 => ?_)
                  refine j_aload_n C dL_law_391 rfl ?_
                  refine j_aload_n C dL_law_392 rfl ?_
                  refine j_iload_n C dL_law_393 rfl ?_
                  refine j_iconst C (v := (1 : Int32)) dL_law_394 (by decide) ?_
                  refine j_iadd C dL_law_395 ?_
                  refine j_sld C hX hbl hbA dL_law_396 ?_
                  refine j_aload_n C dL_law_397 rfl ?_
                  refine j_iload_n C dL_law_398 rfl ?_
                  refine j_iconst C (v := (2 : Int32)) dL_law_399 (by decide) ?_
                  refine j_iadd C dL_law_400 ?_
                  refine j_sld C hX hbl hbA dL_law_401 ?_
                  refine j_callVI C (As := [.int ((xs ((v3 + (1 : Int32))).toNatClampNeg)), .int ((xs ((v3 + (2 : Int32))).toNatClampNeg))]) dL_law_402 (CX11_of l M hD v2 h2 (xs ((v3 + (1 : Int32))).toNatClampNeg) (xs ((v3 + (2 : Int32))).toNatClampNeg) s_388) vv_RL_39 h2 (by decide) rfl rfl ⟨rfl, rfl⟩ (by decide) (Nat.le_of_ble_eq_true rfl) hz (fun r_402 s_402 => ?_)
                  refine j_icmp_eq C (tgt := 1370) dL_law_405 (by decide) ?_ ?_
                  · exact H1370 v3 s_402
                  · refine j_iconst C (v := (0 : Int32)) dL_law_408 (by decide) ?_
                    exact j_lret C hz hA1 dL_law_409
                · refine j_cases (fun hq33_6 => ?_) (fun hq33_6 => ?_)
                  · refine j_tabIn C dL_law_33 (tgt := 410) hq33_6 (by decide) (by decide) rfl (by decide) ?_
                    refine j_aload_n C dL_law_410 rfl ?_
                    refine j_aload_n C dL_law_411 rfl ?_
                    refine j_iload_n C dL_law_412 rfl ?_
                    refine j_iconst C (v := (1 : Int32)) dL_law_413 (by decide) ?_
                    refine j_iadd C dL_law_414 ?_
                    refine j_sld C hX hbl hbA dL_law_415 ?_
                    refine j_aload_n C dL_law_416 rfl ?_
                    refine j_iload_n C dL_law_417 rfl ?_
                    refine j_iconst C (v := (2 : Int32)) dL_law_418 (by decide) ?_
                    refine j_iadd C dL_law_419 ?_
                    refine j_sld C hX hbl hbA dL_law_420 ?_
                    refine j_callVI C (As := [.int ((xs ((v3 + (1 : Int32))).toNatClampNeg)), .int ((xs ((v3 + (2 : Int32))).toNatClampNeg))]) dL_law_421 (CX10_time l M hD v1 h1 (xs ((v3 + (1 : Int32))).toNatClampNeg) (xs ((v3 + (2 : Int32))).toNatClampNeg) σ) vv_RL_40 h1 (by decide) rfl rfl ⟨rfl, rfl⟩ (by decide) (Nat.le_of_ble_eq_true rfl) hz (fun r_421 s_421 => ?_)
                    refine j_aload_n C dL_law_424 rfl ?_
                    refine j_aload_n C dL_law_425 rfl ?_
                    refine j_iload_n C dL_law_426 rfl ?_
                    refine j_iconst C (v := (1 : Int32)) dL_law_427 (by decide) ?_
                    refine j_iadd C dL_law_428 ?_
                    refine j_sld C hX hbl hbA dL_law_429 ?_
                    refine j_aload_n C dL_law_430 rfl ?_
                    refine j_iload_n C dL_law_431 rfl ?_
                    refine j_iconst C (v := (2 : Int32)) dL_law_432 (by decide) ?_
                    refine j_iadd C dL_law_433 ?_
                    refine j_sld C hX hbl hbA dL_law_434 ?_
                    refine j_callVI C (As := [.int ((xs ((v3 + (1 : Int32))).toNatClampNeg)), .int ((xs ((v3 + (2 : Int32))).toNatClampNeg))]) dL_law_435 (CX11_time l M hD v2 h2 (xs ((v3 + (1 : Int32))).toNatClampNeg) (xs ((v3 + (2 : Int32))).toNatClampNeg) s_421) vv_RL_43 h2 (by decide) rfl rfl ⟨rfl, rfl⟩ (by decide) (Nat.le_of_ble_eq_true rfl) hz (fun r_435 s_435 => ?_)
                    refine j_icmp_eq C (tgt := 1370) dL_law_438 (by decide) ?_ ?_
                    · exact H1370 v3 s_435
                    · refine j_iconst C (v := (0 : Int32)) dL_law_441 (by decide) ?_
                      exact j_lret C hz hA1 dL_law_442
                  · refine j_cases (fun hq33_7 => ?_) (fun hq33_7 => ?_)
                    · refine j_tabIn C dL_law_33 (tgt := 443) hq33_7 (by decide) (by decide) rfl (by decide) ?_
                      refine j_aload_n C dL_law_443 rfl ?_
                      refine j_aload_n C dL_law_444 rfl ?_
                      refine j_iload_n C dL_law_445 rfl ?_
                      refine j_iconst C (v := (1 : Int32)) dL_law_446 (by decide) ?_
                      refine j_iadd C dL_law_447 ?_
                      refine j_sld C hX hbl hbA dL_law_448 ?_
                      refine j_aload_n C dL_law_449 rfl ?_
                      refine j_iload_n C dL_law_450 rfl ?_
                      refine j_iconst C (v := (2 : Int32)) dL_law_451 (by decide) ?_
                      refine j_iadd C dL_law_452 ?_
                      refine j_sld C hX hbl hbA dL_law_453 ?_
                      refine j_callVI C (As := [.int ((xs ((v3 + (1 : Int32))).toNatClampNeg)), .int ((xs ((v3 + (2 : Int32))).toNatClampNeg))]) dL_law_454 (CX10_due l M hD v1 h1 (xs ((v3 + (1 : Int32))).toNatClampNeg) (xs ((v3 + (2 : Int32))).toNatClampNeg) σ) vv_RL_44 h1 (by decide) rfl rfl ⟨rfl, rfl⟩ (by decide) (Nat.le_of_ble_eq_true rfl) hz (fun r_454 s_454 => ?_)
                      refine j_aload_n C dL_law_457 rfl ?_
                      refine j_aload_n C dL_law_458 rfl ?_
                      refine j_iload_n C dL_law_459 rfl ?_
                      refine j_iconst C (v := (1 : Int32)) dL_law_460 (by decide) ?_
                      refine j_iadd C dL_law_461 ?_
                      refine j_sld C hX hbl hbA dL_law_462 ?_
                      refine j_aload_n C dL_law_463 rfl ?_
                      refine j_iload_n C dL_law_464 rfl ?_
                      refine j_iconst C (v := (2 : Int32)) dL_law_465 (by decide) ?_
                      refine j_iadd C dL_law_466 ?_
                      refine j_sld C hX hbl hbA dL_law_467 ?_
                      refine j_callVI C (As := [.int ((xs ((v3 + (1 : Int32))).toNatClampNeg)), .int ((xs ((v3 + (2 : Int32))).toNatClampNeg))]) dL_law_468 (CX11_due l M hD v2 h2 (xs ((v3 + (1 : Int32))).toNatClampNeg) (xs ((v3 + (2 : Int32))).toNatClampNeg) s_454) vv_RL_47 h2 (by decide) rfl rfl ⟨rfl, rfl⟩ (by decide) (Nat.le_of_ble_eq_true rfl) hz (fun r_468 s_468 => ?_)
                      refine j_icmp_eq C (tgt := 1370) dL_law_471 (by decide) ?_ ?_
                      · exact H1370 v3 s_468
                      · refine j_iconst C (v := (0 : Int32)) dL_law_474 (by decide) ?_
                        exact j_lret C hz hA1 dL_law_475
                    · refine j_cases (fun hq33_8 => ?_) (fun hq33_8 => ?_)
                      · refine j_tabIn C dL_law_33 (tgt := 476) hq33_8 (by decide) (by decide) rfl (by decide) ?_
                        refine j_aload_n C dL_law_476 rfl ?_
                        refine j_aload_n C dL_law_477 rfl ?_
                        refine j_iload_n C dL_law_478 rfl ?_
                        refine j_iconst C (v := (1 : Int32)) dL_law_479 (by decide) ?_
                        refine j_iadd C dL_law_480 ?_
                        refine j_sld C hX hbl hbA dL_law_481 ?_
                        refine j_aload_n C dL_law_482 rfl ?_
                        refine j_iload_n C dL_law_483 rfl ?_
                        refine j_iconst C (v := (2 : Int32)) dL_law_484 (by decide) ?_
                        refine j_iadd C dL_law_485 ?_
                        refine j_sld C hX hbl hbA dL_law_486 ?_
                        refine j_callVI C (As := [.int ((xs ((v3 + (1 : Int32))).toNatClampNeg)), .int ((xs ((v3 + (2 : Int32))).toNatClampNeg))]) dL_law_487 (CX10_over l M hD v1 h1 (xs ((v3 + (1 : Int32))).toNatClampNeg) (xs ((v3 + (2 : Int32))).toNatClampNeg) σ) vv_RL_48 h1 (by decide) rfl rfl ⟨rfl, rfl⟩ (by decide) (Nat.le_of_ble_eq_true rfl) hz (fun r_487 s_487 => ?_)
                        refine j_aload_n C dL_law_490 rfl ?_
                        refine j_aload_n C dL_law_491 rfl ?_
                        refine j_iload_n C dL_law_492 rfl ?_
                        refine j_iconst C (v := (1 : Int32)) dL_law_493 (by decide) ?_
                        refine j_iadd C dL_law_494 ?_
                        refine j_sld C hX hbl hbA dL_law_495 ?_
                        refine j_aload_n C dL_law_496 rfl ?_
                        refine j_iload_n C dL_law_497 rfl ?_
                        refine j_iconst C (v := (2 : Int32)) dL_law_498 (by decide) ?_
                        refine j_iadd C dL_law_499 ?_
                        refine j_sld C hX hbl hbA dL_law_500 ?_
                        refine j_callVI C (As := [.int ((xs ((v3 + (1 : Int32))).toNatClampNeg)), .int ((xs ((v3 + (2 : Int32))).toNatClampNeg))]) dL_law_501 (CX11_over l M hD v2 h2 (xs ((v3 + (1 : Int32))).toNatClampNeg) (xs ((v3 + (2 : Int32))).toNatClampNeg) s_487) vv_RL_51 h2 (by decide) rfl rfl ⟨rfl, rfl⟩ (by decide) (Nat.le_of_ble_eq_true rfl) hz (fun r_501 s_501 => ?_)
                        refine j_icmp_eq C (tgt := 1370) dL_law_504 (by decide) ?_ ?_
                        · exact H1370 v3 s_501
                        · refine j_iconst C (v := (0 : Int32)) dL_law_507 (by decide) ?_
                          exact j_lret C hz hA1 dL_law_508
                      · refine j_cases (fun hq33_9 => ?_) (fun hq33_9 => ?_)
                        · refine j_tabIn C dL_law_33 (tgt := 509) hq33_9 (by decide) (by decide) rfl (by decide) ?_
                          refine j_aload_n C dL_law_509 rfl ?_
                          refine j_aload_n C dL_law_510 rfl ?_
                          refine j_iload_n C dL_law_511 rfl ?_
                          refine j_iconst C (v := (1 : Int32)) dL_law_512 (by decide) ?_
                          refine j_iadd C dL_law_513 ?_
                          refine j_sld C hX hbl hbA dL_law_514 ?_
                          refine j_aload_n C dL_law_515 rfl ?_
                          refine j_iload_n C dL_law_516 rfl ?_
                          refine j_iconst C (v := (2 : Int32)) dL_law_517 (by decide) ?_
                          refine j_iadd C dL_law_518 ?_
                          refine j_sld C hX hbl hbA dL_law_519 ?_
                          refine j_aload_n C dL_law_520 rfl ?_
                          refine j_iload_n C dL_law_521 rfl ?_
                          refine j_iconst C (v := (3 : Int32)) dL_law_522 (by decide) ?_
                          refine j_iadd C dL_law_523 ?_
                          refine j_sld C hX hbl hbA dL_law_524 ?_
                          refine j_callVI C (As := [.int ((xs ((v3 + (1 : Int32))).toNatClampNeg)), .int ((xs ((v3 + (2 : Int32))).toNatClampNeg)), .int ((xs ((v3 + (3 : Int32))).toNatClampNeg))]) dL_law_525 (CX10_meet l M hD v1 h1 (xs ((v3 + (1 : Int32))).toNatClampNeg) (xs ((v3 + (2 : Int32))).toNatClampNeg) (xs ((v3 + (3 : Int32))).toNatClampNeg) σ) vv_RL_52 h1 (by decide) rfl rfl ⟨rfl, rfl⟩ (by decide) (Nat.le_of_ble_eq_true rfl) hz (fun r_525 s_525 => ?_)
                          refine j_aload_n C dL_law_528 rfl ?_
                          refine j_aload_n C dL_law_529 rfl ?_
                          refine j_iload_n C dL_law_530 rfl ?_
                          refine j_iconst C (v := (1 : Int32)) dL_law_531 (by decide) ?_
                          refine j_iadd C dL_law_532 ?_
                          refine j_sld C hX hbl hbA dL_law_533 ?_
                          refine j_aload_n C dL_law_534 rfl ?_
                          refine j_iload_n C dL_law_535 rfl ?_
                          refine j_iconst C (v := (2 : Int32)) dL_law_536 (by decide) ?_
                          refine j_iadd C dL_law_537 ?_
                          refine j_sld C hX hbl hbA dL_law_538 ?_
                          refine j_aload_n C dL_law_539 rfl ?_
                          refine j_iload_n C dL_law_540 rfl ?_
                          refine j_iconst C (v := (3 : Int32)) dL_law_541 (by decide) ?_
                          refine j_iadd C dL_law_542 ?_
                          refine j_sld C hX hbl hbA dL_law_543 ?_
                          refine j_callVI C (As := [.int ((xs ((v3 + (1 : Int32))).toNatClampNeg)), .int ((xs ((v3 + (2 : Int32))).toNatClampNeg)), .int ((xs ((v3 + (3 : Int32))).toNatClampNeg))]) dL_law_544 (CX11_meet l M hD v2 h2 (xs ((v3 + (1 : Int32))).toNatClampNeg) (xs ((v3 + (2 : Int32))).toNatClampNeg) (xs ((v3 + (3 : Int32))).toNatClampNeg) s_525) vv_RL_56 h2 (by decide) rfl rfl ⟨rfl, rfl⟩ (by decide) (Nat.le_of_ble_eq_true rfl) hz (fun r_544 s_544 => ?_)
                          refine j_icmp_eq C (tgt := 1370) dL_law_547 (by decide) ?_ ?_
                          · exact H1370 v3 s_544
                          · refine j_iconst C (v := (0 : Int32)) dL_law_550 (by decide) ?_
                            exact j_lret C hz hA1 dL_law_551
                        · refine j_cases (fun hq33_10 => ?_) (fun hq33_10 => ?_)
                          · refine j_tabIn C dL_law_33 (tgt := 552) hq33_10 (by decide) (by decide) rfl (by decide) ?_
                            refine j_aload_n C dL_law_552 rfl ?_
                            refine j_aload_n C dL_law_553 rfl ?_
                            refine j_iload_n C dL_law_554 rfl ?_
                            refine j_iconst C (v := (1 : Int32)) dL_law_555 (by decide) ?_
                            refine j_iadd C dL_law_556 ?_
                            refine j_sld C hX hbl hbA dL_law_557 ?_
                            refine j_aload_n C dL_law_558 rfl ?_
                            refine j_iload_n C dL_law_559 rfl ?_
                            refine j_iconst C (v := (2 : Int32)) dL_law_560 (by decide) ?_
                            refine j_iadd C dL_law_561 ?_
                            refine j_sld C hX hbl hbA dL_law_562 ?_
                            refine j_callVI C (As := [.int ((xs ((v3 + (1 : Int32))).toNatClampNeg)), .int ((xs ((v3 + (2 : Int32))).toNatClampNeg))]) dL_law_563 (CX10_late l M hD v1 h1 (xs ((v3 + (1 : Int32))).toNatClampNeg) (xs ((v3 + (2 : Int32))).toNatClampNeg) σ) vv_RL_57 h1 (by decide) rfl rfl ⟨rfl, rfl⟩ (by decide) (Nat.le_of_ble_eq_true rfl) hz (fun r_563 s_563 => ?_)
                            refine j_aload_n C dL_law_566 rfl ?_
                            refine j_aload_n C dL_law_567 rfl ?_
                            refine j_iload_n C dL_law_568 rfl ?_
                            refine j_iconst C (v := (1 : Int32)) dL_law_569 (by decide) ?_
                            refine j_iadd C dL_law_570 ?_
                            refine j_sld C hX hbl hbA dL_law_571 ?_
                            refine j_aload_n C dL_law_572 rfl ?_
                            refine j_iload_n C dL_law_573 rfl ?_
                            refine j_iconst C (v := (2 : Int32)) dL_law_574 (by decide) ?_
                            refine j_iadd C dL_law_575 ?_
                            refine j_sld C hX hbl hbA dL_law_576 ?_
                            refine j_callVI C (As := [.int ((xs ((v3 + (1 : Int32))).toNatClampNeg)), .int ((xs ((v3 + (2 : Int32))).toNatClampNeg))]) dL_law_577 (CX11_late l M hD v2 h2 (xs ((v3 + (1 : Int32))).toNatClampNeg) (xs ((v3 + (2 : Int32))).toNatClampNeg) s_563) vv_RL_60 h2 (by decide) rfl rfl ⟨rfl, rfl⟩ (by decide) (Nat.le_of_ble_eq_true rfl) hz (fun r_577 s_577 => ?_)
                            refine j_icmp_eq C (tgt := 1370) dL_law_580 (by decide) ?_ ?_
                            · exact H1370 v3 s_577
                            · refine j_iconst C (v := (0 : Int32)) dL_law_583 (by decide) ?_
                              exact j_lret C hz hA1 dL_law_584
                          · refine j_cases (fun hq33_11 => ?_) (fun hq33_11 => ?_)
                            · refine j_tabIn C dL_law_33 (tgt := 585) hq33_11 (by decide) (by decide) rfl (by decide) ?_
                              refine j_aload_n C dL_law_585 rfl ?_
                              refine j_aload_n C dL_law_586 rfl ?_
                              refine j_iload_n C dL_law_587 rfl ?_
                              refine j_iconst C (v := (1 : Int32)) dL_law_588 (by decide) ?_
                              refine j_iadd C dL_law_589 ?_
                              refine j_sld C hX hbl hbA dL_law_590 ?_
                              refine j_aload_n C dL_law_591 rfl ?_
                              refine j_iload_n C dL_law_592 rfl ?_
                              refine j_iconst C (v := (2 : Int32)) dL_law_593 (by decide) ?_
                              refine j_iadd C dL_law_594 ?_
                              refine j_sld C hX hbl hbA dL_law_595 ?_
                              refine j_aload_n C dL_law_596 rfl ?_
                              refine j_iload_n C dL_law_597 rfl ?_
                              refine j_iconst C (v := (3 : Int32)) dL_law_598 (by decide) ?_
                              refine j_iadd C dL_law_599 ?_
                              refine j_sld C hX hbl hbA dL_law_600 ?_
                              refine j_callVI C (As := [.int ((xs ((v3 + (1 : Int32))).toNatClampNeg)), .int ((xs ((v3 + (2 : Int32))).toNatClampNeg)), .int ((xs ((v3 + (3 : Int32))).toNatClampNeg))]) dL_law_601 (CX10_wait l M hD v1 h1 (xs ((v3 + (1 : Int32))).toNatClampNeg) (xs ((v3 + (2 : Int32))).toNatClampNeg) (xs ((v3 + (3 : Int32))).toNatClampNeg) σ) vv_RL_61 h1 (by decide) rfl rfl ⟨rfl, rfl⟩ (by decide) (Nat.le_of_ble_eq_true rfl) hz (fun r_601 s_601 => ?_)
                              refine j_aload_n C dL_law_604 rfl ?_
                              refine j_aload_n C dL_law_605 rfl ?_
                              refine j_iload_n C dL_law_606 rfl ?_
                              refine j_iconst C (v := (1 : Int32)) dL_law_607 (by decide) ?_
                              refine j_iadd C dL_law_608 ?_
                              refine j_sld C hX hbl hbA dL_law_609 ?_
                              refine j_aload_n C dL_law_610 rfl ?_
                              refine j_iload_n C dL_law_611 rfl ?_
                              refine j_iconst C (v := (2 : Int32)) dL_law_612 (by decide) ?_
                              refine j_iadd C dL_law_613 ?_
                              refine j_sld C hX hbl hbA dL_law_614 ?_
                              refine j_aload_n C dL_law_615 rfl ?_
                              refine j_iload_n C dL_law_616 rfl ?_
                              refine j_iconst C (v := (3 : Int32)) dL_law_617 (by decide) ?_
                              refine j_iadd C dL_law_618 ?_
                              refine j_sld C hX hbl hbA dL_law_619 ?_
                              refine j_callVI C (As := [.int ((xs ((v3 + (1 : Int32))).toNatClampNeg)), .int ((xs ((v3 + (2 : Int32))).toNatClampNeg)), .int ((xs ((v3 + (3 : Int32))).toNatClampNeg))]) dL_law_620 (CX11_wait l M hD v2 h2 (xs ((v3 + (1 : Int32))).toNatClampNeg) (xs ((v3 + (2 : Int32))).toNatClampNeg) (xs ((v3 + (3 : Int32))).toNatClampNeg) s_601) vv_RL_64 h2 (by decide) rfl rfl ⟨rfl, rfl⟩ (by decide) (Nat.le_of_ble_eq_true rfl) hz (fun r_620 s_620 => ?_)
                              refine j_icmp_eq C (tgt := 1370) dL_law_623 (by decide) ?_ ?_
                              · exact H1370 v3 s_620
                              · refine j_iconst C (v := (0 : Int32)) dL_law_626 (by decide) ?_
                                exact j_lret C hz hA1 dL_law_627
                            · refine j_cases (fun hq33_12 => ?_) (fun hq33_12 => ?_)
                              · refine j_tabIn C dL_law_33 (tgt := 628) hq33_12 (by decide) (by decide) rfl (by decide) ?_
                                refine j_aload_n C dL_law_628 rfl ?_
                                refine j_aload_n C dL_law_629 rfl ?_
                                refine j_iload_n C dL_law_630 rfl ?_
                                refine j_iconst C (v := (1 : Int32)) dL_law_631 (by decide) ?_
                                refine j_iadd C dL_law_632 ?_
                                refine j_sld C hX hbl hbA dL_law_633 ?_
                                refine j_aload_n C dL_law_634 rfl ?_
                                refine j_iload_n C dL_law_635 rfl ?_
                                refine j_iconst C (v := (2 : Int32)) dL_law_636 (by decide) ?_
                                refine j_iadd C dL_law_637 ?_
                                refine j_sld C hX hbl hbA dL_law_638 ?_
                                refine j_callVI C (As := [.int ((xs ((v3 + (1 : Int32))).toNatClampNeg)), .int ((xs ((v3 + (2 : Int32))).toNatClampNeg))]) dL_law_639 (CX10_run l M hD v1 h1 (xs ((v3 + (1 : Int32))).toNatClampNeg) (xs ((v3 + (2 : Int32))).toNatClampNeg) σ) vv_RL_65 h1 (by decide) rfl rfl ⟨rfl, rfl⟩ (by decide) (Nat.le_of_ble_eq_true rfl) hz (fun r_639 s_639 => ?_)
                                refine j_aload_n C dL_law_642 rfl ?_
                                refine j_aload_n C dL_law_643 rfl ?_
                                refine j_iload_n C dL_law_644 rfl ?_
                                refine j_iconst C (v := (1 : Int32)) dL_law_645 (by decide) ?_
                                refine j_iadd C dL_law_646 ?_
                                refine j_sld C hX hbl hbA dL_law_647 ?_
                                refine j_aload_n C dL_law_648 rfl ?_
                                refine j_iload_n C dL_law_649 rfl ?_
                                refine j_iconst C (v := (2 : Int32)) dL_law_650 (by decide) ?_
                                refine j_iadd C dL_law_651 ?_
                                refine j_sld C hX hbl hbA dL_law_652 ?_
                                refine j_callVI C (As := [.int ((xs ((v3 + (1 : Int32))).toNatClampNeg)), .int ((xs ((v3 + (2 : Int32))).toNatClampNeg))]) dL_law_653 (CX11_run l M hD v2 h2 (xs ((v3 + (1 : Int32))).toNatClampNeg) (xs ((v3 + (2 : Int32))).toNatClampNeg) s_639) vv_RL_68 h2 (by decide) rfl rfl ⟨rfl, rfl⟩ (by decide) (Nat.le_of_ble_eq_true rfl) hz (fun r_653 s_653 => ?_)
                                refine j_icmp_eq C (tgt := 1370) dL_law_656 (by decide) ?_ ?_
                                · exact H1370 v3 s_653
                                · refine j_iconst C (v := (0 : Int32)) dL_law_659 (by decide) ?_
                                  exact j_lret C hz hA1 dL_law_660
                              · refine j_cases (fun hq33_13 => ?_) (fun hq33_13 => ?_)
                                · refine j_tabIn C dL_law_33 (tgt := 661) hq33_13 (by decide) (by decide) rfl (by decide) ?_
                                  refine j_aload_n C dL_law_661 rfl ?_
                                  refine j_aload_n C dL_law_662 rfl ?_
                                  refine j_iload_n C dL_law_663 rfl ?_
                                  refine j_iconst C (v := (1 : Int32)) dL_law_664 (by decide) ?_
                                  refine j_iadd C dL_law_665 ?_
                                  refine j_sld C hX hbl hbA dL_law_666 ?_
                                  refine j_callVI C (As := [.int ((xs ((v3 + (1 : Int32))).toNatClampNeg))]) dL_law_667 (CX10_annul l M hD v1 h1 (xs ((v3 + (1 : Int32))).toNatClampNeg) σ) vv_RL_69 h1 (by decide) rfl rfl ⟨rfl, rfl⟩ (by decide) (Nat.le_of_ble_eq_true rfl) hz (fun r_667 s_667 => ?_)
                                  refine j_aload_n C dL_law_670 rfl ?_
                                  refine j_aload_n C dL_law_671 rfl ?_
                                  refine j_iload_n C dL_law_672 rfl ?_
                                  refine j_iconst C (v := (1 : Int32)) dL_law_673 (by decide) ?_
                                  refine j_iadd C dL_law_674 ?_
                                  refine j_sld C hX hbl hbA dL_law_675 ?_
                                  refine j_callVI C (As := [.int ((xs ((v3 + (1 : Int32))).toNatClampNeg))]) dL_law_676 (CX11_annul l M hD v2 h2 (xs ((v3 + (1 : Int32))).toNatClampNeg) s_667) vv_RL_72 h2 (by decide) rfl rfl ⟨rfl, rfl⟩ (by decide) (Nat.le_of_ble_eq_true rfl) hz (fun r_676 s_676 => ?_)
                                  refine j_icmp_eq C (tgt := 1370) dL_law_679 (by decide) ?_ ?_
                                  · exact H1370 v3 s_676
                                  · refine j_iconst C (v := (0 : Int32)) dL_law_682 (by decide) ?_
                                    exact j_lret C hz hA1 dL_law_683
                                · refine j_cases (fun hq33_14 => ?_) (fun hq33_14 => ?_)
                                  · refine j_tabIn C dL_law_33 (tgt := 684) hq33_14 (by decide) (by decide) rfl (by decide) ?_
                                    refine j_aload_n C dL_law_684 rfl ?_
                                    refine j_aload_n C dL_law_685 rfl ?_
                                    refine j_iload_n C dL_law_686 rfl ?_
                                    refine j_iconst C (v := (1 : Int32)) dL_law_687 (by decide) ?_
                                    refine j_iadd C dL_law_688 ?_
                                    refine j_sld C hX hbl hbA dL_law_689 ?_
                                    refine j_aload_n C dL_law_690 rfl ?_
                                    refine j_iload_n C dL_law_691 rfl ?_
                                    refine j_iconst C (v := (2 : Int32)) dL_law_692 (by decide) ?_
                                    refine j_iadd C dL_law_693 ?_
                                    refine j_sld C hX hbl hbA dL_law_694 ?_
                                    refine j_aload_n C dL_law_695 rfl ?_
                                    refine j_iload_n C dL_law_696 rfl ?_
                                    refine j_iconst C (v := (3 : Int32)) dL_law_697 (by decide) ?_
                                    refine j_iadd C dL_law_698 ?_
                                    refine j_sld C hX hbl hbA dL_law_699 ?_
                                    refine j_callVI C (As := [.int ((xs ((v3 + (1 : Int32))).toNatClampNeg)), .int ((xs ((v3 + (2 : Int32))).toNatClampNeg)), .int ((xs ((v3 + (3 : Int32))).toNatClampNeg))]) dL_law_700 (CX10_hand l M hD v1 h1 (xs ((v3 + (1 : Int32))).toNatClampNeg) (xs ((v3 + (2 : Int32))).toNatClampNeg) (xs ((v3 + (3 : Int32))).toNatClampNeg) σ) vv_RL_73 h1 (by decide) rfl rfl ⟨rfl, rfl⟩ (by decide) (Nat.le_of_ble_eq_true rfl) hz (fun r_700 s_700 => ?_)
                                    refine j_aload_n C dL_law_703 rfl ?_
                                    refine j_aload_n C dL_law_704 rfl ?_
                                    refine j_iload_n C dL_law_705 rfl ?_
                                    refine j_iconst C (v := (1 : Int32)) dL_law_706 (by decide) ?_
                                    refine j_iadd C dL_law_707 ?_
                                    refine j_sld C hX hbl hbA dL_law_708 ?_
                                    refine j_aload_n C dL_law_709 rfl ?_
                                    refine j_iload_n C dL_law_710 rfl ?_
                                    refine j_iconst C (v := (2 : Int32)) dL_law_711 (by decide) ?_
                                    refine j_iadd C dL_law_712 ?_
                                    refine j_sld C hX hbl hbA dL_law_713 ?_
                                    refine j_aload_n C dL_law_714 rfl ?_
                                    refine j_iload_n C dL_law_715 rfl ?_
                                    refine j_iconst C (v := (3 : Int32)) dL_law_716 (by decide) ?_
                                    refine j_iadd C dL_law_717 ?_
                                    refine j_sld C hX hbl hbA dL_law_718 ?_
                                    refine j_callVI C (As := [.int ((xs ((v3 + (1 : Int32))).toNatClampNeg)), .int ((xs ((v3 + (2 : Int32))).toNatClampNeg)), .int ((xs ((v3 + (3 : Int32))).toNatClampNeg))]) dL_law_719 (CX11_hand l M hD v2 h2 (xs ((v3 + (1 : Int32))).toNatClampNeg) (xs ((v3 + (2 : Int32))).toNatClampNeg) (xs ((v3 + (3 : Int32))).toNatClampNeg) s_700) vv_RL_76 h2 (by decide) rfl rfl ⟨rfl, rfl⟩ (by decide) (Nat.le_of_ble_eq_true rfl) hz (fun r_719 s_719 => ?_)
                                    refine j_icmp_eq C (tgt := 1370) dL_law_722 (by decide) ?_ ?_
                                    · exact H1370 v3 s_719
                                    · refine j_iconst C (v := (0 : Int32)) dL_law_725 (by decide) ?_
                                      exact j_lret C hz hA1 dL_law_726
                                  · refine j_cases (fun hq33_15 => ?_) (fun hq33_15 => ?_)
                                    · refine j_tabIn C dL_law_33 (tgt := 727) hq33_15 (by decide) (by decide) rfl (by decide) ?_
                                      refine j_aload_n C dL_law_727 rfl ?_
                                      refine j_aload_n C dL_law_728 rfl ?_
                                      refine j_iload_n C dL_law_729 rfl ?_
                                      refine j_iconst C (v := (1 : Int32)) dL_law_730 (by decide) ?_
                                      refine j_iadd C dL_law_731 ?_
                                      refine j_sld C hX hbl hbA dL_law_732 ?_
                                      refine j_aload_n C dL_law_733 rfl ?_
                                      refine j_iload_n C dL_law_734 rfl ?_
                                      refine j_iconst C (v := (2 : Int32)) dL_law_735 (by decide) ?_
                                      refine j_iadd C dL_law_736 ?_
                                      refine j_sld C hX hbl hbA dL_law_737 ?_
                                      refine j_aload_n C dL_law_738 rfl ?_
                                      refine j_iload_n C dL_law_739 rfl ?_
                                      refine j_iconst C (v := (3 : Int32)) dL_law_740 (by decide) ?_
                                      refine j_iadd C dL_law_741 ?_
                                      refine j_sld C hX hbl hbA dL_law_742 ?_
                                      refine j_callVI C (As := [.int ((xs ((v3 + (1 : Int32))).toNatClampNeg)), .int ((xs ((v3 + (2 : Int32))).toNatClampNeg)), .int ((xs ((v3 + (3 : Int32))).toNatClampNeg))]) dL_law_743 (CX10_holds l M hD v1 h1 (xs ((v3 + (1 : Int32))).toNatClampNeg) (xs ((v3 + (2 : Int32))).toNatClampNeg) (xs ((v3 + (3 : Int32))).toNatClampNeg) σ) vv_RL_77 h1 (by decide) rfl rfl ⟨rfl, rfl⟩ (by decide) (Nat.le_of_ble_eq_true rfl) hz (fun r_743 s_743 => ?_)
                                      refine j_aload_n C dL_law_746 rfl ?_
                                      refine j_aload_n C dL_law_747 rfl ?_
                                      refine j_iload_n C dL_law_748 rfl ?_
                                      refine j_iconst C (v := (1 : Int32)) dL_law_749 (by decide) ?_
                                      refine j_iadd C dL_law_750 ?_
                                      refine j_sld C hX hbl hbA dL_law_751 ?_
                                      refine j_aload_n C dL_law_752 rfl ?_
                                      refine j_iload_n C dL_law_753 rfl ?_
                                      refine j_iconst C (v := (2 : Int32)) dL_law_754 (by decide) ?_
                                      refine j_iadd C dL_law_755 ?_
                                      refine j_sld C hX hbl hbA dL_law_756 ?_
                                      refine j_aload_n C dL_law_757 rfl ?_
                                      refine j_iload_n C dL_law_758 rfl ?_
                                      refine j_iconst C (v := (3 : Int32)) dL_law_759 (by decide) ?_
                                      refine j_iadd C dL_law_760 ?_
                                      refine j_sld C hX hbl hbA dL_law_761 ?_
                                      refine j_callVI C (As := [.int ((xs ((v3 + (1 : Int32))).toNatClampNeg)), .int ((xs ((v3 + (2 : Int32))).toNatClampNeg)), .int ((xs ((v3 + (3 : Int32))).toNatClampNeg))]) dL_law_762 (CX11_holds l M hD v2 h2 (xs ((v3 + (1 : Int32))).toNatClampNeg) (xs ((v3 + (2 : Int32))).toNatClampNeg) (xs ((v3 + (3 : Int32))).toNatClampNeg) s_743) vv_RL_80 h2 (by decide) rfl rfl ⟨rfl, rfl⟩ (by decide) (Nat.le_of_ble_eq_true rfl) hz (fun r_762 s_762 => ?_)
                                      refine j_icmp_eq C (tgt := 1370) dL_law_765 (by decide) ?_ ?_
                                      · exact H1370 v3 s_762
                                      · refine j_iconst C (v := (0 : Int32)) dL_law_768 (by decide) ?_
                                        exact j_lret C hz hA1 dL_law_769
                                    · refine j_cases (fun hq33_16 => ?_) (fun hq33_16 => ?_)
                                      · refine j_tabIn C dL_law_33 (tgt := 770) hq33_16 (by decide) (by decide) rfl (by decide) ?_
                                        refine j_aload_n C dL_law_770 rfl ?_
                                        refine j_aload_n C dL_law_771 rfl ?_
                                        refine j_iload_n C dL_law_772 rfl ?_
                                        refine j_iconst C (v := (1 : Int32)) dL_law_773 (by decide) ?_
                                        refine j_iadd C dL_law_774 ?_
                                        refine j_sld C hX hbl hbA dL_law_775 ?_
                                        refine j_aload_n C dL_law_776 rfl ?_
                                        refine j_iload_n C dL_law_777 rfl ?_
                                        refine j_iconst C (v := (2 : Int32)) dL_law_778 (by decide) ?_
                                        refine j_iadd C dL_law_779 ?_
                                        refine j_sld C hX hbl hbA dL_law_780 ?_
                                        refine j_callVI C (As := [.int ((xs ((v3 + (1 : Int32))).toNatClampNeg)), .int ((xs ((v3 + (2 : Int32))).toNatClampNeg))]) dL_law_781 (CX10_order l M hD v1 h1 (xs ((v3 + (1 : Int32))).toNatClampNeg) (xs ((v3 + (2 : Int32))).toNatClampNeg) σ) vv_RL_81 h1 (by decide) rfl rfl ⟨rfl, rfl⟩ (by decide) (Nat.le_of_ble_eq_true rfl) hz (fun r_781 s_781 => ?_)
                                        refine j_aload_n C dL_law_784 rfl ?_
                                        refine j_aload_n C dL_law_785 rfl ?_
                                        refine j_iload_n C dL_law_786 rfl ?_
                                        refine j_iconst C (v := (1 : Int32)) dL_law_787 (by decide) ?_
                                        refine j_iadd C dL_law_788 ?_
                                        refine j_sld C hX hbl hbA dL_law_789 ?_
                                        refine j_aload_n C dL_law_790 rfl ?_
                                        refine j_iload_n C dL_law_791 rfl ?_
                                        refine j_iconst C (v := (2 : Int32)) dL_law_792 (by decide) ?_
                                        refine j_iadd C dL_law_793 ?_
                                        refine j_sld C hX hbl hbA dL_law_794 ?_
                                        refine j_callVI C (As := [.int ((xs ((v3 + (1 : Int32))).toNatClampNeg)), .int ((xs ((v3 + (2 : Int32))).toNatClampNeg))]) dL_law_795 (CX11_order l M hD v2 h2 (xs ((v3 + (1 : Int32))).toNatClampNeg) (xs ((v3 + (2 : Int32))).toNatClampNeg) s_781) vv_RL_84 h2 (by decide) rfl rfl ⟨rfl, rfl⟩ (by decide) (Nat.le_of_ble_eq_true rfl) hz (fun r_795 s_795 => ?_)
                                        refine j_icmp_eq C (tgt := 1370) dL_law_798 (by decide) ?_ ?_
                                        · exact H1370 v3 s_795
                                        · refine j_iconst C (v := (0 : Int32)) dL_law_801 (by decide) ?_
                                          exact j_lret C hz hA1 dL_law_802
                                      · refine j_cases (fun hq33_17 => ?_) (fun hq33_17 => ?_)
                                        · refine j_tabIn C dL_law_33 (tgt := 803) hq33_17 (by decide) (by decide) rfl (by decide) ?_
                                          refine j_aload_n C dL_law_803 rfl ?_
                                          refine j_aload_n C dL_law_804 rfl ?_
                                          refine j_iload_n C dL_law_805 rfl ?_
                                          refine j_iconst C (v := (1 : Int32)) dL_law_806 (by decide) ?_
                                          refine j_iadd C dL_law_807 ?_
                                          refine j_sld C hX hbl hbA dL_law_808 ?_
                                          refine j_aload_n C dL_law_809 rfl ?_
                                          refine j_iload_n C dL_law_810 rfl ?_
                                          refine j_iconst C (v := (2 : Int32)) dL_law_811 (by decide) ?_
                                          refine j_iadd C dL_law_812 ?_
                                          refine j_sld C hX hbl hbA dL_law_813 ?_
                                          refine j_callVI C (As := [.int ((xs ((v3 + (1 : Int32))).toNatClampNeg)), .int ((xs ((v3 + (2 : Int32))).toNatClampNeg))]) dL_law_814 (CX10_force l M hD v1 h1 (xs ((v3 + (1 : Int32))).toNatClampNeg) (xs ((v3 + (2 : Int32))).toNatClampNeg) σ) vv_RL_85 h1 (by decide) rfl rfl ⟨rfl, rfl⟩ (by decide) (Nat.le_of_ble_eq_true rfl) hz (fun r_814 s_814 => ?_)
                                          refine j_aload_n C dL_law_817 rfl ?_
                                          refine j_aload_n C dL_law_818 rfl ?_
                                          refine j_iload_n C dL_law_819 rfl ?_
                                          refine j_iconst C (v := (1 : Int32)) dL_law_820 (by decide) ?_
                                          refine j_iadd C dL_law_821 ?_
                                          refine j_sld C hX hbl hbA dL_law_822 ?_
                                          refine j_aload_n C dL_law_823 rfl ?_
                                          refine j_iload_n C dL_law_824 rfl ?_
                                          refine j_iconst C (v := (2 : Int32)) dL_law_825 (by decide) ?_
                                          refine j_iadd C dL_law_826 ?_
                                          refine j_sld C hX hbl hbA dL_law_827 ?_
                                          refine j_callVI C (As := [.int ((xs ((v3 + (1 : Int32))).toNatClampNeg)), .int ((xs ((v3 + (2 : Int32))).toNatClampNeg))]) dL_law_828 (CX11_force l M hD v2 h2 (xs ((v3 + (1 : Int32))).toNatClampNeg) (xs ((v3 + (2 : Int32))).toNatClampNeg) s_814) vv_RL_88 h2 (by decide) rfl rfl ⟨rfl, rfl⟩ (by decide) (Nat.le_of_ble_eq_true rfl) hz (fun r_828 s_828 => ?_)
                                          refine j_icmp_eq C (tgt := 1370) dL_law_831 (by decide) ?_ ?_
                                          · exact H1370 v3 s_828
                                          · refine j_iconst C (v := (0 : Int32)) dL_law_834 (by decide) ?_
                                            exact j_lret C hz hA1 dL_law_835
                                        · refine j_cases (fun hq33_18 => ?_) (fun hq33_18 => ?_)
                                          · refine j_tabIn C dL_law_33 (tgt := 836) hq33_18 (by decide) (by decide) rfl (by decide) ?_
                                            refine j_aload_n C dL_law_836 rfl ?_
                                            refine j_aload_n C dL_law_837 rfl ?_
                                            refine j_iload_n C dL_law_838 rfl ?_
                                            refine j_iconst C (v := (1 : Int32)) dL_law_839 (by decide) ?_
                                            refine j_iadd C dL_law_840 ?_
                                            refine j_sld C hX hbl hbA dL_law_841 ?_
                                            refine j_aload_n C dL_law_842 rfl ?_
                                            refine j_iload_n C dL_law_843 rfl ?_
                                            refine j_iconst C (v := (2 : Int32)) dL_law_844 (by decide) ?_
                                            refine j_iadd C dL_law_845 ?_
                                            refine j_sld C hX hbl hbA dL_law_846 ?_
                                            refine j_callVI C (As := [.int ((xs ((v3 + (1 : Int32))).toNatClampNeg)), .int ((xs ((v3 + (2 : Int32))).toNatClampNeg))]) dL_law_847 (CX10_where l M hD v1 h1 (xs ((v3 + (1 : Int32))).toNatClampNeg) (xs ((v3 + (2 : Int32))).toNatClampNeg) σ) vv_RL_89 h1 (by decide) rfl rfl ⟨rfl, rfl⟩ (by decide) (Nat.le_of_ble_eq_true rfl) hz (fun r_847 s_847 => ?_)
                                            refine j_aload_n C dL_law_850 rfl ?_
                                            refine j_aload_n C dL_law_851 rfl ?_
                                            refine j_iload_n C dL_law_852 rfl ?_
                                            refine j_iconst C (v := (1 : Int32)) dL_law_853 (by decide) ?_
                                            refine j_iadd C dL_law_854 ?_
                                            refine j_sld C hX hbl hbA dL_law_855 ?_
                                            refine j_aload_n C dL_law_856 rfl ?_
                                            refine j_iload_n C dL_law_857 rfl ?_
                                            refine j_iconst C (v := (2 : Int32)) dL_law_858 (by decide) ?_
                                            refine j_iadd C dL_law_859 ?_
                                            refine j_sld C hX hbl hbA dL_law_860 ?_
                                            refine j_callVI C (As := [.int ((xs ((v3 + (1 : Int32))).toNatClampNeg)), .int ((xs ((v3 + (2 : Int32))).toNatClampNeg))]) dL_law_861 (CX11_where l M hD v2 h2 (xs ((v3 + (1 : Int32))).toNatClampNeg) (xs ((v3 + (2 : Int32))).toNatClampNeg) s_847) vv_RL_92 h2 (by decide) rfl rfl ⟨rfl, rfl⟩ (by decide) (Nat.le_of_ble_eq_true rfl) hz (fun r_861 s_861 => ?_)
                                            refine j_icmp_eq C (tgt := 1370) dL_law_864 (by decide) ?_ ?_
                                            · exact H1370 v3 s_861
                                            · refine j_iconst C (v := (0 : Int32)) dL_law_867 (by decide) ?_
                                              exact j_lret C hz hA1 dL_law_868
                                          · refine j_cases (fun hq33_19 => ?_) (fun hq33_19 => ?_)
                                            · refine j_tabIn C dL_law_33 (tgt := 869) hq33_19 (by decide) (by decide) rfl (by decide) ?_
                                              refine j_aload_n C dL_law_869 rfl ?_
                                              refine j_aload_n C dL_law_870 rfl ?_
                                              refine j_iload_n C dL_law_871 rfl ?_
                                              refine j_iconst C (v := (1 : Int32)) dL_law_872 (by decide) ?_
                                              refine j_iadd C dL_law_873 ?_
                                              refine j_sld C hX hbl hbA dL_law_874 ?_
                                              refine j_aload_n C dL_law_875 rfl ?_
                                              refine j_iload_n C dL_law_876 rfl ?_
                                              refine j_iconst C (v := (2 : Int32)) dL_law_877 (by decide) ?_
                                              refine j_iadd C dL_law_878 ?_
                                              refine j_sld C hX hbl hbA dL_law_879 ?_
                                              refine j_callVI C (As := [.int ((xs ((v3 + (1 : Int32))).toNatClampNeg)), .int ((xs ((v3 + (2 : Int32))).toNatClampNeg))]) dL_law_880 (CX10_came l M hD v1 h1 (xs ((v3 + (1 : Int32))).toNatClampNeg) (xs ((v3 + (2 : Int32))).toNatClampNeg) σ) vv_RL_93 h1 (by decide) rfl rfl ⟨rfl, rfl⟩ (by decide) (Nat.le_of_ble_eq_true rfl) hz (fun r_880 s_880 => ?_)
                                              refine j_aload_n C dL_law_883 rfl ?_
                                              refine j_aload_n C dL_law_884 rfl ?_
                                              refine j_iload_n C dL_law_885 rfl ?_
                                              refine j_iconst C (v := (1 : Int32)) dL_law_886 (by decide) ?_
                                              refine j_iadd C dL_law_887 ?_
                                              refine j_sld C hX hbl hbA dL_law_888 ?_
                                              refine j_aload_n C dL_law_889 rfl ?_
                                              refine j_iload_n C dL_law_890 rfl ?_
                                              refine j_iconst C (v := (2 : Int32)) dL_law_891 (by decide) ?_
                                              refine j_iadd C dL_law_892 ?_
                                              refine j_sld C hX hbl hbA dL_law_893 ?_
                                              refine j_callVI C (As := [.int ((xs ((v3 + (1 : Int32))).toNatClampNeg)), .int ((xs ((v3 + (2 : Int32))).toNatClampNeg))]) dL_law_894 (CX11_came l M hD v2 h2 (xs ((v3 + (1 : Int32))).toNatClampNeg) (xs ((v3 + (2 : Int32))).toNatClampNeg) s_880) vv_RL_96 h2 (by decide) rfl rfl ⟨rfl, rfl⟩ (by decide) (Nat.le_of_ble_eq_true rfl) hz (fun r_894 s_894 => ?_)
                                              refine j_icmp_eq C (tgt := 1370) dL_law_897 (by decide) ?_ ?_
                                              · exact H1370 v3 s_894
                                              · refine j_iconst C (v := (0 : Int32)) dL_law_900 (by decide) ?_
                                                exact j_lret C hz hA1 dL_law_901
                                            · refine j_cases (fun hq33_20 => ?_) (fun hq33_20 => ?_)
                                              · refine j_tabIn C dL_law_33 (tgt := 902) hq33_20 (by decide) (by decide) rfl (by decide) ?_
                                                refine j_aload_n C dL_law_902 rfl ?_
                                                refine j_aload_n C dL_law_903 rfl ?_
                                                refine j_iload_n C dL_law_904 rfl ?_
                                                refine j_iconst C (v := (1 : Int32)) dL_law_905 (by decide) ?_
                                                refine j_iadd C dL_law_906 ?_
                                                refine j_sld C hX hbl hbA dL_law_907 ?_
                                                refine j_aload_n C dL_law_908 rfl ?_
                                                refine j_iload_n C dL_law_909 rfl ?_
                                                refine j_iconst C (v := (2 : Int32)) dL_law_910 (by decide) ?_
                                                refine j_iadd C dL_law_911 ?_
                                                refine j_sld C hX hbl hbA dL_law_912 ?_
                                                refine j_callVI C (As := [.int ((xs ((v3 + (1 : Int32))).toNatClampNeg)), .int ((xs ((v3 + (2 : Int32))).toNatClampNeg))]) dL_law_913 (CX10_left l M hD v1 h1 (xs ((v3 + (1 : Int32))).toNatClampNeg) (xs ((v3 + (2 : Int32))).toNatClampNeg) σ) vv_RL_97 h1 (by decide) rfl rfl ⟨rfl, rfl⟩ (by decide) (Nat.le_of_ble_eq_true rfl) hz (fun r_913 s_913 => ?_)
                                                refine j_aload_n C dL_law_916 rfl ?_
                                                refine j_aload_n C dL_law_917 rfl ?_
                                                refine j_iload_n C dL_law_918 rfl ?_
                                                refine j_iconst C (v := (1 : Int32)) dL_law_919 (by decide) ?_
                                                refine j_iadd C dL_law_920 ?_
                                                refine j_sld C hX hbl hbA dL_law_921 ?_
                                                refine j_aload_n C dL_law_922 rfl ?_
                                                refine j_iload_n C dL_law_923 rfl ?_
                                                refine j_iconst C (v := (2 : Int32)) dL_law_924 (by decide) ?_
                                                refine j_iadd C dL_law_925 ?_
                                                refine j_sld C hX hbl hbA dL_law_926 ?_
                                                refine j_callVI C (As := [.int ((xs ((v3 + (1 : Int32))).toNatClampNeg)), .int ((xs ((v3 + (2 : Int32))).toNatClampNeg))]) dL_law_927 (CX11_left l M hD v2 h2 (xs ((v3 + (1 : Int32))).toNatClampNeg) (xs ((v3 + (2 : Int32))).toNatClampNeg) s_913) vv_RL_100 h2 (by decide) rfl rfl ⟨rfl, rfl⟩ (by decide) (Nat.le_of_ble_eq_true rfl) hz (fun r_927 s_927 => ?_)
                                                refine j_icmp_eq C (tgt := 1370) dL_law_930 (by decide) ?_ ?_
                                                · exact H1370 v3 s_927
                                                · refine j_iconst C (v := (0 : Int32)) dL_law_933 (by decide) ?_
                                                  exact j_lret C hz hA1 dL_law_934
                                              · refine j_cases (fun hq33_21 => ?_) (fun hq33_21 => ?_)
                                                · refine j_tabIn C dL_law_33 (tgt := 935) hq33_21 (by decide) (by decide) rfl (by decide) ?_
                                                  refine j_aload_n C dL_law_935 rfl ?_
                                                  refine j_aload_n C dL_law_936 rfl ?_
                                                  refine j_iload_n C dL_law_937 rfl ?_
                                                  refine j_iconst C (v := (1 : Int32)) dL_law_938 (by decide) ?_
                                                  refine j_iadd C dL_law_939 ?_
                                                  refine j_sld C hX hbl hbA dL_law_940 ?_
                                                  refine j_aload_n C dL_law_941 rfl ?_
                                                  refine j_iload_n C dL_law_942 rfl ?_
                                                  refine j_iconst C (v := (2 : Int32)) dL_law_943 (by decide) ?_
                                                  refine j_iadd C dL_law_944 ?_
                                                  refine j_sld C hX hbl hbA dL_law_945 ?_
                                                  refine j_callVI C (As := [.int ((xs ((v3 + (1 : Int32))).toNatClampNeg)), .int ((xs ((v3 + (2 : Int32))).toNatClampNeg))]) dL_law_946 (CX10_why l M hD v1 h1 (xs ((v3 + (1 : Int32))).toNatClampNeg) (xs ((v3 + (2 : Int32))).toNatClampNeg) σ) vv_RL_101 h1 (by decide) rfl rfl ⟨rfl, rfl⟩ (by decide) (Nat.le_of_ble_eq_true rfl) hz (fun r_946 s_946 => ?_)
                                                  refine j_aload_n C dL_law_949 rfl ?_
                                                  refine j_aload_n C dL_law_950 rfl ?_
                                                  refine j_iload_n C dL_law_951 rfl ?_
                                                  refine j_iconst C (v := (1 : Int32)) dL_law_952 (by decide) ?_
                                                  refine j_iadd C dL_law_953 ?_
                                                  refine j_sld C hX hbl hbA dL_law_954 ?_
                                                  refine j_aload_n C dL_law_955 rfl ?_
                                                  refine j_iload_n C dL_law_956 rfl ?_
                                                  refine j_iconst C (v := (2 : Int32)) dL_law_957 (by decide) ?_
                                                  refine j_iadd C dL_law_958 ?_
                                                  refine j_sld C hX hbl hbA dL_law_959 ?_
                                                  refine j_callVI C (As := [.int ((xs ((v3 + (1 : Int32))).toNatClampNeg)), .int ((xs ((v3 + (2 : Int32))).toNatClampNeg))]) dL_law_960 (CX11_why l M hD v2 h2 (xs ((v3 + (1 : Int32))).toNatClampNeg) (xs ((v3 + (2 : Int32))).toNatClampNeg) s_946) vv_RL_104 h2 (by decide) rfl rfl ⟨rfl, rfl⟩ (by decide) (Nat.le_of_ble_eq_true rfl) hz (fun r_960 s_960 => ?_)
                                                  refine j_icmp_eq C (tgt := 1370) dL_law_963 (by decide) ?_ ?_
                                                  · exact H1370 v3 s_960
                                                  · refine j_iconst C (v := (0 : Int32)) dL_law_966 (by decide) ?_
                                                    exact j_lret C hz hA1 dL_law_967
                                                · refine j_cases (fun hq33_22 => ?_) (fun hq33_22 => ?_)
                                                  · refine j_tabIn C dL_law_33 (tgt := 968) hq33_22 (by decide) (by decide) rfl (by decide) ?_
                                                    refine j_aload_n C dL_law_968 rfl ?_
                                                    refine j_callVI C (As := []) dL_law_969 (CX10_heads l M hD v1 h1 σ) vv_RL_105 h1 (by decide) rfl rfl ⟨rfl, rfl⟩ (by decide) (Nat.le_of_ble_eq_true rfl) hz (fun r_969 s_969 => ?_)
                                                    refine j_aload_n C dL_law_972 rfl ?_
                                                    refine j_callVI C (As := []) dL_law_973 (CX11_heads l M hD v2 h2 s_969) vv_RL_109 h2 (by decide) rfl rfl ⟨rfl, rfl⟩ (by decide) (Nat.le_of_ble_eq_true rfl) hz (fun r_973 s_973 => ?_)
                                                    refine j_icmp_eq C (tgt := 1370) dL_law_976 (by decide) ?_ ?_
                                                    · exact H1370 v3 s_973
                                                    · refine j_iconst C (v := (0 : Int32)) dL_law_979 (by decide) ?_
                                                      exact j_lret C hz hA1 dL_law_980
                                                  · refine j_cases (fun hq33_23 => ?_) (fun hq33_23 => ?_)
                                                    · refine j_tabIn C dL_law_33 (tgt := 981) hq33_23 (by decide) (by decide) rfl (by decide) ?_
                                                      refine j_aload_n C dL_law_981 rfl ?_
                                                      refine j_aload_n C dL_law_982 rfl ?_
                                                      refine j_iload_n C dL_law_983 rfl ?_
                                                      refine j_iconst C (v := (1 : Int32)) dL_law_984 (by decide) ?_
                                                      refine j_iadd C dL_law_985 ?_
                                                      refine j_sld C hX hbl hbA dL_law_986 ?_
                                                      refine j_callVI C (As := [.int ((xs ((v3 + (1 : Int32))).toNatClampNeg))]) dL_law_987 (CX10_head l M hD v1 h1 (xs ((v3 + (1 : Int32))).toNatClampNeg) σ) vv_RL_110 h1 (by decide) rfl rfl ⟨rfl, rfl⟩ (by decide) (Nat.le_of_ble_eq_true rfl) hz (fun r_987 s_987 => ?_)
                                                      refine j_aload_n C dL_law_990 rfl ?_
                                                      refine j_aload_n C dL_law_991 rfl ?_
                                                      refine j_iload_n C dL_law_992 rfl ?_
                                                      refine j_iconst C (v := (1 : Int32)) dL_law_993 (by decide) ?_
                                                      refine j_iadd C dL_law_994 ?_
                                                      refine j_sld C hX hbl hbA dL_law_995 ?_
                                                      refine j_callVI C (As := [.int ((xs ((v3 + (1 : Int32))).toNatClampNeg))]) dL_law_996 (CX11_head l M hD v2 h2 (xs ((v3 + (1 : Int32))).toNatClampNeg) s_987) vv_RL_113 h2 (by decide) rfl rfl ⟨rfl, rfl⟩ (by decide) (Nat.le_of_ble_eq_true rfl) hz (fun r_996 s_996 => ?_)
                                                      refine j_icmp_eq C (tgt := 1370) dL_law_999 (by decide) ?_ ?_
                                                      · exact H1370 v3 s_996
                                                      · refine j_iconst C (v := (0 : Int32)) dL_law_1002 (by decide) ?_
                                                        exact j_lret C hz hA1 dL_law_1003
                                                    · refine j_cases (fun hq33_24 => ?_) (fun hq33_24 => ?_)
                                                      · refine j_tabIn C dL_law_33 (tgt := 1004) hq33_24 (by decide) (by decide) rfl (by decide) ?_
                                                        refine j_aload_n C dL_law_1004 rfl ?_
                                                        refine j_callVI C (As := []) dL_law_1005 (CX10_cause l M hD v1 h1 σ) vv_RL_114 h1 (by decide) rfl rfl ⟨rfl, rfl⟩ (by decide) (Nat.le_of_ble_eq_true rfl) hz (fun r_1005 s_1005 => ?_)
                                                        refine j_aload_n C dL_law_1008 rfl ?_
                                                        refine j_callVI C (As := []) dL_law_1009 (CX11_cause l M hD v2 h2 s_1005) vv_RL_117 h2 (by decide) rfl rfl ⟨rfl, rfl⟩ (by decide) (Nat.le_of_ble_eq_true rfl) hz (fun r_1009 s_1009 => ?_)
                                                        refine j_icmp_eq C (tgt := 1370) dL_law_1012 (by decide) ?_ ?_
                                                        · exact H1370 v3 s_1009
                                                        · refine j_iconst C (v := (0 : Int32)) dL_law_1015 (by decide) ?_
                                                          exact j_lret C hz hA1 dL_law_1016
                                                      · refine j_cases (fun hq33_25 => ?_) (fun hq33_25 => ?_)
                                                        · refine j_tabIn C dL_law_33 (tgt := 1017) hq33_25 (by decide) (by decide) rfl (by decide) ?_
                                                          refine j_aload_n C dL_law_1017 rfl ?_
                                                          refine j_callVI C (As := []) dL_law_1018 (CX10_fouls l M hD v1 h1 σ) vv_RL_118 h1 (by decide) rfl rfl ⟨rfl, rfl⟩ (by decide) (Nat.le_of_ble_eq_true rfl) hz (fun r_1018 s_1018 => ?_)
                                                          refine j_aload_n C dL_law_1021 rfl ?_
                                                          refine j_callVI C (As := []) dL_law_1022 (CX11_fouls l M hD v2 h2 s_1018) vv_RL_121 h2 (by decide) rfl rfl ⟨rfl, rfl⟩ (by decide) (Nat.le_of_ble_eq_true rfl) hz (fun r_1022 s_1022 => ?_)
                                                          refine j_icmp_eq C (tgt := 1370) dL_law_1025 (by decide) ?_ ?_
                                                          · exact H1370 v3 s_1022
                                                          · refine j_iconst C (v := (0 : Int32)) dL_law_1028 (by decide) ?_
                                                            exact j_lret C hz hA1 dL_law_1029
                                                        · refine j_cases (fun hq33_26 => ?_) (fun hq33_26 => ?_)
                                                          · refine j_tabIn C dL_law_33 (tgt := 1030) hq33_26 (by decide) (by decide) rfl (by decide) ?_
                                                            refine j_aload_n C dL_law_1030 rfl ?_
                                                            refine j_callVI C (As := []) dL_law_1031 (CX10_delay l M hD v1 h1 σ) vv_RL_122 h1 (by decide) rfl rfl ⟨rfl, rfl⟩ (by decide) (Nat.le_of_ble_eq_true rfl) hz (fun r_1031 s_1031 => ?_)
                                                            refine j_aload_n C dL_law_1034 rfl ?_
                                                            refine j_callVI C (As := []) dL_law_1035 (CX11_delay l M hD v2 h2 s_1031) vv_RL_125 h2 (by decide) rfl rfl ⟨rfl, rfl⟩ (by decide) (Nat.le_of_ble_eq_true rfl) hz (fun r_1035 s_1035 => ?_)
                                                            refine j_icmp_eq C (tgt := 1370) dL_law_1038 (by decide) ?_ ?_
                                                            · exact H1370 v3 s_1035
                                                            · refine j_iconst C (v := (0 : Int32)) dL_law_1041 (by decide) ?_
                                                              exact j_lret C hz hA1 dL_law_1042
                                                          · refine j_cases (fun hq33_27 => ?_) (fun hq33_27 => ?_)
                                                            · refine j_tabIn C dL_law_33 (tgt := 1043) hq33_27 (by decide) (by decide) rfl (by decide) ?_
                                                              refine j_aload_n C dL_law_1043 rfl ?_
                                                              refine j_aload_n C dL_law_1044 rfl ?_
                                                              refine j_iload_n C dL_law_1045 rfl ?_
                                                              refine j_iconst C (v := (1 : Int32)) dL_law_1046 (by decide) ?_
                                                              refine j_iadd C dL_law_1047 ?_
                                                              refine j_sld C hX hbl hbA dL_law_1048 ?_
                                                              refine j_callVI C (As := [.int ((xs ((v3 + (1 : Int32))).toNatClampNeg))]) dL_law_1049 (CX10_best l M hD v1 h1 (xs ((v3 + (1 : Int32))).toNatClampNeg) σ) vv_RL_126 h1 (by decide) rfl rfl ⟨rfl, rfl⟩ (by decide) (Nat.le_of_ble_eq_true rfl) hz (fun r_1049 s_1049 => ?_)
                                                              refine j_aload_n C dL_law_1052 rfl ?_
                                                              refine j_aload_n C dL_law_1053 rfl ?_
                                                              refine j_iload_n C dL_law_1054 rfl ?_
                                                              refine j_iconst C (v := (1 : Int32)) dL_law_1055 (by decide) ?_
                                                              refine j_iadd C dL_law_1056 ?_
                                                              refine j_sld C hX hbl hbA dL_law_1057 ?_
                                                              refine j_callVI C (As := [.int ((xs ((v3 + (1 : Int32))).toNatClampNeg))]) dL_law_1058 (CX11_best l M hD v2 h2 (xs ((v3 + (1 : Int32))).toNatClampNeg) s_1049) vv_RL_129 h2 (by decide) rfl rfl ⟨rfl, rfl⟩ (by decide) (Nat.le_of_ble_eq_true rfl) hz (fun r_1058 s_1058 => ?_)
                                                              refine j_icmp_eq C (tgt := 1370) dL_law_1061 (by decide) ?_ ?_
                                                              · exact H1370 v3 s_1058
                                                              · refine j_iconst C (v := (0 : Int32)) dL_law_1064 (by decide) ?_
                                                                exact j_lret C hz hA1 dL_law_1065
                                                            · refine j_cases (fun hq33_28 => ?_) (fun hq33_28 => ?_)
                                                              · refine j_tabIn C dL_law_33 (tgt := 1066) hq33_28 (by decide) (by decide) rfl (by decide) ?_
                                                                refine j_aload_n C dL_law_1066 rfl ?_
                                                                refine j_aload_n C dL_law_1067 rfl ?_
                                                                refine j_iload_n C dL_law_1068 rfl ?_
                                                                refine j_iconst C (v := (1 : Int32)) dL_law_1069 (by decide) ?_
                                                                refine j_iadd C dL_law_1070 ?_
                                                                refine j_sld C hX hbl hbA dL_law_1071 ?_
                                                                refine j_aload_n C dL_law_1072 rfl ?_
                                                                refine j_iload_n C dL_law_1073 rfl ?_
                                                                refine j_iconst C (v := (2 : Int32)) dL_law_1074 (by decide) ?_
                                                                refine j_iadd C dL_law_1075 ?_
                                                                refine j_sld C hX hbl hbA dL_law_1076 ?_
                                                                refine j_aload_n C dL_law_1077 rfl ?_
                                                                refine j_iload_n C dL_law_1078 rfl ?_
                                                                refine j_iconst C (v := (3 : Int32)) dL_law_1079 (by decide) ?_
                                                                refine j_iadd C dL_law_1080 ?_
                                                                refine j_sld C hX hbl hbA dL_law_1081 ?_
                                                                refine j_callVI C (As := [.int ((xs ((v3 + (1 : Int32))).toNatClampNeg)), .int ((xs ((v3 + (2 : Int32))).toNatClampNeg)), .int ((xs ((v3 + (3 : Int32))).toNatClampNeg))]) dL_law_1082 (CX10_price l M hD v1 h1 (xs ((v3 + (1 : Int32))).toNatClampNeg) (xs ((v3 + (2 : Int32))).toNatClampNeg) (xs ((v3 + (3 : Int32))).toNatClampNeg) σ) vv_RL_130 h1 (by decide) rfl rfl ⟨rfl, rfl⟩ (by decide) (Nat.le_of_ble_eq_true rfl) hz (fun r_1082 s_1082 => ?_)
                                                                refine j_aload_n C dL_law_1085 rfl ?_
                                                                refine j_aload_n C dL_law_1086 rfl ?_
                                                                refine j_iload_n C dL_law_1087 rfl ?_
                                                                refine j_iconst C (v := (1 : Int32)) dL_law_1088 (by decide) ?_
                                                                refine j_iadd C dL_law_1089 ?_
                                                                refine j_sld C hX hbl hbA dL_law_1090 ?_
                                                                refine j_aload_n C dL_law_1091 rfl ?_
                                                                refine j_iload_n C dL_law_1092 rfl ?_
                                                                refine j_iconst C (v := (2 : Int32)) dL_law_1093 (by decide) ?_
                                                                refine j_iadd C dL_law_1094 ?_
                                                                refine j_sld C hX hbl hbA dL_law_1095 ?_
                                                                refine j_aload_n C dL_law_1096 rfl ?_
                                                                refine j_iload_n C dL_law_1097 rfl ?_
                                                                refine j_iconst C (v := (3 : Int32)) dL_law_1098 (by decide) ?_
                                                                refine j_iadd C dL_law_1099 ?_
                                                                refine j_sld C hX hbl hbA dL_law_1100 ?_
                                                                refine j_callVI C (As := [.int ((xs ((v3 + (1 : Int32))).toNatClampNeg)), .int ((xs ((v3 + (2 : Int32))).toNatClampNeg)), .int ((xs ((v3 + (3 : Int32))).toNatClampNeg))]) dL_law_1101 (CX11_price l M hD v2 h2 (xs ((v3 + (1 : Int32))).toNatClampNeg) (xs ((v3 + (2 : Int32))).toNatClampNeg) (xs ((v3 + (3 : Int32))).toNatClampNeg) s_1082) vv_RL_133 h2 (by decide) rfl rfl ⟨rfl, rfl⟩ (by decide) (Nat.le_of_ble_eq_true rfl) hz (fun r_1101 s_1101 => ?_)
                                                                refine j_icmp_eq C (tgt := 1370) dL_law_1104 (by decide) ?_ ?_
                                                                · exact H1370 v3 s_1101
                                                                · refine j_iconst C (v := (0 : Int32)) dL_law_1107 (by decide) ?_
                                                                  exact j_lret C hz hA1 dL_law_1108
                                                              · refine j_cases (fun hq33_29 => ?_) (fun hq33_29 => ?_)
                                                                · refine j_tabIn C dL_law_33 (tgt := 1109) hq33_29 (by decide) (by decide) rfl (by decide) ?_
                                                                  refine j_aload_n C dL_law_1109 rfl ?_
                                                                  refine j_aload_n C dL_law_1110 rfl ?_
                                                                  refine j_iload_n C dL_law_1111 rfl ?_
                                                                  refine j_iconst C (v := (1 : Int32)) dL_law_1112 (by decide) ?_
                                                                  refine j_iadd C dL_law_1113 ?_
                                                                  refine j_sld C hX hbl hbA dL_law_1114 ?_
                                                                  refine j_aload_n C dL_law_1115 rfl ?_
                                                                  refine j_iload_n C dL_law_1116 rfl ?_
                                                                  refine j_iconst C (v := (2 : Int32)) dL_law_1117 (by decide) ?_
                                                                  refine j_iadd C dL_law_1118 ?_
                                                                  refine j_sld C hX hbl hbA dL_law_1119 ?_
                                                                  refine j_aload_n C dL_law_1120 rfl ?_
                                                                  refine j_iload_n C dL_law_1121 rfl ?_
                                                                  refine j_iconst C (v := (3 : Int32)) dL_law_1122 (by decide) ?_
                                                                  refine j_iadd C dL_law_1123 ?_
                                                                  refine j_sld C hX hbl hbA dL_law_1124 ?_
                                                                  refine j_aload_n C dL_law_1125 rfl ?_
                                                                  refine j_iload_n C dL_law_1126 rfl ?_
                                                                  refine j_iconst C (v := (4 : Int32)) dL_law_1127 (by decide) ?_
                                                                  refine j_iadd C dL_law_1128 ?_
                                                                  refine j_sld C hX hbl hbA dL_law_1129 ?_
                                                                  refine j_callVI C (As := [.int ((xs ((v3 + (1 : Int32))).toNatClampNeg)), .int ((xs ((v3 + (2 : Int32))).toNatClampNeg)), .int ((xs ((v3 + (3 : Int32))).toNatClampNeg)), .int ((xs ((v3 + (4 : Int32))).toNatClampNeg))]) dL_law_1130 (CX10_proves l M hD v1 h1 (xs ((v3 + (1 : Int32))).toNatClampNeg) (xs ((v3 + (2 : Int32))).toNatClampNeg) (xs ((v3 + (3 : Int32))).toNatClampNeg) (xs ((v3 + (4 : Int32))).toNatClampNeg) σ) vv_RL_134 h1 (by decide) rfl rfl ⟨rfl, rfl⟩ (by decide) (Nat.le_of_ble_eq_true rfl) hz (fun r_1130 s_1130 => ?_)
                                                                  refine j_aload_n C dL_law_1133 rfl ?_
                                                                  refine j_aload_n C dL_law_1134 rfl ?_
                                                                  refine j_iload_n C dL_law_1135 rfl ?_
                                                                  refine j_iconst C (v := (1 : Int32)) dL_law_1136 (by decide) ?_
                                                                  refine j_iadd C dL_law_1137 ?_
                                                                  refine j_sld C hX hbl hbA dL_law_1138 ?_
                                                                  refine j_aload_n C dL_law_1139 rfl ?_
                                                                  refine j_iload_n C dL_law_1140 rfl ?_
                                                                  refine j_iconst C (v := (2 : Int32)) dL_law_1141 (by decide) ?_
                                                                  refine j_iadd C dL_law_1142 ?_
                                                                  refine j_sld C hX hbl hbA dL_law_1143 ?_
                                                                  refine j_aload_n C dL_law_1144 rfl ?_
                                                                  refine j_iload_n C dL_law_1145 rfl ?_
                                                                  refine j_iconst C (v := (3 : Int32)) dL_law_1146 (by decide) ?_
                                                                  refine j_iadd C dL_law_1147 ?_
                                                                  refine j_sld C hX hbl hbA dL_law_1148 ?_
                                                                  refine j_aload_n C dL_law_1149 rfl ?_
                                                                  refine j_iload_n C dL_law_1150 rfl ?_
                                                                  refine j_iconst C (v := (4 : Int32)) dL_law_1151 (by decide) ?_
                                                                  refine j_iadd C dL_law_1152 ?_
                                                                  refine j_sld C hX hbl hbA dL_law_1153 ?_
                                                                  refine j_callVI C (As := [.int ((xs ((v3 + (1 : Int32))).toNatClampNeg)), .int ((xs ((v3 + (2 : Int32))).toNatClampNeg)), .int ((xs ((v3 + (3 : Int32))).toNatClampNeg)), .int ((xs ((v3 + (4 : Int32))).toNatClampNeg))]) dL_law_1154 (CX11_proves l M hD v2 h2 (xs ((v3 + (1 : Int32))).toNatClampNeg) (xs ((v3 + (2 : Int32))).toNatClampNeg) (xs ((v3 + (3 : Int32))).toNatClampNeg) (xs ((v3 + (4 : Int32))).toNatClampNeg) s_1130) vv_RL_138 h2 (by decide) rfl rfl ⟨rfl, rfl⟩ (by decide) (Nat.le_of_ble_eq_true rfl) hz (fun r_1154 s_1154 => ?_)
                                                                  refine j_icmp_eq C (tgt := 1370) dL_law_1157 (by decide) ?_ ?_
                                                                  · exact H1370 v3 s_1154
                                                                  · refine j_iconst C (v := (0 : Int32)) dL_law_1160 (by decide) ?_
                                                                    exact j_lret C hz hA1 dL_law_1161
                                                                · refine j_cases (fun hq33_30 => ?_) (fun hq33_30 => ?_)
                                                                  · refine j_tabIn C dL_law_33 (tgt := 1162) hq33_30 (by decide) (by decide) rfl (by decide) ?_
                                                                    refine j_aload_n C dL_law_1162 rfl ?_
                                                                    refine j_aload_n C dL_law_1163 rfl ?_
                                                                    refine j_iload_n C dL_law_1164 rfl ?_
                                                                    refine j_iconst C (v := (1 : Int32)) dL_law_1165 (by decide) ?_
                                                                    refine j_iadd C dL_law_1166 ?_
                                                                    refine j_sld C hX hbl hbA dL_law_1167 ?_
                                                                    refine j_aload_n C dL_law_1168 rfl ?_
                                                                    refine j_iload_n C dL_law_1169 rfl ?_
                                                                    refine j_iconst C (v := (2 : Int32)) dL_law_1170 (by decide) ?_
                                                                    refine j_iadd C dL_law_1171 ?_
                                                                    refine j_sld C hX hbl hbA dL_law_1172 ?_
                                                                    refine j_aload_n C dL_law_1173 rfl ?_
                                                                    refine j_iload_n C dL_law_1174 rfl ?_
                                                                    refine j_iconst C (v := (3 : Int32)) dL_law_1175 (by decide) ?_
                                                                    refine j_iadd C dL_law_1176 ?_
                                                                    refine j_sld C hX hbl hbA dL_law_1177 ?_
                                                                    refine j_callVI C (As := [.int ((xs ((v3 + (1 : Int32))).toNatClampNeg)), .int ((xs ((v3 + (2 : Int32))).toNatClampNeg)), .int ((xs ((v3 + (3 : Int32))).toNatClampNeg))]) dL_law_1178 (CX10_sheet l M hD v1 h1 (xs ((v3 + (1 : Int32))).toNatClampNeg) (xs ((v3 + (2 : Int32))).toNatClampNeg) (xs ((v3 + (3 : Int32))).toNatClampNeg) σ) vv_RL_139 h1 (by decide) rfl rfl ⟨rfl, rfl⟩ (by decide) (Nat.le_of_ble_eq_true rfl) hz (fun r_1178 s_1178 => ?_)
                                                                    refine j_aload_n C dL_law_1181 rfl ?_
                                                                    refine j_aload_n C dL_law_1182 rfl ?_
                                                                    refine j_iload_n C dL_law_1183 rfl ?_
                                                                    refine j_iconst C (v := (1 : Int32)) dL_law_1184 (by decide) ?_
                                                                    refine j_iadd C dL_law_1185 ?_
                                                                    refine j_sld C hX hbl hbA dL_law_1186 ?_
                                                                    refine j_aload_n C dL_law_1187 rfl ?_
                                                                    refine j_iload_n C dL_law_1188 rfl ?_
                                                                    refine j_iconst C (v := (2 : Int32)) dL_law_1189 (by decide) ?_
                                                                    refine j_iadd C dL_law_1190 ?_
                                                                    refine j_sld C hX hbl hbA dL_law_1191 ?_
                                                                    refine j_aload_n C dL_law_1192 rfl ?_
                                                                    refine j_iload_n C dL_law_1193 rfl ?_
                                                                    refine j_iconst C (v := (3 : Int32)) dL_law_1194 (by decide) ?_
                                                                    refine j_iadd C dL_law_1195 ?_
                                                                    refine j_sld C hX hbl hbA dL_law_1196 ?_
                                                                    refine j_callVI C (As := [.int ((xs ((v3 + (1 : Int32))).toNatClampNeg)), .int ((xs ((v3 + (2 : Int32))).toNatClampNeg)), .int ((xs ((v3 + (3 : Int32))).toNatClampNeg))]) dL_law_1197 (CX11_sheet l M hD v2 h2 (xs ((v3 + (1 : Int32))).toNatClampNeg) (xs ((v3 + (2 : Int32))).toNatClampNeg) (xs ((v3 + (3 : Int32))).toNatClampNeg) s_1178) vv_RL_142 h2 (by decide) rfl rfl ⟨rfl, rfl⟩ (by decide) (Nat.le_of_ble_eq_true rfl) hz (fun r_1197 s_1197 => ?_)
                                                                    refine j_icmp_eq C (tgt := 1370) dL_law_1200 (by decide) ?_ ?_
                                                                    · exact H1370 v3 s_1197
                                                                    · refine j_iconst C (v := (0 : Int32)) dL_law_1203 (by decide) ?_
                                                                      exact j_lret C hz hA1 dL_law_1204
                                                                  · refine j_cases (fun hq33_31 => ?_) (fun hq33_31 => ?_)
                                                                    · refine j_tabIn C dL_law_33 (tgt := 1205) hq33_31 (by decide) (by decide) rfl (by decide) ?_
                                                                      refine j_aload_n C dL_law_1205 rfl ?_
                                                                      refine j_aload_n C dL_law_1206 rfl ?_
                                                                      refine j_iload_n C dL_law_1207 rfl ?_
                                                                      refine j_iconst C (v := (1 : Int32)) dL_law_1208 (by decide) ?_
                                                                      refine j_iadd C dL_law_1209 ?_
                                                                      refine j_sld C hX hbl hbA dL_law_1210 ?_
                                                                      refine j_aload_n C dL_law_1211 rfl ?_
                                                                      refine j_iload_n C dL_law_1212 rfl ?_
                                                                      refine j_iconst C (v := (2 : Int32)) dL_law_1213 (by decide) ?_
                                                                      refine j_iadd C dL_law_1214 ?_
                                                                      refine j_sld C hX hbl hbA dL_law_1215 ?_
                                                                      refine j_aload_n C dL_law_1216 rfl ?_
                                                                      refine j_iload_n C dL_law_1217 rfl ?_
                                                                      refine j_iconst C (v := (3 : Int32)) dL_law_1218 (by decide) ?_
                                                                      refine j_iadd C dL_law_1219 ?_
                                                                      refine j_sld C hX hbl hbA dL_law_1220 ?_
                                                                      refine j_callVI C (As := [.int ((xs ((v3 + (1 : Int32))).toNatClampNeg)), .int ((xs ((v3 + (2 : Int32))).toNatClampNeg)), .int ((xs ((v3 + (3 : Int32))).toNatClampNeg))]) dL_law_1221 (CX10_put l M hD v1 h1 (xs ((v3 + (1 : Int32))).toNatClampNeg) (xs ((v3 + (2 : Int32))).toNatClampNeg) (xs ((v3 + (3 : Int32))).toNatClampNeg) σ) vv_RL_143 h1 (by decide) rfl rfl ⟨rfl, rfl⟩ (by decide) (Nat.le_of_ble_eq_true rfl) hz (fun r_1221 s_1221 => ?_)
                                                                      refine j_aload_n C dL_law_1224 rfl ?_
                                                                      refine j_aload_n C dL_law_1225 rfl ?_
                                                                      refine j_iload_n C dL_law_1226 rfl ?_
                                                                      refine j_iconst C (v := (1 : Int32)) dL_law_1227 (by decide) ?_
                                                                      refine j_iadd C dL_law_1228 ?_
                                                                      refine j_sld C hX hbl hbA dL_law_1229 ?_
                                                                      refine j_aload_n C dL_law_1230 rfl ?_
                                                                      refine j_iload_n C dL_law_1231 rfl ?_
                                                                      refine j_iconst C (v := (2 : Int32)) dL_law_1232 (by decide) ?_
                                                                      refine j_iadd C dL_law_1233 ?_
                                                                      refine j_sld C hX hbl hbA dL_law_1234 ?_
                                                                      refine j_aload_n C dL_law_1235 rfl ?_
                                                                      refine j_iload_n C dL_law_1236 rfl ?_
                                                                      refine j_iconst C (v := (3 : Int32)) dL_law_1237 (by decide) ?_
                                                                      refine j_iadd C dL_law_1238 ?_
                                                                      refine j_sld C hX hbl hbA dL_law_1239 ?_
                                                                      refine j_callVI C (As := [.int ((xs ((v3 + (1 : Int32))).toNatClampNeg)), .int ((xs ((v3 + (2 : Int32))).toNatClampNeg)), .int ((xs ((v3 + (3 : Int32))).toNatClampNeg))]) dL_law_1240 (CX11_put l M hD v2 h2 (xs ((v3 + (1 : Int32))).toNatClampNeg) (xs ((v3 + (2 : Int32))).toNatClampNeg) (xs ((v3 + (3 : Int32))).toNatClampNeg) s_1221) vv_RL_146 h2 (by decide) rfl rfl ⟨rfl, rfl⟩ (by decide) (Nat.le_of_ble_eq_true rfl) hz (fun r_1240 s_1240 => ?_)
                                                                      refine j_icmp_eq C (tgt := 1370) dL_law_1243 (by decide) ?_ ?_
                                                                      · exact H1370 v3 s_1240
                                                                      · refine j_iconst C (v := (0 : Int32)) dL_law_1246 (by decide) ?_
                                                                        exact j_lret C hz hA1 dL_law_1247
                                                                    · refine j_cases (fun hq33_32 => ?_) (fun hq33_32 => ?_)
                                                                      · refine j_tabIn C dL_law_33 (tgt := 1248) hq33_32 (by decide) (by decide) rfl (by decide) ?_
                                                                        refine j_aload_n C dL_law_1248 rfl ?_
                                                                        refine j_aload_n C dL_law_1249 rfl ?_
                                                                        refine j_iload_n C dL_law_1250 rfl ?_
                                                                        refine j_iconst C (v := (1 : Int32)) dL_law_1251 (by decide) ?_
                                                                        refine j_iadd C dL_law_1252 ?_
                                                                        refine j_sld C hX hbl hbA dL_law_1253 ?_
                                                                        refine j_aload_n C dL_law_1254 rfl ?_
                                                                        refine j_iload_n C dL_law_1255 rfl ?_
                                                                        refine j_iconst C (v := (2 : Int32)) dL_law_1256 (by decide) ?_
                                                                        refine j_iadd C dL_law_1257 ?_
                                                                        refine j_sld C hX hbl hbA dL_law_1258 ?_
                                                                        refine j_aload_n C dL_law_1259 rfl ?_
                                                                        refine j_iload_n C dL_law_1260 rfl ?_
                                                                        refine j_iconst C (v := (3 : Int32)) dL_law_1261 (by decide) ?_
                                                                        refine j_iadd C dL_law_1262 ?_
                                                                        refine j_sld C hX hbl hbA dL_law_1263 ?_
                                                                        refine j_aload_n C dL_law_1264 rfl ?_
                                                                        refine j_iload_n C dL_law_1265 rfl ?_
                                                                        refine j_iconst C (v := (4 : Int32)) dL_law_1266 (by decide) ?_
                                                                        refine j_iadd C dL_law_1267 ?_
                                                                        refine j_sld C hX hbl hbA dL_law_1268 ?_
                                                                        refine j_aload_n C dL_law_1269 rfl ?_
                                                                        refine j_iload_n C dL_law_1270 rfl ?_
                                                                        refine j_iconst C (v := (5 : Int32)) dL_law_1271 (by decide) ?_
                                                                        refine j_iadd C dL_law_1272 ?_
                                                                        refine j_sld C hX hbl hbA dL_law_1273 ?_
                                                                        refine j_callVI C (As := [.int ((xs ((v3 + (1 : Int32))).toNatClampNeg)), .int ((xs ((v3 + (2 : Int32))).toNatClampNeg)), .int ((xs ((v3 + (3 : Int32))).toNatClampNeg)), .int ((xs ((v3 + (4 : Int32))).toNatClampNeg)), .int ((xs ((v3 + (5 : Int32))).toNatClampNeg))]) dL_law_1274 (CX10_copy l M hD v1 h1 (xs ((v3 + (1 : Int32))).toNatClampNeg) (xs ((v3 + (2 : Int32))).toNatClampNeg) (xs ((v3 + (3 : Int32))).toNatClampNeg) (xs ((v3 + (4 : Int32))).toNatClampNeg) (xs ((v3 + (5 : Int32))).toNatClampNeg) σ) vv_RL_147 h1 (by decide) rfl rfl ⟨rfl, rfl⟩ (by decide) (Nat.le_of_ble_eq_true rfl) hz (fun r_1274 s_1274 => ?_)
                                                                        refine j_aload_n C dL_law_1277 rfl ?_
                                                                        refine j_aload_n C dL_law_1278 rfl ?_
                                                                        refine j_iload_n C dL_law_1279 rfl ?_
                                                                        refine j_iconst C (v := (1 : Int32)) dL_law_1280 (by decide) ?_
                                                                        refine j_iadd C dL_law_1281 ?_
                                                                        refine j_sld C hX hbl hbA dL_law_1282 ?_
                                                                        refine j_aload_n C dL_law_1283 rfl ?_
                                                                        refine j_iload_n C dL_law_1284 rfl ?_
                                                                        refine j_iconst C (v := (2 : Int32)) dL_law_1285 (by decide) ?_
                                                                        refine j_iadd C dL_law_1286 ?_
                                                                        refine j_sld C hX hbl hbA dL_law_1287 ?_
                                                                        refine j_aload_n C dL_law_1288 rfl ?_
                                                                        refine j_iload_n C dL_law_1289 rfl ?_
                                                                        refine j_iconst C (v := (3 : Int32)) dL_law_1290 (by decide) ?_
                                                                        refine j_iadd C dL_law_1291 ?_
                                                                        refine j_sld C hX hbl hbA dL_law_1292 ?_
                                                                        refine j_aload_n C dL_law_1293 rfl ?_
                                                                        refine j_iload_n C dL_law_1294 rfl ?_
                                                                        refine j_iconst C (v := (4 : Int32)) dL_law_1295 (by decide) ?_
                                                                        refine j_iadd C dL_law_1296 ?_
                                                                        refine j_sld C hX hbl hbA dL_law_1297 ?_
                                                                        refine j_aload_n C dL_law_1298 rfl ?_
                                                                        refine j_iload_n C dL_law_1299 rfl ?_
                                                                        refine j_iconst C (v := (5 : Int32)) dL_law_1300 (by decide) ?_
                                                                        refine j_iadd C dL_law_1301 ?_
                                                                        refine j_sld C hX hbl hbA dL_law_1302 ?_
                                                                        refine j_callVI C (As := [.int ((xs ((v3 + (1 : Int32))).toNatClampNeg)), .int ((xs ((v3 + (2 : Int32))).toNatClampNeg)), .int ((xs ((v3 + (3 : Int32))).toNatClampNeg)), .int ((xs ((v3 + (4 : Int32))).toNatClampNeg)), .int ((xs ((v3 + (5 : Int32))).toNatClampNeg))]) dL_law_1303 (CX11_copy l M hD v2 h2 (xs ((v3 + (1 : Int32))).toNatClampNeg) (xs ((v3 + (2 : Int32))).toNatClampNeg) (xs ((v3 + (3 : Int32))).toNatClampNeg) (xs ((v3 + (4 : Int32))).toNatClampNeg) (xs ((v3 + (5 : Int32))).toNatClampNeg) s_1274) vv_RL_150 h2 (by decide) rfl rfl ⟨rfl, rfl⟩ (by decide) (Nat.le_of_ble_eq_true rfl) hz (fun r_1303 s_1303 => ?_)
                                                                        refine j_icmp_eq C (tgt := 1370) dL_law_1306 (by decide) ?_ ?_
                                                                        · exact H1370 v3 s_1303
                                                                        · refine j_iconst C (v := (0 : Int32)) dL_law_1309 (by decide) ?_
                                                                          exact j_lret C hz hA1 dL_law_1310
                                                                      · refine j_cases (fun hq33_33 => ?_) (fun hq33_33 => ?_)
                                                                        · refine j_tabIn C dL_law_33 (tgt := 1311) hq33_33 (by decide) (by decide) rfl (by decide) ?_
                                                                          refine j_aload_n C dL_law_1311 rfl ?_
                                                                          refine j_aload_n C dL_law_1312 rfl ?_
                                                                          refine j_iload_n C dL_law_1313 rfl ?_
                                                                          refine j_iconst C (v := (1 : Int32)) dL_law_1314 (by decide) ?_
                                                                          refine j_iadd C dL_law_1315 ?_
                                                                          refine j_sld C hX hbl hbA dL_law_1316 ?_
                                                                          refine j_callVI C (As := [.int ((xs ((v3 + (1 : Int32))).toNatClampNeg))]) dL_law_1317 (CX10_grades l M hD v1 h1 (xs ((v3 + (1 : Int32))).toNatClampNeg) σ) vv_RL_151 h1 (by decide) rfl rfl ⟨rfl, rfl⟩ (by decide) (Nat.le_of_ble_eq_true rfl) hz (fun r_1317 s_1317 => ?_)
                                                                          refine j_aload_n C dL_law_1320 rfl ?_
                                                                          refine j_aload_n C dL_law_1321 rfl ?_
                                                                          refine j_iload_n C dL_law_1322 rfl ?_
                                                                          refine j_iconst C (v := (1 : Int32)) dL_law_1323 (by decide) ?_
                                                                          refine j_iadd C dL_law_1324 ?_
                                                                          refine j_sld C hX hbl hbA dL_law_1325 ?_
                                                                          refine j_callVI C (As := [.int ((xs ((v3 + (1 : Int32))).toNatClampNeg))]) dL_law_1326 (CX11_grades l M hD v2 h2 (xs ((v3 + (1 : Int32))).toNatClampNeg) s_1317) vv_RL_154 h2 (by decide) rfl rfl ⟨rfl, rfl⟩ (by decide) (Nat.le_of_ble_eq_true rfl) hz (fun r_1326 s_1326 => ?_)
                                                                          refine j_icmp_eq C (tgt := 1370) dL_law_1329 (by decide) ?_ ?_
                                                                          · exact H1370 v3 s_1326
                                                                          · refine j_iconst C (v := (0 : Int32)) dL_law_1332 (by decide) ?_
                                                                            exact j_lret C hz hA1 dL_law_1333
                                                                        · refine j_cases (fun hq33_34 => ?_) (fun hq33_34 => ?_)
                                                                          · refine j_tabIn C dL_law_33 (tgt := 1334) hq33_34 (by decide) (by decide) rfl (by decide) ?_
                                                                            refine j_aload_n C dL_law_1334 rfl ?_
                                                                            refine j_callVI C (As := []) dL_law_1335 (CX10_undo l M hD v1 h1 σ) vv_RL_155 h1 (by decide) rfl rfl ⟨rfl, rfl⟩ (by decide) (Nat.le_of_ble_eq_true rfl) hz (fun r_1335 s_1335 => ?_)
                                                                            refine j_aload_n C dL_law_1338 rfl ?_
                                                                            refine j_callVI C (As := []) dL_law_1339 (CX11_undo l M hD v2 h2 s_1335) vv_RL_158 h2 (by decide) rfl rfl ⟨rfl, rfl⟩ (by decide) (Nat.le_of_ble_eq_true rfl) hz (fun r_1339 s_1339 => ?_)
                                                                            refine j_icmp_eq C (tgt := 1370) dL_law_1342 (by decide) ?_ ?_
                                                                            · exact H1370 v3 s_1339
                                                                            · refine j_iconst C (v := (0 : Int32)) dL_law_1345 (by decide) ?_
                                                                              exact j_lret C hz hA1 dL_law_1346
                                                                          · refine j_cases (fun hq33_35 => ?_) (fun hq33_35 => ?_)
                                                                            · refine j_tabIn C dL_law_33 (tgt := 1347) hq33_35 (by decide) (by decide) rfl (by decide) ?_
                                                                              refine j_aload_n C dL_law_1347 rfl ?_
                                                                              refine j_aload_n C dL_law_1348 rfl ?_
                                                                              refine j_iload_n C dL_law_1349 rfl ?_
                                                                              refine j_iconst C (v := (1 : Int32)) dL_law_1350 (by decide) ?_
                                                                              refine j_iadd C dL_law_1351 ?_
                                                                              refine j_sld C hX hbl hbA dL_law_1352 ?_
                                                                              refine j_callVI C (As := [.int ((xs ((v3 + (1 : Int32))).toNatClampNeg))]) dL_law_1353 (CX10_all l M hD v1 h1 (xs ((v3 + (1 : Int32))).toNatClampNeg) σ) vv_RL_159 h1 (by decide) rfl rfl ⟨rfl, rfl⟩ (by decide) (Nat.le_of_ble_eq_true rfl) hz (fun r_1353 s_1353 => ?_)
                                                                              refine j_aload_n C dL_law_1356 rfl ?_
                                                                              refine j_aload_n C dL_law_1357 rfl ?_
                                                                              refine j_iload_n C dL_law_1358 rfl ?_
                                                                              refine j_iconst C (v := (1 : Int32)) dL_law_1359 (by decide) ?_
                                                                              refine j_iadd C dL_law_1360 ?_
                                                                              refine j_sld C hX hbl hbA dL_law_1361 ?_
                                                                              refine j_callVI C (As := [.int ((xs ((v3 + (1 : Int32))).toNatClampNeg))]) dL_law_1362 (CX11_all l M hD v2 h2 (xs ((v3 + (1 : Int32))).toNatClampNeg) s_1353) vv_RL_162 h2 (by decide) rfl rfl ⟨rfl, rfl⟩ (by decide) (Nat.le_of_ble_eq_true rfl) hz (fun r_1362 s_1362 => ?_)
                                                                              refine j_icmp_eq C (tgt := 1370) dL_law_1365 (by decide) ?_ ?_
                                                                              · exact H1370 v3 s_1362
                                                                              · refine j_iconst C (v := (0 : Int32)) dL_law_1368 (by decide) ?_
                                                                                exact j_lret C hz hA1 dL_law_1369
                                                                            · refine j_tabOut C dL_law_33 (tgt := 1370) (by have hq33_0 := i_ne hq33_0; have hq33_1 := i_ne hq33_1; have hq33_2 := i_ne hq33_2; have hq33_3 := i_ne hq33_3; have hq33_4 := i_ne hq33_4; have hq33_5 := i_ne hq33_5; have hq33_6 := i_ne hq33_6; have hq33_7 := i_ne hq33_7; have hq33_8 := i_ne hq33_8; have hq33_9 := i_ne hq33_9; have hq33_10 := i_ne hq33_10; have hq33_11 := i_ne hq33_11; have hq33_12 := i_ne hq33_12; have hq33_13 := i_ne hq33_13; have hq33_14 := i_ne hq33_14; have hq33_15 := i_ne hq33_15; have hq33_16 := i_ne hq33_16; have hq33_17 := i_ne hq33_17; have hq33_18 := i_ne hq33_18; have hq33_19 := i_ne hq33_19; have hq33_20 := i_ne hq33_20; have hq33_21 := i_ne hq33_21; have hq33_22 := i_ne hq33_22; have hq33_23 := i_ne hq33_23; have hq33_24 := i_ne hq33_24; have hq33_25 := i_ne hq33_25; have hq33_26 := i_ne hq33_26; have hq33_27 := i_ne hq33_27; have hq33_28 := i_ne hq33_28; have hq33_29 := i_ne hq33_29; have hq33_30 := i_ne hq33_30; have hq33_31 := i_ne hq33_31; have hq33_32 := i_ne hq33_32; have hq33_33 := i_ne hq33_33; have hq33_34 := i_ne hq33_34; have hq33_35 := i_ne hq33_35; simp only [show ((0 : Int32)).toInt = 0 from rfl, show ((1 : Int32)).toInt = 1 from rfl, show ((2 : Int32)).toInt = 2 from rfl, show ((3 : Int32)).toInt = 3 from rfl, show ((4 : Int32)).toInt = 4 from rfl, show ((5 : Int32)).toInt = 5 from rfl, show ((6 : Int32)).toInt = 6 from rfl, show ((7 : Int32)).toInt = 7 from rfl, show ((8 : Int32)).toInt = 8 from rfl, show ((9 : Int32)).toInt = 9 from rfl, show ((10 : Int32)).toInt = 10 from rfl, show ((11 : Int32)).toInt = 11 from rfl, show ((12 : Int32)).toInt = 12 from rfl, show ((13 : Int32)).toInt = 13 from rfl, show ((14 : Int32)).toInt = 14 from rfl, show ((15 : Int32)).toInt = 15 from rfl, show ((16 : Int32)).toInt = 16 from rfl, show ((17 : Int32)).toInt = 17 from rfl, show ((18 : Int32)).toInt = 18 from rfl, show ((19 : Int32)).toInt = 19 from rfl, show ((20 : Int32)).toInt = 20 from rfl, show ((21 : Int32)).toInt = 21 from rfl, show ((22 : Int32)).toInt = 22 from rfl, show ((23 : Int32)).toInt = 23 from rfl, show ((24 : Int32)).toInt = 24 from rfl, show ((25 : Int32)).toInt = 25 from rfl, show ((26 : Int32)).toInt = 26 from rfl, show ((27 : Int32)).toInt = 27 from rfl, show ((28 : Int32)).toInt = 28 from rfl, show ((29 : Int32)).toInt = 29 from rfl, show ((30 : Int32)).toInt = 30 from rfl, show ((31 : Int32)).toInt = 31 from rfl, show ((32 : Int32)).toInt = 32 from rfl, show ((33 : Int32)).toInt = 33 from rfl, show ((34 : Int32)).toInt = 34 from rfl, show ((35 : Int32)).toInt = 35 from rfl] at *; omega) (by decide) ?_
                                                                              exact H1370 v3 σ
  unfold fL_law
  refine j_iconst C (v := (0 : Int32)) dL_law_16 (by decide) ?_
  refine j_istore_n C (Ls' := fun v3_17 => [(3, .int v3_17), (2, .ref (adr M v2)), (1, .ref (adr M v1)), (0, .ref b)]) dL_law_17 (by decide) (fun _ => rfl) (fun v3_17 => ?_)
  refine j_sub (Ls' := [(0, .ref b), (1, .ref (adr M v1)), (2, .ref (adr M v2)), (3, .int v3_17)]) [3, 2, 1, 0] rfl ?_
  exact H18 FU v3_17 σ
