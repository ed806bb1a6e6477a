/-! FROM THE LAW'S ENTRY to its tail -/
section START
variable {p : Program} {l : Launch} {e : Env} {R : Room} {s : State} {m : MethodId} {args : Array Value} {below : List Frame} {meth : Method} {c : Code} {M : Mc} {nL : Nat} {Q : State → Prop} {cc : ByteArray} {own : String} {ret1 : Option FieldType} {n cs sl : Nat} {cf : Nat → va_E} {pc : Nat} {Ls : List (Nat × Value)} {st : List Value}
theorem jc_astore_n (C : Cx p s m args meth c M cc nL own ret1) {k : Fin 4} {x : Nat} {Ls' : List (Nat × Value)} (d : decode cc pc = .ok (.astore_n k, 1)) (hn : k.1 < nL) (hL : (k.1, Value.ref x) :: Ls.filter (fun q => !(q.1 == k.1) && !(q.1 + 1 == k.1 && q.2.category == 2)) = Ls') (h : JC p l e R s m args below meth c M nL Q n cf cs sl (pc + 1) Ls' st) : JC p l e R s m args below meth c M nL Q n cf cs sl pc Ls (.ref x :: st) := fun H locs ls hw hs hl => lv_astore_n C.1.1 C.1.2 d rfl hl hn hL fun ls' hl' => h H locs ls' hw hs hl'
/-- the first cell of all -/
theorem w_new0 (C : Cx p s m args meth c M cc nL own ret1) {ls : Array Slot} {idx k N : Nat} {fs : List Value} (d : decode cc pc = .ok (.new idx, 3)) (hw : NW own idx k N fs) (hz : s.heap.size = adr M 0) (hr : 0 + 1 ≤ R.cells ∧ 0 + N ≤ R.slots) (hl : lv_has ls nL Ls) (h : JC p l e R s m args below meth c M nL Q 1 (va_up cf 0 (.inr (k, fs))) 1 N (pc + 3) Ls (.ref (adr M 0) :: st)) : W p l e R s m args below meth c s.heap [] 0 0 Q (F0 m pc ls st) := by
  obtain ⟨C1, T, ty, h1, h2, ⟨h3, h4, h5⟩, h6, h7⟩ := hw
  have hts := C.2.1.2.2
  have hKn := C.2.2.2.1.1 k _ h1
  refine W.newcK C.1.1 C.1.2 C.2.1.2.1 (hts _ h3) (hts _ h4) (hts _ h5) rfl d hr.1 hr.2 hKn.2.1 hz fun H1 kC hkC e1 z1 o1 => ?_
  have hP : va_P M.1 vwCl (wlp M 0 cf) s.heap := fun k q h => by simp [wlp] at h
  obtain ⟨a1, a2⟩ := jc_grow (n := 0) hP (va_S.rf (A := Am M)) (by rw [z1, hz]) (fun q hq => o1 q (by omega)) (ev := .inr (k, fs)) ⟨_, h1, (u_born ty hts h2 hKn hkC e1 h6).to h7⟩
  have hh := h H1 [] ls a1 a2 hl
  rw [show (0 : Nat) + 1 = 1 from rfl, show 0 + N = N from Nat.zero_add N]
  exact hh
end START
/-- what the arrays of references hold beyond their length does not matter -/
theorem celX_P {M : Mc} {σ : Sg} {H : Heap} (h : va_P M.1 vwCl (wlp M NC (celX M σ)) H) : va_P M.1 vwCl (wl M σ) H := by
  intro k q hk
  obtain ⟨h1, rfl⟩ := wl_inv hk
  have h2 := h k _ (wlp_get h1)
  by_cases a : kd k < 16
  · have : celX M σ k = cel M σ k := by
      unfold celX cel
      by_cases b : kd k < 12
      · rw [if_pos b, if_pos b]
      · rw [if_neg b, if_neg b, if_pos a, if_pos a]
    rw [← this]
    exact h2
  · rw [celX_rarr ⟨rfl, rfl⟩ (by omega)] at h2
    rw [cel_rarr ⟨h1, rfl⟩ (by omega)]
    show H[adr M k]? = some (vp_cell _ _)
    have h3 : H[adr M k]? = some (vp_cell _ _) := h2
    rw [h3, vp_cell_q, vp_cell_q]
    refine congrArg some ?_
    unfold arrV
    congr 1
    refine Array.ext (by simp) fun i hi _ => ?_
    have hi' : i < ln k := by simpa using hi
    simp [hi']
theorem arr_known {args : Array Value} {s : State} {ty : FieldType} (h : (Cond.arrayClass ty).before args s = true) (hp : ∀ C, ty ≠ .object C) : ∃ cA : ClassId, ArrOfT s cA ty ∧ va_RA s cA ty := by
  obtain ⟨cA, kA, comp, h1, h2, h3⟩ := Cond.arrayClass_spec h
  refine ⟨cA, fun N z => ⟨(fun k h => by cases h), kA, h2, comp, h3⟩, ?_⟩
  cases ty <;> first | exact h1 | exact absurd rfl (hp _)
theorem rarr_known {s : State} {E : String} (h : va_AO E s) : ∃ cA : ClassId, ArrOfT s cA (.object E) ∧ va_RA s cA (.object E) := by
  obtain ⟨comp, cA, kA, h1, h2, h3, h4, h5⟩ := Cond.arrayOver_spec h
  exact ⟨cA, fun N z => ⟨(fun k h => by cases h), kA, h3, comp, h4⟩, kA, comp, h3, h4, h1, h5⟩
theorem mem_t {w : Cond} (i : Nat) (h : lw_tbl[i]? = some w) : w ∈ lw_tbl := List.mem_of_getElem? h
