/-! CONSTRUCTORS: a world of n cells, the next one comes at place n -/
def wlp (M : Mc) (n : Nat) (cf : Nat → va_E) : va_W := (List.range n).map fun k => (adr M k, cf k)
theorem wlp_len (M : Mc) (n : Nat) (cf : Nat → va_E) : (wlp M n cf).length = n := by simp [wlp]
theorem wlp_get {M : Mc} {n : Nat} {cf : Nat → va_E} {o : Nat} (h : o < n) : (wlp M n cf)[o]? = some (adr M o, cf o) := by
  simp [wlp, List.getElem?_map, List.getElem?_range h]
theorem wlp_inv {M : Mc} {n : Nat} {cf : Nat → va_E} {k : Nat} {q : Nat × va_E} (h : (wlp M n cf)[k]? = some q) : k < n ∧ q = (adr M k, cf k) := by
  have hl : k < n := by have := (List.getElem?_eq_some_iff.mp h).1; rwa [wlp_len] at this
  rw [wlp_get hl] at h
  exact ⟨hl, (Option.some.inj h).symm⟩
theorem wlp_congr {M : Mc} {n : Nat} {cf cg : Nat → va_E} (h : ∀ k, k < n → cf k = cg k) : wlp M n cf = wlp M n cg := by
  refine List.map_congr_left fun k hk => ?_
  rw [h k (List.mem_range.mp hk)]
theorem wlp_wl (M : Mc) (σ : Sg) : wlp M NC (cel M σ) = wl M σ := rfl
theorem wlp_D {M : Mc} {n : Nat} (cf : Nat → va_E) (h : Dj M) (hn : n ≤ NC) : va_D (Am M) (wlp M n cf) := by
  refine ⟨fun i j p q hi hj hpq => ?_, fun k q hk => ?_⟩
  · obtain ⟨h1, rfl⟩ := wlp_inv hi
    obtain ⟨h2, rfl⟩ := wlp_inv hj
    exact h i j (by omega) (by omega) hpq
  · obtain ⟨h1, rfl⟩ := wlp_inv hk
    exact ⟨k, by omega, rfl⟩
theorem wlp_set {M : Mc} {n o : Nat} {cf cg : Nat → va_E} {e : va_E} (h : o < n) (he : cg o = e) (ho : ∀ k, k < n → k ≠ o → cf k = cg k) : (wlp M n cf).set o (adr M o, e) = wlp M n cg := by
  refine List.ext_getElem? fun k => ?_
  by_cases hk : k < n
  · by_cases hc : k = o
    · subst hc
      rw [List.getElem?_set_self (by rw [wlp_len]; exact h), wlp_get h, he]
    · rw [List.getElem?_set_ne (Ne.symm hc), wlp_get hk, wlp_get hk, ho k hk hc]
  · rw [List.getElem?_eq_none (by rw [List.length_set, wlp_len]; omega), List.getElem?_eq_none (by rw [wlp_len]; omega)]
/-- the world of a constructor of cell o: below it cf, it itself with the fields fs, above it g -/
def W0 (o : Nat) (cf : Nat → va_E) (k : Nat) (fs : List Value) (g : Nat → va_E) : Nat → va_E := fun q => if q < o then cf q else if q = o then .inr (k, fs) else g q
theorem W0_self {o k : Nat} {cf g : Nat → va_E} {fs : List Value} : W0 o cf k fs g o = .inr (k, fs) := by
  unfold W0
  rw [if_neg (Nat.lt_irrefl o), if_pos rfl]
theorem W0_hi {o k q : Nat} {cf g : Nat → va_E} {fs : List Value} (h : o < q) : W0 o cf k fs g q = g q := by
  unfold W0
  rw [if_neg (by omega), if_neg (by omega)]
/-- exact places -/
def Ex (M : Mc) : Prop := ∀ k, adr M (k + 1) = adr M k + 1
theorem Ex.lt {M : Mc} (h : Ex M) {i j : Nat} (hij : i < j) : adr M i < adr M j := by
  induction j with
  | zero => omega
  | succ j ih =>
    rw [h j]
    rcases Nat.lt_or_ge i j with q | q
    · have := ih q; omega
    · have : i = j := by omega
      subst this; omega
theorem Ex.Dj {M : Mc} (h : Ex M) : Dj M := fun i j _ _ e => by
  rcases Nat.lt_trichotomy i j with q | q | q
  · have := h.lt q; omega
  · exact q
  · have := h.lt q; omega
/-- the arrays of references that are made -/
def AOs (U : State) : Prop := va_AO "SidingLine$Line" U ∧ va_AO "SidingLine$Papers" U ∧ va_AO "SidingLine$Sheet" U
theorem AOs.moved {u U : State} (hvm : u.vm.Alike U.vm) (h : AOs u) : AOs U := ⟨h.1.moved hvm, h.2.1.moved hvm, h.2.2.moved hvm⟩
def PreC (M : Mc) (n : Nat) (cf : Nat → va_E) (U : State) : Prop := va_K M.1 vwCl (tys M) U ∧ va_P M.1 vwCl (wlp M n cf) U.heap ∧ U.heap.size = adr M n ∧ Stc M U U.heap ∧ AOs U
def QdC (M : Mc) (n : Nat) (cf : Nat → va_E) : Array Value → State → Outcome → State → Prop := fun _ st o t => o = .returned none ∧ va_P M.1 vwCl (wlp M n cf) t.heap ∧ t.heap.size = adr M n ∧ va_F (Am M) st t
def CtC (l : Launch) (M : Mc) (y : MethodName) (cc : ByteArray) (maxL : Nat) (rm : Room) (mc ms : Nat) (As : List Value) (n : Nat) (cf : Nat → va_E) (n2 : Nat) (cf2 : Nat → va_E) : Prop := Met l y (Cond.code y cc maxL none :: lw_g) rm (va_Pc As (PreC M n cf)) (QdC M n2 cf2) mc ms (Am M)
theorem PreC.blind {M : Mc} {n : Nat} {cf : Nat → va_E} {As : List Value} : FrameBlind (va_Pc As (PreC M n cf)) := fun a U g mk q => ⟨q.1, va_K.moved (u := U) (U := U.calling g mk a) (Vm.Alike.refl U.vm) q.2.1, q.2.2.1, q.2.2.2.1, Stc.moved (u := U) (U := U.calling g mk a) (Vm.Alike.refl U.vm) q.2.2.2.2.1, AOs.moved (u := U) (U := U.calling g mk a) (Vm.Alike.refl U.vm) q.2.2.2.2.2⟩
def JC (p : Program) (l : Launch) (e : Env) (R : Room) (s : State) (m : MethodId) (args : Array Value) (below : List Frame) (meth : Method) (c : Code) (M : Mc) (nL : Nat) (Q : State → Prop) (n : Nat) (cf : Nat → va_E) (cs sl : Nat) (pc : Nat) (Ls : List (Nat × Value)) (st : List Value) : Prop :=
  ∀ (H : Heap) (locs : List Loc) (ls : Array Slot), va_P M.1 vwCl (wlp M n cf) H → va_S (Am M) s.heap H locs → lv_has ls nL Ls → W p l e R s m args below meth c H locs cs sl Q (F0 m pc ls st)
section CROWS
variable {p : Program} {l : Launch} {e : Env} {R : Room} {s : State} {m : MethodId} {args : Array Value} {below : List Frame} {meth : Method} {c : Code} {M : Mc} {nL : Nat} {Q : State → Prop} {cc : ByteArray} {own : String} {ret1 : Option FieldType} {n cs sl : Nat} {cf : Nat → va_E} {pc : Nat} {Ls : List (Nat × Value)} {st : List Value}
theorem jc_lift {pc' : Nat} {st' : List Value} (k : ∀ (H : Heap) (locs : List Loc) (ls : Array Slot), lv_has ls nL Ls → va_P M.1 vwCl (wlp M n cf) H → W p l e R s m args below meth c H locs cs sl Q (F0 m pc' ls st') → W p l e R s m args below meth c H locs cs sl Q (F0 m pc ls st)) (h : JC p l e R s m args below meth c M nL Q (n) (cf) (cs) (sl) (pc') Ls (st')) : JC p l e R s m args below meth c M nL Q (n) (cf) (cs) (sl) (pc) Ls (st) := fun H locs ls hw hs hl => k H locs ls hl hw (h H locs ls hw hs hl)
theorem jc_congr {cg : Nat → va_E} (hc : ∀ k, k < n → cf k = cg k) (h : JC p l e R s m args below meth c M nL Q (n) (cg) (cs) (sl) (pc) Ls (st)) : JC p l e R s m args below meth c M nL Q (n) (cf) (cs) (sl) (pc) Ls (st) := fun H locs ls hw hs hl => h H locs ls (by rw [← wlp_congr hc]; exact hw) hs hl
theorem jc_n {n2 : Nat} (hn : n = n2) (h : JC p l e R s m args below meth c M nL Q (n2) (cf) (cs) (sl) (pc) Ls (st)) : JC p l e R s m args below meth c M nL Q (n) (cf) (cs) (sl) (pc) Ls (st) := hn ▸ h
theorem jc_iload_n (C : Cx p s m args meth c M cc nL own ret1) {k : Fin 4} {x : Int32} (d : decode cc pc = .ok (.iload_n k, 1)) (hk : Ls.lookup k.1 = some (.int x)) (h : JC p l e R s m args below meth c M nL Q (n) (cf) (cs) (sl) (pc + 1) Ls (.int x :: st)) : JC p l e R s m args below meth c M nL Q (n) (cf) (cs) (sl) (pc) Ls (st) := jc_lift (fun H locs ls hl hw k => lv_iload_n C.1.1 C.1.2 d rfl (lv_look hl hk) k) h
theorem jc_aload_n (C : Cx p s m args meth c M cc nL own ret1) {k : Fin 4} {x : Nat} (d : decode cc pc = .ok (.aload_n k, 1)) (hk : Ls.lookup k.1 = some (.ref x)) (h : JC p l e R s m args below meth c M nL Q (n) (cf) (cs) (sl) (pc + 1) Ls (.ref x :: st)) : JC p l e R s m args below meth c M nL Q (n) (cf) (cs) (sl) (pc) Ls (st) := jc_lift (fun H locs ls hl hw k => lv_aload_n C.1.1 C.1.2 d rfl (lv_look hl hk) k) h
theorem jc_iconst (C : Cx p s m args meth c M cc nL own ret1) {w : Int} {v : Int32} (d : decode cc pc = .ok (.iconst w, 1)) (hv : Int32.ofInt w = v) (h : JC p l e R s m args below meth c M nL Q (n) (cf) (cs) (sl) (pc + 1) Ls (.int v :: st)) : JC p l e R s m args below meth c M nL Q (n) (cf) (cs) (sl) (pc) Ls (st) := jc_lift (fun H locs ls hl hw k => lv_iconst C.1.1 C.1.2 d hv k) h
theorem jc_bipush (C : Cx p s m args meth c M cc nL own ret1) {w : Int} {v : Int32} (d : decode cc pc = .ok (.bipush w, 2)) (hv : (Int8.ofInt w).toInt32 = v) (h : JC p l e R s m args below meth c M nL Q (n) (cf) (cs) (sl) (pc + 2) Ls (.int v :: st)) : JC p l e R s m args below meth c M nL Q (n) (cf) (cs) (sl) (pc) Ls (st) := jc_lift (fun H locs ls hl hw k => lv_bipush C.1.1 C.1.2 d hv k) h
theorem jc_sipush (C : Cx p s m args meth c M cc nL own ret1) {w : Int} {v : Int32} (d : decode cc pc = .ok (.sipush w, 3)) (hv : (Int16.ofInt w).toInt32 = v) (h : JC p l e R s m args below meth c M nL Q (n) (cf) (cs) (sl) (pc + 3) Ls (.int v :: st)) : JC p l e R s m args below meth c M nL Q (n) (cf) (cs) (sl) (pc) Ls (st) := jc_lift (fun H locs ls hl hw k => lv_sipush C.1.1 C.1.2 d hv k) h
theorem jc_dup (C : Cx p s m args meth c M cc nL own ret1) {va : Value} (d : decode cc pc = .ok (.dup, 1)) (hva : va.category = 1) (h : JC p l e R s m args below meth c M nL Q (n) (cf) (cs) (sl) (pc + 1) Ls (va :: va :: st)) : JC p l e R s m args below meth c M nL Q (n) (cf) (cs) (sl) (pc) Ls (va :: st) := jc_lift (fun H locs ls hl hw k => lv_dup C.1.1 C.1.2 d hva k) h
theorem jc_goto (C : Cx p s m args meth c M cc nL own ret1) {off : Int} {tgt : Nat} (d : decode cc pc = .ok (.goto off, 3)) (ht : (pc : Int) + off = (tgt : Int)) (h : JC p l e R s m args below meth c M nL Q (n) (cf) (cs) (sl) (tgt) Ls (st)) : JC p l e R s m args below meth c M nL Q (n) (cf) (cs) (sl) (pc) Ls (st) := jc_lift (fun H locs ls hl hw k => lv_goto C.1.1 C.1.2 d ht k) h
theorem jc_ge_t (C : Cx p s m args meth c M cc nL own ret1) {x y : Int32} {off : Int} {tgt : Nat} (d : decode cc pc = .ok (.if_icmp .ge off, 3)) (ht : (pc : Int) + off = (tgt : Int)) (hq : y ≤ x) (h : JC p l e R s m args below meth c M nL Q (n) (cf) (cs) (sl) (tgt) Ls (st)) : JC p l e R s m args below meth c M nL Q (n) (cf) (cs) (sl) (pc) Ls (.int y :: .int x :: st) := jc_lift (fun H locs ls hl hw k => lv_icmp_ge C.1.1 C.1.2 d ht (fun _ => k) (fun z => absurd hq z)) h
theorem jc_ge_f (C : Cx p s m args meth c M cc nL own ret1) {x y : Int32} {off : Int} {tgt : Nat} (d : decode cc pc = .ok (.if_icmp .ge off, 3)) (ht : (pc : Int) + off = (tgt : Int)) (hq : ¬ y ≤ x) (h : JC p l e R s m args below meth c M nL Q (n) (cf) (cs) (sl) (pc + 3) Ls (st)) : JC p l e R s m args below meth c M nL Q (n) (cf) (cs) (sl) (pc) Ls (.int y :: .int x :: st) := jc_lift (fun H locs ls hl hw k => lv_icmp_ge C.1.1 C.1.2 d ht (fun z => absurd z hq) (fun _ => k)) h
theorem jc_istore_n (C : Cx p s m args meth c M cc nL own ret1) {k : Fin 4} {x : Int32} {Ls' : List (Nat × Value)} (d : decode cc pc = .ok (.istore_n k, 1)) (hn : k.1 < nL) (hL : (k.1, Value.int x) :: Ls.filter (fun q => !(q.1 == k.1) && !(q.1 + 1 == k.1 && q.2.category == 2)) = Ls') (h : JC p l e R s m args below meth c M nL Q (n) (cf) (cs) (sl) (pc + 1) Ls' (st)) : JC p l e R s m args below meth c M nL Q (n) (cf) (cs) (sl) (pc) Ls (.int x :: st) := fun H locs ls hw hs hl => lv_istore_n C.1.1 C.1.2 d rfl hl hn hL fun ls' hl' => h H locs ls' hw hs hl'
theorem jc_iinc (C : Cx p s m args meth c M cc nL own ret1) {i : Nat} {w : Int} {x v : Int32} {Ls' : List (Nat × Value)} (d : decode cc pc = .ok (.iinc i w, 3)) (k : Nat) (hk : Ls[k]? = some (i, .int x)) (hv : x + Int32.ofInt w = v) (hn : i < nL) (hL : (i, Value.int v) :: Ls.filter (fun q => !(q.1 == i) && !(q.1 + 1 == i && q.2.category == 2)) = Ls') (h : JC p l e R s m args below meth c M nL Q (n) (cf) (cs) (sl) (pc + 3) Ls' (st)) : JC p l e R s m args below meth c M nL Q (n) (cf) (cs) (sl) (pc) Ls (st) := fun H locs ls hw hs hl => lv_iinc C.1.1 C.1.2 d hl hk hv hn hL fun ls' hl' => h H locs ls' hw hs hl'
theorem jc_obj (C : Cx p s m args meth c M cc nL own ret1) {idx : Nat} {a : Nat} (d : decode cc pc = .ok (.invokespecial idx, 3)) (h1 : Cond.methodLink own idx Lib.objectInit ∈ lw_g) (h2 : Cond.instanceMethod Lib.objectInit ∈ lw_g) (h3 : Cond.code Lib.objectInit ⟨#[0xb1]⟩ 1 none ∈ lw_g) (hfr : 1 ≤ R.frames) (hlo : (st.map fun v => v.category).sum + 12 ≤ R.locals) (h : JC p l e R s m args below meth c M nL Q (n) (cf) (cs) (sl) (pc + 3) Ls (st)) : JC p l e R s m args below meth c M nL Q (n) (cf) (cs) (sl) (pc) Ls (.ref a :: st) :=
  fun H locs ls hw hs hl => W.objInit C.1.1 C.1.2 C.2.1.2.1 (C.2.1.2.2 _ h1) (C.2.1.2.2 _ h2) (C.2.1.2.2 _ h3) rfl (hl.1.trans C.2.1.1.symm) rfl d hfr (by have : (F0 m pc ls (.ref a :: st)).monitorRoom = 0 := rfl; omega) (h H locs ls hw hs hl)
theorem jc_get (C : Cx p s m args meth c M cc nL own ret1) {idx k j o : Nat} {fs : List Value} {v : Value} (d : decode cc pc = .ok (.getfield idx, 3)) (hf : FL own idx k j) (ho : o < n) (hc : cf o = .inr (k, fs)) (hv : fs[j]? = some v) (h : JC p l e R s m args below meth c M nL Q (n) (cf) (cs) (sl) (pc + 3) Ls (v :: st)) : JC p l e R s m args below meth c M nL Q (n) (cf) (cs) (sl) (pc) Ls (.ref (adr M o) :: st) := by
  obtain ⟨C1, T, N, h1, h2, h3, h4⟩ := hf
  exact jc_lift (fun H locs ls hl hw kk => va_get C.1.1 C.1.2 C.2.1.2.2 h3 C.2.1.2.1 C.2.2.2.1 hw o (by rw [wlp_get ho, hc]) h1 j h2 (C.2.1.2.2 _ h4) (fun x h => h) hv d kk) h
/-- the store of a final field -/
def FSF (own : String) (k j : Nat) (ty : FieldType) : Prop := ∃ (C : String) (T : u_T) (N : Nat) (ty0 : Nat → FieldType), vwCl[k]? = some (C, T, N) ∧ (∀ k, k < N → parseFieldDescriptor (T k).2.2.1 = some (ty0 k)) ∧ (∀ a, a < N → ∀ b, b < N → a ≠ b → (T a).2.1 ≠ (T b).2.1) ∧ (T j).2.2.2 = true ∧ parseFieldDescriptor (T j).2.2.1 = some ty ∧ (T j).1 = own
theorem jc_put (C : Cx p s m args meth c M cc nL own ret1) {idx k j o : Nat} {ty : FieldType} {v : Value} {fs fs2 : List Value} {g : Nat → va_E} (d : decode cc pc = .ok (.putfield idx, 3)) (hf : FL own idx k j) (hS : FS k j ty) (hn : o < n) (hN : n ≤ NC) (hj : j < fs.length) (hfs : fs.set j v = fs2) (hnr : narrow ty v = v) (hfit : fits ty v = true) (h : JC p l e R s m args below meth c M nL Q (n) (W0 o cf k fs2 g) (cs) (sl) (pc + 3) Ls (st)) : JC p l e R s m args below meth c M nL Q (n) (W0 o cf k fs g) (cs) (sl) (pc) Ls (v :: .ref (adr M o) :: st) := by
  obtain ⟨C1, T, N, h1, h2, h3, h4⟩ := hf
  obtain ⟨C2, T2, N2, ty0, g1, g2, g3, g4, g5⟩ := hS
  cases (h1.symm.trans g1)
  refine fun H locs ls hw hs hl => va_put C.1.1 C.1.2 C.2.1.2.2 h3 ty0 g2 g3 C.2.1.2.1 C.2.2.2.1 hw (wlp_D _ C.2.2.2.2.1 hN) hs o (by rw [wlp_get hn, W0_self]) h1 j h2 (C.2.1.2.2 _ h4) (fun x h => h) g4 g5 hnr hfit hj d (fun H1 locs1 hP1 hD1 hS1 => h H1 locs1 ls ?_ hS1 hl)
  rwa [wlp_set (cg := W0 o cf k fs2 g) hn (by rw [W0_self, hfs]) (fun q _ hq => by unfold W0; rw [if_neg hq, if_neg hq])] at hP1
theorem jc_putF (C : Cx p s m args meth c M cc nL own ret1) {idx k j o : Nat} {ty : FieldType} {v : Value} {fs fs2 : List Value} {g : Nat → va_E} (d : decode cc pc = .ok (.putfield idx, 3)) (hf : FL own idx k j) (hS : FSF own k j ty) (hin : meth.name = "<init>") (hn : o < n) (hN : n ≤ NC) (hj : j < fs.length) (hfs : fs.set j v = fs2) (hnr : narrow ty v = v) (hfit : fits ty v = true) (h : JC p l e R s m args below meth c M nL Q (n) (W0 o cf k fs2 g) (cs) (sl) (pc + 3) Ls (st)) : JC p l e R s m args below meth c M nL Q (n) (W0 o cf k fs g) (cs) (sl) (pc) Ls (v :: .ref (adr M o) :: st) := by
  obtain ⟨C1, T, N, h1, h2, h3, h4⟩ := hf
  obtain ⟨C2, T2, N2, ty0, g1, g2, g3, g4, g5, g6⟩ := hS
  cases (h1.symm.trans g1)
  refine fun H locs ls hw hs hl => va_putF C.1.1 C.1.2 C.2.1.2.2 h3 ty0 g2 g3 C.2.1.2.1 C.2.2.2.1 hw (wlp_D _ C.2.2.2.2.1 hN) hs o (by rw [wlp_get hn, W0_self]) h1 j h2 (C.2.1.2.2 _ h4) (fun x h => h) g4 hin g6 g5 hnr hfit hj d (fun H1 locs1 hP1 hD1 hS1 => h H1 locs1 ls ?_ hS1 hl)
  rwa [wlp_set (cg := W0 o cf k fs2 g) hn (by rw [W0_self, hfs]) (fun q _ hq => by unfold W0; rw [if_neg hq, if_neg hq])] at hP1
theorem jc_sized (hE : Ex M) {H : Heap} {locs : List Loc} {gf : JFrame} (hn : 0 < n) (hw : va_P M.1 vwCl (wlp M n cf) H) (hb : s.heap.size + cs = adr M n) (k : H.size = adr M n → W p l e R s m args below meth c H locs cs sl Q gf) : W p l e R s m args below meth c H locs cs sl Q gf := by
  intro T hT X
  refine k ?_ T hT X
  have h1 : T.heap.size ≤ s.heap.size + cs := X.same.2.2.1
  rw [hT] at h1
  obtain ⟨j, rfl⟩ : ∃ j, n = j + 1 := ⟨n - 1, by omega⟩
  have h2 : adr M j < H.size := (hw j _ (wlp_get (Nat.lt_succ_self j))).lt
  have h3 := hE j
  omega
theorem jc_grow {H H1 : Heap} {locs : List Loc} {ev : va_E} (hw : va_P M.1 vwCl (wlp M n cf) H) (hs : va_S (Am M) s.heap H locs) (hz : H1.size = H.size + 1) (ho : ∀ q, q < H.size → H1[q]? = H[q]?) (he : va_at M.1 vwCl (adr M n, ev) H1) : va_P M.1 vwCl (wlp M (n + 1) (va_up cf n ev)) H1 ∧ va_S (Am M) s.heap H1 locs := by
  refine ⟨fun k q hk => ?_, Nat.le_trans hs.1 (by omega), fun q h1 h2 => (ho q (Nat.lt_of_lt_of_le h1 hs.1)).trans (hs.2.1 q h1 h2), hs.2.2⟩
  obtain ⟨h1, rfl⟩ := wlp_inv hk
  by_cases hkn : k = n
  · subst hkn
    rw [show va_up cf k ev k = ev from by simp [va_up]]
    exact he
  · rw [show va_up cf n ev k = cf k from by simp [va_up, hkn]]
    have h2 := hw k _ (wlp_get (show k < n by omega))
    exact h2.kept (ho _ h2.lt)
/-- a class that can be made: its words -/
def NW (own : String) (idx k N : Nat) (fs : List Value) : Prop := ∃ (C : String) (T : u_T) (ty : Nat → FieldType), vwCl[k]? = some (C, T, N) ∧ (∀ w ∈ u_ws C T N, w ∈ lw_g) ∧ (Cond.classLink own idx C ∈ lw_g ∧ Cond.instantiable C N ∈ lw_g ∧ Cond.initialized C ∈ lw_g) ∧ (∀ k, k < N → parseFieldDescriptor (T k).2.2.1 = some (ty k)) ∧ ∀ j, j < N → defaultValue (ty j) = vp_V fs j
theorem jc_new (C : Cx p s m args meth c M cc nL own ret1) (hE : Ex M) {idx k N : Nat} {fs : List Value} (d : decode cc pc = .ok (.new idx, 3)) (hw : NW own idx k N fs) (hn : 0 < n) (hb : s.heap.size + cs = adr M n) (hr : cs + 1 ≤ R.cells ∧ sl + N ≤ R.slots) (h : JC p l e R s m args below meth c M nL Q (n + 1) (va_up cf n (.inr (k, fs))) (cs + 1) (sl + N) (pc + 3) Ls (.ref (adr M n) :: st)) : JC p l e R s m args below meth c M nL Q (n) (cf) (cs) (sl) (pc) Ls (st) := by
  obtain ⟨C1, T, ty, h1, h2, ⟨h3, h4, h5⟩, h6, h7⟩ := hw
  have hts := C.2.1.2.2
  have hKn := C.2.2.2.1.1 k _ h1
  intro H locs ls hP hs hl
  refine jc_sized hE hn hP hb fun hz => ?_
  refine W.newcK C.1.1 C.1.2 C.2.1.2.1 (hts _ h3) (hts _ h4) (hts _ h5) rfl d hr.1 hr.2 hKn.2.1 hz fun H1 kC hkC e1 z1 o1 => ?_
  obtain ⟨a1, a2⟩ := jc_grow hP hs (by rw [z1, hz]) (fun q hq => o1 q (by omega)) (ev := .inr (k, fs)) ⟨_, h1, (u_born ty hts h2 hKn hkC e1 h6).to h7⟩
  exact h H1 locs ls a1 a2 hl
theorem jc_newa_i (C : Cx p s m args meth c M cc nL own ret1) (hE : Ex M) {w : Int32} {N : Nat} (d : decode cc pc = .ok (.newarray .int, 2)) (hc : Cond.arrayClass .int ∈ lw_g) (hn : 0 < n) (hb : s.heap.size + cs = adr M n) (hw0 : ¬ w < 0) (hN : w.toNatClampNeg = N) (hbytes : N * componentBytes (newarray.typeOf .int) ≤ 536870912) (hr : cs + 1 ≤ R.cells ∧ sl + N ≤ R.slots) (h : JC p l e R s m args below meth c M nL Q (n + 1) (va_up cf n (.inl (M.2.1 13, N, .inl fun _ => 0))) (cs + 1) (sl + N) (pc + 2) Ls (.ref (adr M n) :: st)) : JC p l e R s m args below meth c M nL Q (n) (cf) (cs) (sl) (pc) Ls (.int w :: st) := by
  intro H locs ls hP hs hl
  refine jc_sized hE hn hP hb fun hz => ?_
  refine va_newaK C.1.1 C.1.2 (atype := .int) (C.2.1.2.2 _ hc) rfl d rfl hw0 hN hbytes hr.1 hr.2 hz fun H1 cA e1 z1 o1 _ hcA => ?_
  have hA : s.vm.findClass ("[" ++ FieldType.toString .int) = some (M.2.1 13) := (C.2.2.2.1.2 1 _ rfl).2
  have hcA2 : cA = M.2.1 13 := Option.some.inj (hcA.symm.trans hA)
  subst hcA2
  obtain ⟨a1, a2⟩ := jc_grow hP hs (by rw [z1, hz]) (fun q hq => o1 q (by omega)) (ev := .inl (M.2.1 13, N, .inl fun _ => 0)) e1
  exact h H1 locs ls a1 a2 hl
theorem jc_newa_b (C : Cx p s m args meth c M cc nL own ret1) (hE : Ex M) {w : Int32} {N : Nat} (d : decode cc pc = .ok (.newarray .byte, 2)) (hc : Cond.arrayClass .byte ∈ lw_g) (hn : 0 < n) (hb : s.heap.size + cs = adr M n) (hw0 : ¬ w < 0) (hN : w.toNatClampNeg = N) (hbytes : N * componentBytes (newarray.typeOf .byte) ≤ 536870912) (hr : cs + 1 ≤ R.cells ∧ sl + N ≤ R.slots) (h : JC p l e R s m args below meth c M nL Q (n + 1) (va_up cf n (.inl (M.2.1 12, N, .inl fun _ => 0))) (cs + 1) (sl + N) (pc + 2) Ls (.ref (adr M n) :: st)) : JC p l e R s m args below meth c M nL Q (n) (cf) (cs) (sl) (pc) Ls (.int w :: st) := by
  intro H locs ls hP hs hl
  refine jc_sized hE hn hP hb fun hz => ?_
  refine va_newaK C.1.1 C.1.2 (atype := .byte) (C.2.1.2.2 _ hc) rfl d rfl hw0 hN hbytes hr.1 hr.2 hz fun H1 cA e1 z1 o1 _ hcA => ?_
  have hA : s.vm.findClass ("[" ++ FieldType.toString .byte) = some (M.2.1 12) := (C.2.2.2.1.2 0 _ rfl).2
  have hcA2 : cA = M.2.1 12 := Option.some.inj (hcA.symm.trans hA)
  subst hcA2
  obtain ⟨a1, a2⟩ := jc_grow hP hs (by rw [z1, hz]) (fun q hq => o1 q (by omega)) (ev := .inl (M.2.1 12, N, .inl fun _ => 0)) e1
  exact h H1 locs ls a1 a2 hl
theorem jc_newa_s (C : Cx p s m args meth c M cc nL own ret1) (hE : Ex M) {w : Int32} {N : Nat} (d : decode cc pc = .ok (.newarray .short, 2)) (hc : Cond.arrayClass .short ∈ lw_g) (hn : 0 < n) (hb : s.heap.size + cs = adr M n) (hw0 : ¬ w < 0) (hN : w.toNatClampNeg = N) (hbytes : N * componentBytes (newarray.typeOf .short) ≤ 536870912) (hr : cs + 1 ≤ R.cells ∧ sl + N ≤ R.slots) (h : JC p l e R s m args below meth c M nL Q (n + 1) (va_up cf n (.inl (M.2.1 14, N, .inl fun _ => 0))) (cs + 1) (sl + N) (pc + 2) Ls (.ref (adr M n) :: st)) : JC p l e R s m args below meth c M nL Q (n) (cf) (cs) (sl) (pc) Ls (.int w :: st) := by
  intro H locs ls hP hs hl
  refine jc_sized hE hn hP hb fun hz => ?_
  refine va_newaK C.1.1 C.1.2 (atype := .short) (C.2.1.2.2 _ hc) rfl d rfl hw0 hN hbytes hr.1 hr.2 hz fun H1 cA e1 z1 o1 _ hcA => ?_
  have hA : s.vm.findClass ("[" ++ FieldType.toString .short) = some (M.2.1 14) := (C.2.2.2.1.2 2 _ rfl).2
  have hcA2 : cA = M.2.1 14 := Option.some.inj (hcA.symm.trans hA)
  subst hcA2
  obtain ⟨a1, a2⟩ := jc_grow hP hs (by rw [z1, hz]) (fun q hq => o1 q (by omega)) (ev := .inl (M.2.1 14, N, .inl fun _ => 0)) e1
  exact h H1 locs ls a1 a2 hl
theorem jc_newa_z (C : Cx p s m args meth c M cc nL own ret1) (hE : Ex M) {w : Int32} {N : Nat} (d : decode cc pc = .ok (.newarray .boolean, 2)) (hc : Cond.arrayClass .boolean ∈ lw_g) (hn : 0 < n) (hb : s.heap.size + cs = adr M n) (hw0 : ¬ w < 0) (hN : w.toNatClampNeg = N) (hbytes : N * componentBytes (newarray.typeOf .boolean) ≤ 536870912) (hr : cs + 1 ≤ R.cells ∧ sl + N ≤ R.slots) (h : JC p l e R s m args below meth c M nL Q (n + 1) (va_up cf n (.inl (M.2.1 15, N, .inl fun _ => 0))) (cs + 1) (sl + N) (pc + 2) Ls (.ref (adr M n) :: st)) : JC p l e R s m args below meth c M nL Q (n) (cf) (cs) (sl) (pc) Ls (.int w :: st) := by
  intro H locs ls hP hs hl
  refine jc_sized hE hn hP hb fun hz => ?_
  refine va_newaK C.1.1 C.1.2 (atype := .boolean) (C.2.1.2.2 _ hc) rfl d rfl hw0 hN hbytes hr.1 hr.2 hz fun H1 cA e1 z1 o1 _ hcA => ?_
  have hA : s.vm.findClass ("[" ++ FieldType.toString .boolean) = some (M.2.1 15) := (C.2.2.2.1.2 3 _ rfl).2
  have hcA2 : cA = M.2.1 15 := Option.some.inj (hcA.symm.trans hA)
  subst hcA2
  obtain ⟨a1, a2⟩ := jc_grow hP hs (by rw [z1, hz]) (fun q hq => o1 q (by omega)) (ev := .inl (M.2.1 15, N, .inl fun _ => 0)) e1
  exact h H1 locs ls a1 a2 hl
theorem jc_anew (C : Cx p s m args meth c M cc nL own ret1) (hE : Ex M) {w : Int32} {N idx k t0 : Nat} {E : String} (d : decode cc pc = .ok (.anewarray idx, 3)) (hc : Cond.classLink own idx E ∈ lw_g) (hov : va_AO E s) (ht : (tys M)[t0]? = some (M.2.1 k, .object E)) (hn : 0 < n) (hb : s.heap.size + cs = adr M n) (hw0 : ¬ w < 0) (hN : w.toNatClampNeg = N) (hbytes : w.toNatClampNeg * 4 ≤ 536870912) (hr : cs + 1 ≤ R.cells ∧ sl + N ≤ R.slots) (h : JC p l e R s m args below meth c M nL Q (n + 1) (va_up cf n (.inl (M.2.1 k, N, .inr (.inr (.inr (.inr fun _ => none)))))) (cs + 1) (sl + N) (pc + 3) Ls (.ref (adr M n) :: st)) : JC p l e R s m args below meth c M nL Q (n) (cf) (cs) (sl) (pc) Ls (.int w :: st) := by
  subst hN
  intro H locs ls hP hs hl
  refine jc_sized hE hn hP hb fun hz => ?_
  refine W.anew C.1.1 C.1.2 C.2.1.2.1 (C.2.1.2.2 _ hc) (va_AO.use hov) rfl d rfl hw0 hbytes hr.1 hr.2 fun cA kA comp f1 f2 f3 f4 => ?_
  obtain ⟨-, kA2, comp2, -, -, -, hA⟩ := C.2.2.2.1.2 t0 _ ht
  have hcA2 : cA = M.2.1 k := Option.some.inj (f1.symm.trans hA)
  subst hcA2
  rw [hz]
  obtain ⟨a1, a2⟩ := jc_grow (H1 := H.push { cls := M.2.1 k, slots := Array.replicate w.toNatClampNeg .null, vm := .none }) hP hs (by rw [Array.size_push]) (fun q hq => by rw [Array.getElem?_push, if_neg (Nat.ne_of_lt hq)]) (ev := .inl (M.2.1 k, w.toNatClampNeg, .inr (.inr (.inr (.inr fun _ => none))))) (by
    show (H.push _)[adr M n]? = some (vp_cell _ _)
    rw [← hz, Array.getElem?_push_size, vp_cell_q]
    exact congrArg some (arrV_new _ _ _))
  exact h _ locs ls a1 a2 hl
theorem jc_aast (C : Cx p s m args meth c M cc nL own ret1) {i : Int32} {a o k kk t0 N : Nat} {f : Nat → Option Nat} {vs : List Value} {r : vw_C} (d : decode cc pc = .ok (.aastore, 1)) (ha : a < n) (ho : o < n) (hN : n ≤ NC) (hca : cf a = .inl (M.2.1 k, N, .inr (.inr (.inr (.inr f))))) (hco : cf o = .inr (kk, vs)) (hr : vwCl[kk]? = some r) (ht : (tys M)[t0]? = some (M.2.1 k, .object r.1)) (hi : inR i N) (h : JC p l e R s m args below meth c M nL Q (n) (va_up cf a (.inl (M.2.1 k, N, .inr (.inr (.inr (.inr (va_up f i.toNatClampNeg (some (adr M o)))))))) ) (cs) (sl) (pc + 1) Ls (st)) : JC p l e R s m args below meth c M nL Q (n) (cf) (cs) (sl) (pc) Ls (.ref (adr M o) :: .int i :: .ref (adr M a) :: st) := by
  refine fun H locs ls hw hs hl => va_astq C.1.1 C.1.2 C.2.2.2.1 hw (wlp_D _ C.2.2.2.2.1 hN) hs a t0 o kk (by rw [wlp_get ha, hca]) ht (by rw [wlp_get ho, hco]) hr hi d (fun H1 locs1 hP1 hD1 hS1 => h H1 locs1 ls ?_ hS1 hl)
  rwa [wlp_set (cg := va_up cf a (.inl (M.2.1 k, N, .inr (.inr (.inr (.inr (va_up f i.toNatClampNeg (some (adr M o))))))))) ha (by simp [va_up]) (fun q _ hq => by simp [va_up, hq])] at hP1
theorem jc_iast (C : Cx p s m args meth c M cc nL own ret1) {i v : Int32} {a N : Nat} {f : Nat → Int32} (d : decode cc pc = .ok (.iastore, 1)) (ha : a < n) (hN : n ≤ NC) (hca : cf a = .inl (M.2.1 13, N, .inl f)) (hi : inR i N) (h : JC p l e R s m args below meth c M nL Q (n) (va_up cf a (.inl (M.2.1 13, N, .inl (upd f i.toNatClampNeg v)))) (cs) (sl) (pc + 1) Ls (st)) : JC p l e R s m args below meth c M nL Q (n) (cf) (cs) (sl) (pc) Ls (.int v :: .int i :: .ref (adr M a) :: st) := by
  refine fun H locs ls hw hs hl => va_iast C.1.1 C.1.2 C.2.2.2.1 hw (wlp_D _ C.2.2.2.2.1 hN) hs a 1 (by rw [wlp_get ha, hca]) rfl hi d (fun H1 locs1 hP1 hD1 hS1 => h H1 locs1 ls ?_ hS1 hl)
  rwa [wlp_set (cg := va_up cf a (.inl (M.2.1 13, N, .inl (upd f i.toNatClampNeg v)))) ha (by simp [va_up]) (fun q _ hq => by simp [va_up, hq])] at hP1
theorem jc_alen (C : Cx p s m args meth c M cc nL own ret1) {a N : Nat} {f : Nat → Int32} (d : decode cc pc = .ok (.arraylength, 1)) (ha : a < n) (hca : cf a = .inl (M.2.1 13, N, .inl f)) (h : JC p l e R s m args below meth c M nL Q (n) (cf) (cs) (sl) (pc + 1) Ls (.int (nI N) :: st)) : JC p l e R s m args below meth c M nL Q (n) (cf) (cs) (sl) (pc) Ls (.ref (adr M a) :: st) :=
  jc_lift (fun H locs ls hl hw kk => va_alen (x := (N, .inl f)) C.1.1 C.1.2 C.2.2.2.1 hw a 1 (by rw [wlp_get ha, hca]) rfl rfl d kk) h
/-- a call that answers nothing and may make cells -/
theorem jc_call (hE : Ex M) {mc ms n2 : Nat} {cf2 : Nat → va_E} {st0 : List Value} {a : Array Value} (hn : 0 < n) (hb : s.heap.size + cs = adr M n) (hr : ∀ (H : Heap) (locs : List Loc) (ls : Array Slot), va_P M.1 vwCl (wlp M n cf) H → H.size = adr M n → va_S (Am M) s.heap H locs → lv_has ls nL Ls → va_Run p l e R s m args below meth c H locs cs sl mc ms (F0 m pc ls st0) st (QdC M n2 cf2 a) (Am M)) (h : JC p l e R s m args below meth c M nL Q (n2) (cf2) (cs + mc) (sl + ms) (pc + 3) Ls (st)) : JC p l e R s m args below meth c M nL Q (n) (cf) (cs) (sl) (pc) Ls (st0) := by
  intro H locs ls hw hs hl
  refine jc_sized hE hn hw hb fun hz => ?_
  intro T hT X
  obtain ⟨v, st₀, t, T', L, h0, X', hL, e1, e2, ⟨hv, hP, hsz, hk⟩, stp⟩ := hr H locs ls hw hz hs hl T hT X
  cases hv
  obtain ⟨hk1, hk2⟩ := hk
  rw [h0] at hk1 hk2
  rw [← e1] at hP hk1 hk2
  have hS : va_S (Am M) s.heap T'.heap (locs ++ L) := ⟨Nat.le_trans hs.1 hk1, fun q h1 h2 => (hk2 q (Nat.lt_of_lt_of_le h1 hs.1) h2).trans (hs.2.1 q h1 h2), fun q hq => by
    rcases List.mem_append.mp hq with h | h
    · exact hs.2.2 q h
    · exact hL q h⟩
  obtain ⟨t2, a1, b1⟩ := h T'.heap (locs ++ L) ls hP hS hl T' rfl X'
  exact ⟨t2, stp t2 a1, b1⟩
theorem PreC.of (C : Cx p s m args meth c M cc nL own ret1) (hAO : AOs s) {H : Heap} {locs : List Loc} (hw : va_P M.1 vwCl (wlp M n cf) H) (hz : H.size = adr M n) (hs : va_S (Am M) s.heap H locs) {U : State} (hU : U.heap = H) (hW : s.WarmedH U.vm) : PreC M n cf U := ⟨va_K.moved hW.alike C.2.2.2.1, by rw [hU]; exact hw, by rw [hU]; exact hz, by rw [hU]; exact (C.2.2.2.2.2.kept hs.2.1).moved hW.alike, hAO.moved hW.alike⟩
theorem jc_init (C : Cx p s m args meth c M cc nL own ret1) (hE : Ex M) (hAO : AOs s) {idx o nA maxL mc ms n2 : Nat} {y : MethodName} {bytes : ByteArray} {rm : Room} {As : List Value} {cf2 : Nat → va_E} {st0 : List Value} (d : decode cc pc = .ok (.invokespecial idx, 3)) (hM : CtC l M y bytes maxL rm mc ms (.ref (adr M o) :: As) n cf n2 cf2) (hv : VB own idx y bytes maxL none nA) (hy : y.name = "<init>" ∧ Cond.instanceMethod y ∈ lw_g) (hn : As.length = nA) (hst : st0 = As.reverse ++ .ref (adr M o) :: st) (hrm : rm.cells = mc ∧ rm.slots = ms) (hR : rm.frames + 1 ≤ R.frames ∧ 8 + (maxL + 11) + rm.locals ≤ R.locals) (hW : (st.map fun v => v.category).sum ≤ 8) (hz : cs + mc ≤ R.cells ∧ sl + ms ≤ R.slots) (h0 : 0 < n) (hb : s.heap.size + cs = adr M n) (h : JC p l e R s m args below meth c M nL Q (n2) (cf2) (cs + mc) (sl + ms) (pc + 3) Ls (st)) : JC p l e R s m args below meth c M nL Q (n) (cf) (cs) (sl) (pc) Ls (st0) := by
  obtain ⟨⟨h1, h2, h3⟩, h4⟩ := hv
  have hts := C.2.1.2.2
  refine jc_call (a := (Value.ref (adr M o) :: As).toArray) hE h0 hb (fun H locs ls hw hzz hs hl => ?_) h
  exact va_runI (As := As) (rest := st) (index := idx) (nL := nL) (n := nA) ⟨C.1.1, C.1.2, C.2.1.1, C.2.1.2.1, hts⟩ hM ⟨callB_of nA hts (good_code h1) rfl hrm.1 hrm.2 (hts _ h2) (hts _ h3) h4 hR, hy.1, hts _ hy.2⟩ ⟨PreC.blind, fun U hU hW => ⟨rfl, PreC.of C hAO hw hzz hs hU hW⟩⟩ rfl hn hl.1 hst (lv_room hW) d hz
theorem jc_callS (C : Cx p s m args meth c M cc nL own ret1) (hE : Ex M) (hAO : AOs s) {idx nA maxL n2 : Nat} {y : MethodName} {bytes : ByteArray} {rm : Room} {As : List Value} {cf2 : Nat → va_E} {st0 : List Value} (d : decode cc pc = .ok (.invokestatic idx, 3)) (hM : CtC l M y bytes maxL rm 0 0 As n cf n2 cf2) (hv : VS own idx y bytes maxL none nA) (hn : As.length = nA) (hst : st0 = As.reverse ++ st) (hrm : rm.cells = 0 ∧ rm.slots = 0) (hR : rm.frames + 1 ≤ R.frames ∧ 8 + (maxL + 11) + rm.locals ≤ R.locals) (hW : (st.map fun v => v.category).sum ≤ 8) (hz : cs ≤ R.cells ∧ sl ≤ R.slots) (h0 : 0 < n) (hb : s.heap.size + cs = adr M n) (h : JC p l e R s m args below meth c M nL Q (n2) (cf2) (cs) (sl) (pc + 3) Ls (st)) : JC p l e R s m args below meth c M nL Q (n) (cf) (cs) (sl) (pc) Ls (st0) := by
  obtain ⟨⟨⟨h1, h2, h3⟩, h4⟩, h5⟩ := hv
  have hts := C.2.1.2.2
  refine jc_call (a := As.toArray) (mc := 0) (ms := 0) hE h0 hb (fun H locs ls hw hzz hs hl => ?_) h
  exact va_runS (As := As) (rest := st) (index := idx) (nL := nL) (n := nA) ⟨C.1.1, C.1.2, C.2.1.1, C.2.1.2.1, hts⟩ hM ⟨callB_of nA hts (good_code h1) rfl hrm.1 hrm.2 (hts _ h2) (hts _ h3) h4 hR, hts _ h5⟩ ⟨PreC.blind, fun U hU hW => ⟨rfl, PreC.of C hAO hw hzz hs hU hW⟩⟩ rfl hn hl.1 hst (lv_room hW) d hz
theorem jc_vret (C : Cx p s m args meth c M cc nL own none) (hE : Ex M) {cf2 : Nat → va_E} (d : decode cc pc = .ok (.return_, 1)) (hc : ∀ k, k < n → cf k = cf2 k) (hn : 0 < n) (hb : s.heap.size + cs = adr M n) : JC p l e R s m args below meth c M nL (MQ below (QdC M n cf2) args s cs sl (Am M)) n cf cs sl pc Ls [] := by
  intro H locs ls hw hs hl
  refine jc_sized hE hn hw hb fun hz => ?_
  exact W.vret C.1.1 C.1.2 C.2.2.1.2 (fun t ht hW => ⟨rfl, by rw [ht, ← wlp_congr hc]; exact hw, by rw [ht]; exact hz, hs.F ht⟩) (fun q hq => hs.2.2 q hq) d (hlocks := C.2.2.1.1)
theorem ctc_of {y : MethodName} {maxL mc ms n2 : Nat} {rm : Room} {As : List Value} {cf2 : Nat → va_E} (hD : Dj M) (hy : plainName y.cls = true) (hnl : (lg_sl As).length ≤ maxL) (body : ∀ (p : Program) (e : Env) (s : State) (m : MethodId) (args : Array Value) (below : List Frame) (meth : Method) (c : Code), Cx p s m args meth c M cc maxL y.cls none → meth.name = y.name → s.heap.size = adr M n → AOs s → JC p l e rm s m args below meth c M maxL (MQ below (QdC M n2 cf2) args s mc ms (Am M)) n cf 0 0 0 (lv_args 0 As) []) : CtC l M y cc maxL rm mc ms As n cf n2 cf2 := by
  refine Met.ofW (cc := cc) (maxL := maxL) (ret := none) hy rfl ?_
  intro p e s m args below meth c s₁ B hml hv
  obtain ⟨rfl, hK, hP, hsz, hT, hAO⟩ := hv
  have hts := atoms_spec (ws := Cond.code y cc maxL none :: lw_g) B.pre
  have hown : s.vm.findClass y.cls = some m.cls := findClass_of_methodNamed B.named
  have hl := lv_entry As (n := maxL) hnl
  rw [lg_entry_eq]
  exact body p e s m As.toArray below meth c ⟨⟨B.exec, B.bytes⟩, ⟨hml, hown, fun w hw => hts w (List.mem_cons_of_mem _ hw)⟩, ⟨B.notSynchronized, B.returns⟩, hK, hD, hT⟩ (name_of_methodNamed B.named B.method).1 hsz hAO s.heap [] _ hP va_S.rf hl
end CROWS
