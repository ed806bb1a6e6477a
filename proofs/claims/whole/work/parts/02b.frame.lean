/-! THE FRAME: the heap's own cells as one function of numbers (Sg); J: from here on the machine does what the pure value F says -/
abbrev Sg : Type := Nat → Nat → Int32
def wr (σ : Sg) (c i : Nat) (v : Int32) : Sg := fun c' i' => if c' = c ∧ i' = i then v else σ c' i'
def cpy (σ : Sg) (c0 c1 sp dp n : Nat) : Sg := fun c i => if c = c1 then va_cpy (σ c0) (σ c1) sp dp n i else σ c i
abbrev Mc : Type := va_G × (Nat → ClassId) × (Nat → Nat) × Nat × Nat
def adr (M : Mc) (k : Nat) : Nat := M.2.2.1 k
def tys (M : Mc) : List (ClassId × FieldType) := [(M.2.1 12, .byte), (M.2.1 13, .int), (M.2.1 14, .short), (M.2.1 15, .boolean), (M.2.1 16, .object "SidingLine$Line"), (M.2.1 17, .object "SidingLine$Papers"), (M.2.1 18, .object "SidingLine$Sheet")]
def cel (M : Mc) (σ : Sg) (k : Nat) : va_E :=
  if kd k < 12 then .inr (kd k, (tm (kd k)).mapIdx fun j b => if b = true then .ref (adr M (rf k j)) else .int (σ k j))
  else if kd k < 16 then .inl (M.2.1 (kd k), ln k, .inl (σ k))
  else .inl (M.2.1 (kd k), ln k, .inr (.inr (.inr (.inr fun i => some (adr M (rf k i))))))
def wl (M : Mc) (σ : Sg) : va_W := (List.range NC).map fun k => (adr M k, cel M σ k)
def Am (M : Mc) : Nat → Prop := fun q => ∃ k, k < NC ∧ q = adr M k
def Dj (M : Mc) : Prop := ∀ i j, i < NC → j < NC → adr M i = adr M j → i = j
def rnk (j : Nat) : Int32 := ([0, 1, 2, 0] : List Int32).getD j 0
def kab (j : Nat) : Int32 := ([-1, 0, 1, 0] : List Int32).getD j 0
def Stc (M : Mc) (U : State) (H : Heap) : Prop :=
  (va_Z "SidingLine$Trains" "RANK_OF_KIND" "[I" (.ref M.2.2.2.1) (Am M) U H ∧ va_T .int M.2.2.2.1 4 (fun j => .int (rnk j)) (Am M) U H) ∧
  (va_Z "SidingLine$Trains" "KIND_ABOVE" "[I" (.ref M.2.2.2.2) (Am M) U H ∧ va_T .int M.2.2.2.2 4 (fun j => .int (kab j)) (Am M) U H)
theorem wl_len (M : Mc) (σ : Sg) : (wl M σ).length = NC := by simp [wl]
theorem wl_get {M : Mc} {σ : Sg} {c : Nat} (h : c < NC) : (wl M σ)[c]? = some (adr M c, cel M σ c) := by
  simp [wl, List.getElem?_map, List.getElem?_range h]
theorem wl_inv {M : Mc} {σ : Sg} {k : Nat} {q : Nat × va_E} (h : (wl M σ)[k]? = some q) : k < NC ∧ q = (adr M k, cel M σ k) := by
  have hl : k < NC := by have := (List.getElem?_eq_some_iff.mp h).1; rwa [wl_len] at this
  rw [wl_get hl] at h
  exact ⟨hl, (Option.some.inj h).symm⟩
theorem wl_D {M : Mc} (σ : Sg) (h : Dj M) : va_D (Am M) (wl M σ) := by
  refine ⟨fun i j p q hi hj hpq => ?_, fun k q hk => ?_⟩
  · obtain ⟨h1, rfl⟩ := wl_inv hi
    obtain ⟨h2, rfl⟩ := wl_inv hj
    exact h i j h1 h2 hpq
  · obtain ⟨h1, rfl⟩ := wl_inv hk
    exact ⟨k, h1, rfl⟩
theorem cel_congr {M : Mc} {σ τ : Sg} {k : Nat} (h : σ k = τ k) : cel M σ k = cel M τ k := by
  unfold cel
  rw [h]
theorem wl_set {M : Mc} {σ τ : Sg} {c : Nat} {e : va_E} (h : c < NC) (he : cel M τ c = e) (ho : ∀ k, k ≠ c → σ k = τ k) : (wl M σ).set c (adr M c, e) = wl M τ := by
  refine List.ext_getElem? fun k => ?_
  by_cases hk : k < NC
  · by_cases hc : k = c
    · subst hc
      rw [List.getElem?_set_self (by rw [wl_len]; exact h), wl_get h, he]
    · rw [List.getElem?_set_ne (Ne.symm hc), wl_get hk, wl_get hk, cel_congr (ho k hc)]
  · rw [List.getElem?_eq_none (by rw [List.length_set, wl_len]; omega), List.getElem?_eq_none (by rw [wl_len]; omega)]
theorem cel_obj {M : Mc} {σ : Sg} {c k : Nat} (h : isK c k) (hk : k < 12) : cel M σ c = .inr (k, (tm k).mapIdx fun j b => if b = true then .ref (adr M (rf c j)) else .int (σ c j)) := by
  unfold cel
  rw [h.2, if_pos hk]
theorem cel_arr {M : Mc} {σ : Sg} {c k : Nat} (h : isK c k) (h1 : 12 ≤ k) (h2 : k < 16) : cel M σ c = .inl (M.2.1 k, ln c, .inl (σ c)) := by
  unfold cel
  rw [h.2, if_neg (by omega), if_pos h2]
theorem cel_rarr {M : Mc} {σ : Sg} {c k : Nat} (h : isK c k) (h1 : 16 ≤ k) : cel M σ c = .inl (M.2.1 k, ln c, .inr (.inr (.inr (.inr fun i => some (adr M (rf c i)))))) := by
  unfold cel
  rw [h.2, if_neg (by omega), if_neg (by omega)]
theorem wr_ne {σ : Sg} {c k i : Nat} {v : Int32} (h : k ≠ c) : σ k = wr σ c i v k := by
  funext j
  simp [wr, h]
theorem wr_row {σ : Sg} {c i : Nat} {v : Int32} : wr σ c i v c = upd (σ c) i v := by
  funext j
  simp [wr, upd]
theorem cpy_ne {σ : Sg} {c0 c1 sp dp n k : Nat} (h : k ≠ c1) : σ k = cpy σ c0 c1 sp dp n k := by
  funext j
  simp [cpy, h]
theorem cpy_row {σ : Sg} {c0 c1 sp dp n : Nat} : cpy σ c0 c1 sp dp n c1 = va_cpy (σ c0) (σ c1) sp dp n := by
  funext j
  simp [cpy]
theorem cel_put {M : Mc} {σ : Sg} {c k j : Nat} {v : Int32} (h : isK c k) (hk : k < 12) (ht : (tm k)[j]? = some false) : cel M (wr σ c j v) c = .inr (k, ((tm k).mapIdx fun j b => if b = true then (.ref (adr M (rf c j)) : Value) else .int (σ c j)).set j (.int v)) := by
  rw [cel_obj h hk]
  refine congrArg (fun l => Sum.inr (k, l)) (List.ext_getElem? fun i => ?_)
  have hl : j < (tm k).length := (List.getElem?_eq_some_iff.mp ht).1
  by_cases hi : i = j
  · subst hi
    rw [List.getElem?_set_self (by simpa using hl)]
    simp [List.getElem?_mapIdx, ht, wr]
  · rw [List.getElem?_set_ne (Ne.symm hi)]
    simp [List.getElem?_mapIdx, wr, hi]
/-- words -/
def lw_g : List Cond := lw_tbl.filter goodWord
theorem goodAll0 : lw_g.all goodWord = true := by
  refine List.all_eq_true.mpr fun w hw => ?_
  exact (List.mem_filter.mp hw).2
theorem lw_g_in {w : Cond} (h : w ∈ lw_g) : w ∈ lw_tbl := (List.mem_filter.mp h).1
theorem good_code {y : MethodName} {b : ByteArray} {n : Nat} {r : Option FieldType} (h : Cond.code y b n r ∈ lw_g) : GoodIn lw_g (Cond.code y b n r :: lw_g) := by
  intro w hw
  rcases List.mem_cons.mp hw with rfl | hw
  · exact ⟨h, good_of_word (List.all_eq_true.mp goodAll0 _ h)⟩
  · exact ⟨hw, good_of_word (List.all_eq_true.mp goodAll0 w hw)⟩
/-- what a method is given, and what it leaves -/
def Pre (M : Mc) (σ : Sg) (U : State) : Prop := va_K M.1 vwCl (tys M) U ∧ va_P M.1 vwCl (wl M σ) U.heap ∧ Stc M U U.heap
def Qd {ρ : Type} (M : Mc) (val : ρ → Option Value) (r : ρ) (σ : Sg) : Array Value → State → Outcome → State → Prop := fun _ st o t => o = .returned (val r) ∧ va_P M.1 vwCl (wl M σ) t.heap ∧ va_F (Am M) st t
def Ct {ρ : Type} (l : Launch) (M : Mc) (y : MethodName) (cc : ByteArray) (maxL : Nat) (ret : Option FieldType) (rm : Room) (val : ρ → Option Value) (As : List Value) (σ : Sg) (F : Option (ρ × Sg)) : Prop :=
  ∀ (r : ρ) (σ' : Sg), F = some (r, σ') → Met l y (Cond.code y cc maxL ret :: lw_g) rm (va_Pc As (Pre M σ)) (Qd M val r σ') 0 0 (Am M)
def vI (r : Int32) : Option Value := some (.int r)
def vV (_ : Unit) : Option Value := none
def vR (M : Mc) (r : Nat) : Option Value := some (.ref (adr M r))
/-- the context of a method's body -/
def Cx (p : Program) (s : State) (m : MethodId) (args : Array Value) (meth : Method) (c : Code) (M : Mc) (cc : ByteArray) (nL : Nat) (own : String) (ret : Option FieldType) : Prop :=
  (p.tables.exec = Jvm.exec ∧ c.code = cc) ∧ (c.maxLocals = nL ∧ s.vm.findClass own = some m.cls ∧ ∀ w ∈ lw_g, w.before args s = true) ∧ (meth.locks = false ∧ meth.sig.returnType = ret) ∧ va_K M.1 vwCl (tys M) s ∧ Dj M ∧ Stc M s s.heap
def Jg {ρ : Type} (p : Program) (l : Launch) (e : Env) (R : Room) (s : State) (m : MethodId) (args : Array Value) (below : List Frame) (meth : Method) (c : Code) (M : Mc) (nL cs sl : Nat) (Q : ρ → Sg → State → Prop) (σ : Sg) (pc : Nat) (Ls : List (Nat × Value)) (st : List Value) (F : Option (ρ × Sg)) : Prop :=
  ∀ (H : Heap) (locs : List Loc) (ls : Array Slot) (r : ρ) (σ' : Sg), va_P M.1 vwCl (wl M σ) H → va_S (Am M) s.heap H locs → lv_has ls nL Ls → F = some (r, σ') → W p l e R s m args below meth c H locs cs sl (Q r σ') (F0 m pc ls st)
def Qm {ρ : Type} (s : State) (args : Array Value) (below : List Frame) (M : Mc) (val : ρ → Option Value) : ρ → Sg → State → Prop := fun r σ' => MQ below (Qd M val r σ') args s 0 0 (Am M)
abbrev J {ρ : Type} (p : Program) (l : Launch) (e : Env) (R : Room) (s : State) (m : MethodId) (args : Array Value) (below : List Frame) (meth : Method) (c : Code) (M : Mc) (nL : Nat) (val : ρ → Option Value) (σ : Sg) (pc : Nat) (Ls : List (Nat × Value)) (st : List Value) (F : Option (ρ × Sg)) : Prop :=
  Jg p l e R s m args below meth c M nL 0 0 (Qm s args below M val) σ pc Ls st F
def lt {α β : Type} (x : α) (K : α → Option β) : Option β := K x
def gd {β : Type} (q : Prop) [Decidable q] (F : Option β) : Option β := if q then F else none
def bd {ρ β : Type} (G : Option (ρ × Sg)) (K : ρ → Sg → Option β) : Option β := match G with
  | none => none
  | some (r, σ) => K r σ
