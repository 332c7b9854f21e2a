/-! the machine over the pool: what a run's heap holds (HP), what stays beside it (VP), a method's frame (MC), and J: from every heap that holds the pool S, with locals lv and stack st, the walk reaches its goal -/
abbrev eB (E : EV) : Nat := E.2.2.2.1
def AE (E : EV) : Nat → Prop := fun q => eB E ≤ q
abbrev tyE (E : EV) : List (ClassId × FieldType) := [(E.2.1, .int), (E.2.2.1, .object "java/lang/Object")]
def HP (E : EV) (S : PS) (H : Heap) : Prop := eB E ≤ H.size ∧ va_P E.1 vwCl (pool E S) H ∧ va_D (AE E) (pool E S)
def isNw (w : Cond) : Bool := match w with | .fieldLinkNest .. => true | .methodLinkNest .. => true | .castable .. => true | .declares .. => true | _ => false
def rwV : Nat → Int32 := fun k => [-1, -1, 0, 1, 1, 1, 0, -1].getD k 0
def clV : Nat → Int32 := fun k => [0, 1, 1, 1, 0, -1, -1, -1].getD k 0
def TX (E : EV) (U : State) (H : Heap) : Prop := vx_Zq Bundle.tN "UNASSIGNED_STACK" Bundle.steD (AE E) U H ∧ vx_Zq Bundle.tN "SUPPRESSED_SENTINEL" Bundle.listD (AE E) U H
def TA (E : EV) (U : State) (H : Heap) : Prop :=
  (va_Z "Slewyard" "ROW_STEPS" "[I" (.ref E.2.2.2.2.1) (AE E) U H ∧ va_T .int E.2.2.2.2.1 8 (fun k => .int (rwV k)) (AE E) U H) ∧
  (va_Z "Slewyard" "COLUMN_STEPS" "[I" (.ref E.2.2.2.2.2.1) (AE E) U H ∧ va_T .int E.2.2.2.2.2.1 8 (fun k => .int (clV k)) (AE E) U H) ∧
  (va_Z "java/util/ArrayList" "DEFAULTCAPACITY_EMPTY_ELEMENTDATA" "[Ljava/lang/Object;" (.ref E.2.2.2.2.2.2.1) (AE E) U H ∧ va_T (.object "java/lang/Object") E.2.2.2.2.2.2.1 0 (fun _ => .null) (AE E) U H) ∧ va_AO "java/lang/Object" U ∧ va_Mi "[Ljava/lang/Object;" E.2.2.2.2.2.2.2 U
def VP (E : EV) (U : State) (H : Heap) : Prop := va_K E.1 vwCl (tyE E) U ∧ (∀ w ∈ lw_tbl, isNw w = true → va_Nw w U) ∧ TA E U H ∧ TX E U H ∧ ∀ own k tx, Cond.stringRef own k tx ∈ lw_tbl → ∃ a, vk_R own k tx a U
theorem nw_warm {w : Cond} {s U : State} (hw : isNw w = true) (hW : s.WarmedH U.vm) (h : va_Nw w s) : va_Nw w U := by
  cases w <;> first | (simp [isNw] at hw; done) | exact va_Nw.warmF hW h | exact va_Nw.warmM hW h | exact va_Nw.warmC hW h | exact va_Nw.warmD hW h
theorem TA.go {E : EV} {s U : State} {H H1 : Heap} (h : TA E s H) (hvm : s.vm.Alike U.vm) (hq : ∀ a : Nat, a < H.size → ¬ AE E a → H1[a]? = H[a]?) : TA E U H1 :=
  ⟨⟨(h.1.1.moved hvm).kept hq, (h.1.2.moved hvm).kept hq⟩, ⟨(h.2.1.1.moved hvm).kept hq, (h.2.1.2.moved hvm).kept hq⟩, ⟨(h.2.2.1.1.moved hvm).kept hq, (h.2.2.1.2.moved hvm).kept hq⟩, va_AO.moved hvm h.2.2.2.1, va_Mi.moved hvm h.2.2.2.2⟩
theorem VP.go {E : EV} {s U : State} {H H1 : Heap} (h : VP E s H) (hW : s.WarmedH U.vm) (hq : ∀ a : Nat, a < H.size → ¬ AE E a → H1[a]? = H[a]?) : VP E U H1 :=
  ⟨va_K.moved hW.alike h.1, fun w hw hn => nw_warm hn hW (h.2.1 w hw hn), h.2.2.1.go hW.alike hq, ⟨(h.2.2.2.1.1.moved hW.alike).kept hq, (h.2.2.2.1.2.moved hW.alike).kept hq⟩, fun own k tx hw => by
    obtain ⟨a, ha⟩ := h.2.2.2.2 own k tx hw
    exact ⟨a, ha.warm hW⟩⟩
theorem VP.blind {E : EV} {U : State} {g : JFrame} {mk : MethodId} {a : Array Value} (h : VP E U U.heap) : VP E (U.calling g mk a) (U.calling g mk a).heap :=
  ⟨va_K.moved (u := U) (U := U.calling g mk a) (Vm.Alike.refl U.vm) h.1, fun w hw hn => va_Nw.same (u := U) (U := U.calling g mk a) (by cases w <;> first | (simp [isNw] at hn; done) | rfl) rfl (h.2.1 w hw hn), h.2.2.1.go (s := U) (U := U.calling g mk a) (Vm.Alike.refl U.vm) (fun _ _ _ => rfl), ⟨(h.2.2.2.1.1.moved (u := U) (U := U.calling g mk a) (Vm.Alike.refl U.vm)), (h.2.2.2.1.2.moved (u := U) (U := U.calling g mk a) (Vm.Alike.refl U.vm))⟩, fun own k tx hw => by
    obtain ⟨a, ha⟩ := h.2.2.2.2 own k tx hw
    exact ⟨a, vk_R.same rfl ha⟩⟩
/-- locals by their places -/
def lvg : List (Nat × Value) → Nat → Option Value
  | [], _ => none
  | (i, v) :: t, k => if i = k then some v else lvg t k
theorem lvg_mem : ∀ {lv : List (Nat × Value)} {k : Nat} {v : Value}, lvg lv k = some v → (k, v) ∈ lv
  | [], _, _, h => by cases h
  | (i, w) :: t, k, v, h => by
    unfold lvg at h
    by_cases e : i = k
    · rw [if_pos e] at h
      cases h
      rw [e]
      exact List.mem_cons_self
    · rw [if_neg e] at h
      exact List.mem_cons_of_mem _ (lvg_mem h)
theorem lvg_at {ls : Array Slot} {nL : Nat} {lv : List (Nat × Value)} {k : Nat} {v : Value} (hl : lv_has ls nL lv) (h : lvg lv k = some v) : ls[k]? = some (.val v) := hl.2.2 (k, v) (lvg_mem h)
/-- a frame of a method of the claim -/
def MC (E : EV) (p : Program) (s : State) (m : MethodId) (args : Array Value) (meth : Method) (c : Code) (cc : ByteArray) (own : String) (nL : Nat) (ret : Option FieldType) : Prop :=
  p.tables.exec = Jvm.exec ∧ c.code = cc ∧ c.maxLocals = nL ∧ s.vm.findClass own = some m.cls ∧ (∀ w ∈ wsU, w.before args s = true) ∧ VP E s s.heap ∧ meth.locks = false ∧ eB E ≤ s.heap.size ∧ meth.sig.returnType = ret
def J (p : Program) (l : Launch) (e : Env) (R : Room) (s : State) (m : MethodId) (args : Array Value) (below : List Frame) (meth : Method) (c : Code) (Q : State → Prop) (E : EV) (nL pc : Nat) (lv : List (Nat × Value)) (st : List Value) (S : PS) (cells slots : Nat) : Prop :=
  ∀ (H : Heap) (locs : List Loc) (ls : Array Slot), HP E S H → va_S (AE E) s.heap H locs → lv_has ls nL lv → W p l e R s m args below meth c H locs cells slots Q (F0 m pc ls st)
/-- what a call owes: an answer and a pool behind it, nothing older changed -/
def QC (E : EV) (post : Option Value → PS → Prop) : Array Value → State → Outcome → State → Prop := fun _ st oc t => (∃ (v : Option Value) (u : PS), oc = .returned v ∧ post v u ∧ HP E u t.heap) ∧ va_F (AE E) st t
def PC (E : EV) (av : List Value) (S : PS) : Array Value → State → Prop := va_Pc av (fun U => HP E S U.heap ∧ VP E U U.heap)
def CT (l : Launch) (y : MethodName) (cb : ByteArray) (mxL : Nat) (ret : Option FieldType) (fr lo mc ms : Nat) (E : EV) (av : List Value) (S : PS) (post : Option Value → PS → Prop) : Prop :=
  Met l y (.code y cb mxL ret :: wsU) { frames := fr, cells := mc, slots := ms, locals := lo } (PC E av S) (QC E post) mc ms (AE E)
theorem PC.blind {E : EV} {av : List Value} {S : PS} : FrameBlind (PC E av S) := fun _ _ _ _ h => ⟨h.1, h.2.1, h.2.2.blind⟩
section FR
variable {p : Program} {l : Launch} {e : Env} {R : Room} {s : State} {m : MethodId} {args : Array Value} {below : List Frame} {meth : Method} {c : Code} {Q : State → Prop} {E : EV} {nL pc : Nat} {lv lv' : List (Nat × Value)} {st : List Value} {S : PS} {cells slots : Nat} {cc : ByteArray} {own : String} {ret : Option FieldType}
theorem HP.free {H : Heap} {locs : List Loc} (hS : va_S (AE E) s.heap H locs) : ∀ q ∈ locs, (AE E) q.base := hS.2.2
theorem j_widen {k n : Nat} (h1 : cells ≤ k) (h2 : slots ≤ n) (K : J p l e R s m args below meth c Q E nL pc lv st S k n) : J p l e R s m args below meth c Q E nL pc lv st S cells slots :=
  fun H locs ls hH hS hl => W.widen h1 h2 (K H locs ls hH hS hl)
theorem j_locals (hlv : ∀ q ∈ lv', q ∈ lv) (K : J p l e R s m args below meth c Q E nL pc lv' st S cells slots) : J p l e R s m args below meth c Q E nL pc lv st S cells slots :=
  fun H locs ls hH hS hl => K H locs ls hH hS ⟨hl.1, hl.2.1, fun q hq => hl.2.2 q (hlv q hq)⟩
theorem j_eq {lv2 : List (Nat × Value)} {st2 : List Value} {S2 : PS} (h1 : lv = lv2) (h2 : st = st2) (h3 : S = S2) (K : J p l e R s m args below meth c Q E nL pc lv2 st2 S2 cells slots) : J p l e R s m args below meth c Q E nL pc lv st S cells slots := by rw [h1, h2, h3]; exact K
end FR
