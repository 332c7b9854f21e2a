/-! frames with a table of exceptions; contracts with one more thing known (X); the script's cells -/
def PX (E : EV) (av : List Value) (S : PS) (X : State → Prop) : Array Value → State → Prop := fun a U => PC E av S a U ∧ X U
def CTH (l : Launch) (y : MethodName) (cb : ByteArray) (mxL : Nat) (ret : Option FieldType) (hh : List (Nat × Nat × Nat × Nat)) (fr lo mc ms : Nat) (E : EV) (av : List Value) (S : PS) (X : State → Prop) (post : Option Value → PS → Prop) : Prop :=
  Met l y (.codeWith y cb mxL ret hh :: wsU) { frames := fr, cells := mc, slots := ms, locals := lo } (PX E av S X) (QC E post) mc ms (AE E)
def CTC (l : Launch) (y : MethodName) (cb : ByteArray) (mxL : Nat) (ret : Option FieldType) (fr lo mc ms : Nat) (E : EV) (av : List Value) (S : PS) (X : State → Prop) (post : Option Value → PS → Prop) : Prop :=
  Met l y (.code y cb mxL ret :: wsU) { frames := fr, cells := mc, slots := ms, locals := lo } (PX E av S X) (QC E post) mc ms (AE E)
def NX : String → State → State → Prop := fun _ _ _ => False
theorem CTH.of {l : Launch} {y : MethodName} {cb : ByteArray} {mxL fr lo mc ms : Nat} {ret : Option FieldType} {hh : List (Nat × Nat × Nat × Nat)} {E : EV} {av : List Value} {S : PS} {X : State → Prop} {post : Option Value → PS → Prop} (hy : plainName y.cls = true) (hlen : (lg_sl av).length ≤ mxL)
    (body : ∀ (p : Program) (e : Env) (s : State) (m : MethodId) (below : List Frame) (meth : Method) (c : Code), MC E p s m av.toArray meth c cb y.cls mxL ret → X s → c.exceptionTable.toList = tableOf hh →
      J p l e { frames := fr, cells := mc, slots := ms, locals := lo } s m av.toArray below meth c (vx_MQ below (QC E post) NX av.toArray s mc ms (AE E)) E mxL 0 (lv_args 0 av) [] S 0 0) : CTH l y cb mxL ret hh fr lo mc ms E av S X post := by
  have v : vx_Met l y (.codeWith y cb mxL ret hh :: wsU) { frames := fr, cells := mc, slots := ms, locals := lo } (PX E av S X) (QC E post) NX mc ms (AE E) := by
    refine vx_ofWH (cc := cb) (maxL := mxL) (ret := ret) hy rfl ?_
    intro p e s m args below meth c s₁ B hml hv
    obtain ⟨⟨rfl, hP, hV⟩, hX⟩ := hv
    have hts := atoms_spec (ws := .codeWith y cb mxL ret hh :: wsU) B.pre
    have hl := lv_entry av (n := mxL) hlen
    rw [lg_entry_eq]
    exact body p e s m below meth c ⟨B.exec, B.bytes, hml, findClass_of_methodNamed B.named, fun w hw => hts w (List.mem_cons_of_mem _ hw), hV, B.notSynchronized, hP.1, B.returns⟩ hX (vx_table (x := y) B (hts _ List.mem_cons_self)) s.heap [] _ hP va_S.rf hl
  intro p e ha hc hk s m args below hf hs hP hK
  obtain ⟨k, o, h1, h2, h3, h4⟩ := v p e ha hc hk s m args below hf hs hP hK
  rcases h4 with h4 | ⟨q, -, E', ce, L, hx, -⟩
  · exact ⟨k, o, h1, h2, h3, h4⟩
  · exact hx.elim
theorem CTC.of {l : Launch} {y : MethodName} {cb : ByteArray} {mxL fr lo mc ms : Nat} {ret : Option FieldType} {E : EV} {av : List Value} {S : PS} {X : State → Prop} {post : Option Value → PS → Prop} (hy : plainName y.cls = true) (hlen : (lg_sl av).length ≤ mxL)
    (body : ∀ (p : Program) (e : Env) (s : State) (m : MethodId) (below : List Frame) (meth : Method) (c : Code), MC E p s m av.toArray meth c cb y.cls mxL ret → X s →
      J p l e { frames := fr, cells := mc, slots := ms, locals := lo } s m av.toArray below meth c (MQ below (QC E post) av.toArray s mc ms (AE E)) E mxL 0 (lv_args 0 av) [] S 0 0) : CTC l y cb mxL ret fr lo mc ms E av S X post := by
  refine Met.ofW (cc := cb) (maxL := mxL) (ret := ret) hy rfl ?_
  intro p e s m args below meth c s₁ B hml hv
  obtain ⟨⟨rfl, hP, hV⟩, hX⟩ := hv
  have hts := atoms_spec (ws := .code y cb mxL ret :: wsU) B.pre
  have hl := lv_entry av (n := mxL) hlen
  rw [lg_entry_eq]
  exact body p e s m below meth c ⟨B.exec, B.bytes, hml, findClass_of_methodNamed B.named, fun w hw => hts w (List.mem_cons_of_mem _ hw), hV, B.notSynchronized, hP.1, B.returns⟩ hX s.heap [] _ hP va_S.rf hl
section CTX
variable {p : Program} {l : Launch} {e : Env} {R : Room} {s : State} {m : MethodId} {args : Array Value} {below : List Frame} {meth : Method} {c : Code} {Q : State → Prop} {E : EV} {nL pc : Nat} {lv lv' : List (Nat × Value)} {st st0 : List Value} {S S2 : PS} {cells slots : Nat} {cc : ByteArray} {own : String} {ret : Option FieldType}
theorem jh_ret {post : Option Value → PS → Prop} {XC : String → State → State → Prop} {mc ms : Nat} (K : J p l e R s m args below meth c (MQ below (QC E post) args s mc ms (AE E)) E nL pc lv st S cells slots) : J p l e R s m args below meth c (vx_MQ below (QC E post) XC args s mc ms (AE E)) E nL pc lv st S cells slots :=
  fun H locs ls hH hS hl => vx_ret (K H locs ls hH hS hl)
theorem jx_catch (M : MC E p s m args meth c cc own nL ret) {X name : String} (pre : List ExceptionTableEntry) (x : ExceptionTableEntry) (suf : List ExceptionTableEntry) (hsplit : c.exceptionTable.toList = pre ++ x :: suf)
    (hpass : ∀ z ∈ pre, covers z pc = false ∨ (z.catchType ≠ 0 ∧ ∃ nm : String, Cond.classLink own z.catchType nm ∈ wsU ∧ va_Nc X nm s)) (hx : covers x pc = true) (h0 : x.catchType ≠ 0) (hlink : Cond.classLink own x.catchType name ∈ wsU) (hcast : Cond.castable X name ∈ lw_tbl)
    (K : ∀ q : Nat, J p l e R s m args below meth c Q E nL x.handlerPc lv [.ref q] S cells slots) : JX p l e R s m args below meth c Q E nL pc lv st X S cells slots :=
  fun H locs ls q ce hH hS hl h1 h2 h3 => vx_catch M.hown pre x suf hsplit (fun z hz => (hpass z hz).imp id (fun ⟨a, nm, b, d⟩ => ⟨a, nm, M.hts _ b, d⟩)) hx h0 (M.hts _ hlink) (va_Nw.use rfl (M.vp.2.1 _ hcast rfl)) h1 h2 h3 (K q H locs ls hH hS hl)
/-- X may be given to a callee: it is blind to frames, and holds wherever nothing old has changed -/
def XG (E : EV) (s : State) (X : State → Prop) : Prop := FrameBlind (fun _ U => X U) ∧ ∀ (H : Heap) (locs : List Loc), va_S (AE E) s.heap H locs → ∀ U : State, U.heap = H → s.WarmedH U.vm → X U
theorem PX.blind {av : List Value} {X : State → Prop} (h : FrameBlind (fun _ U => X U)) : FrameBlind (PX E av S X) := fun a U g mk q => ⟨PC.blind a U g mk q.1, h a U g mk q.2⟩
theorem j_callSC (M : MC E p s m args meth c cc own nL ret) {y : MethodName} {cb : ByteArray} {mxL n fr lo mc ms index : Nat} {rt : Option FieldType} {As : List Value} {X : State → Prop} {post : Option Value → PS → Prop} (F : CFs y cb mxL rt n) (hl' : Cond.methodLink own index y ∈ wsU)
    (hC : CTC l y cb mxL rt fr lo mc ms E As S X post) (hX : XG E s X) (hn : As.length = n) (hR : fr + 1 ≤ R.frames ∧ 8 + (mxL + 11) + lo ≤ R.locals) (hW : (st.map fun v => v.category).sum ≤ 8) (hcs : cells + mc ≤ R.cells ∧ slots + ms ≤ R.slots)
    (hdg : decode cc pc = .ok (.invokestatic index, 3)) (hst : st0 = As.reverse ++ st) (K : ∀ (v : Option Value) (u : PS), post v u → J p l e R s m args below meth c Q E nL (pc + 3) lv (v.toList ++ st) u (cells + mc) (slots + ms)) : J p l e R s m args below meth c Q E nL pc lv st0 S cells slots := by
  intro H locs ls hH hS hl
  obtain ⟨f1, f2, f4, f5⟩ := F
  have hG : GoodIn wsU (va_wsS own index y (.code y cb mxL rt :: wsU)) := gU_of fun w hw => by
    rcases List.mem_append.mp hw with h | h
    · simp only [List.mem_cons, List.not_mem_nil, or_false] at h
      rcases h with rfl | rfl | rfl
      · exact hl'
      · exact f2
      · exact f4
    · rcases List.mem_cons.mp h with rfl | h
      · exact f1
      · exact h
  refine ct_go (a := As.toArray) (va_runS ⟨M.hx, M.hb, M.hml, M.hown, M.hts⟩ hC (va_cwS n M.hts hG rfl rfl rfl f5 hR) ⟨PX.blind hX.1, fun U hU hW2 => ⟨M.pre hH hS _ U hU hW2, hX.2 H locs hS U hU hW2⟩⟩ rfl hn hl.1 hst (lv_room hW) hdg hcs) hS (fun v u H1 locs1 hp hH1 hS1 => K v u hp H1 locs1 ls hH1 hS1 hl)
theorem j_callSH (M : MC E p s m args meth c cc own nL ret) {y : MethodName} {cb : ByteArray} {mxL n fr lo mc ms index : Nat} {rt : Option FieldType} {hh : List (Nat × Nat × Nat × Nat)} {As : List Value} {X : State → Prop} {post : Option Value → PS → Prop}
    (F : Cond.codeWith y cb mxL rt hh ∈ wsU ∧ Cond.static y ∈ wsU ∧ Cond.initialized y.cls ∈ wsU ∧ (y.cls ≠ "java/lang/invoke/MethodHandle" ∧ y.cls ≠ "java/lang/invoke/VarHandle" ∧ (parseMethodDescriptor y.desc).map (fun d => d.parameters.length) = some n)) (hl' : Cond.methodLink own index y ∈ wsU)
    (hC : CTH l y cb mxL rt hh fr lo mc ms E As S X post) (hX : XG E s X) (hn : As.length = n) (hR : fr + 1 ≤ R.frames ∧ 8 + (mxL + 11) + lo ≤ R.locals) (hW : (st.map fun v => v.category).sum ≤ 8) (hcs : cells + mc ≤ R.cells ∧ slots + ms ≤ R.slots)
    (hdg : decode cc pc = .ok (.invokestatic index, 3)) (hst : st0 = As.reverse ++ st) (K : ∀ (v : Option Value) (u : PS), post v u → J p l e R s m args below meth c Q E nL (pc + 3) lv (v.toList ++ st) u (cells + mc) (slots + ms)) : J p l e R s m args below meth c Q E nL pc lv st0 S cells slots := by
  intro H locs ls hH hS hl
  obtain ⟨f1, f2, f4, f5⟩ := F
  have hG : GoodIn wsU (va_wsS own index y (.codeWith y cb mxL rt hh :: wsU)) := gU_of fun w hw => by
    rcases List.mem_append.mp hw with h | h
    · simp only [List.mem_cons, List.not_mem_nil, or_false] at h
      rcases h with rfl | rfl | rfl
      · exact hl'
      · exact f2
      · exact f4
    · rcases List.mem_cons.mp h with rfl | h
      · exact f1
      · exact h
  refine ct_go (a := As.toArray) (vx_runSW ⟨M.hx, M.hb, M.hml, M.hown, M.hts⟩ hC (vx_cwSW n M.hts hG rfl rfl rfl f5 hR) ⟨PX.blind hX.1, fun U hU hW2 => ⟨M.pre hH hS _ U hU hW2, hX.2 H locs hS U hU hW2⟩⟩ rfl hn hl.1 hst (lv_room hW) hdg hcs) hS (fun v u H1 locs1 hp hH1 hS1 => K v u hp H1 locs1 ls hH1 hS1 hl)
end CTX
/-! the script's cells -/
def XS (E : EV) (b L : Nat) (xs : Nat → Int32) : State → Prop := fun U => va_T .int b L (fun j => .int (xs j)) (AE E) U U.heap
theorem XS.ok {E : EV} {b L : Nat} {xs : Nat → Int32} {s : State} (h : XS E b L xs s) : XG E s (XS E b L xs) :=
  ⟨fun _ U _ _ hU => va_T.moved (u := U) (Vm.Alike.refl U.vm) hU, fun H locs hS U hU hW => by
    subst hU
    exact va_T.kept (va_T.moved hW.alike h) (fun a h1 h2 => hS.2.1 a h1 h2)⟩
theorem cf_L_cell : CFs yL_cell cL_cell 2 (some .int) 2 := ⟨wC_L_cell, wS_L_cell, wN_L, by decide +kernel⟩
theorem c_cell {l : Launch} {E : EV} {S : PS} {b L k : Nat} {xs : Nat → Int32} (hL : L ≤ 260) (hk : k < 2 ^ 31) : CTC l yL_cell cL_cell 2 (some .int) 0 0 0 0 E [.ref b, .int (nI k)] S (XS E b L xs) (fun v u => (∃ r, v = some (.int r)) ∧ u = S) := by
  refine CTC.of (by decide) (Nat.le_of_ble_eq_true rfl) ?_
  intro p e s m below meth c M hX
  have M : MC E p s m _ meth c cL_cell RL 2 (some .int) := M
  show J p l e _ s m _ below meth c _ E 2 0 [(0, .ref b), (1, .int (nI k))] [] S 0 0
  refine j_iload_n M dL_cell_0 rfl ?_
  refine j_aload_n M dL_cell_1 rfl ?_
  have alen : ∀ {st : List Value} (K : J p l e { frames := 0, cells := 0, slots := 0, locals := 0 } s m ([Value.ref b, Value.int (nI k)]).toArray below meth c (MQ below (QC E (fun v u => (∃ r, v = some (.int r)) ∧ u = S)) ([Value.ref b, Value.int (nI k)]).toArray s 0 0 (AE E)) E 2 3 [(0, .ref b), (1, .int (nI k))] (.int (nI L) :: st) S 0 0), J p l e { frames := 0, cells := 0, slots := 0, locals := 0 } s m ([Value.ref b, Value.int (nI k)]).toArray below meth c (MQ below (QC E (fun v u => (∃ r, v = some (.int r)) ∧ u = S)) ([Value.ref b, Value.int (nI k)]).toArray s 0 0 (AE E)) E 2 2 [(0, .ref b), (1, .int (nI k))] (.ref b :: st) S 0 0 :=
    fun K H locs ls hH hS hl => va_tlen M.hx M.hb hX hS rfl dL_cell_2 (K H locs ls hH hS hl)
  refine alen ?_
  refine j_icmp_ge (tgt := 12) M dL_cell_3 (by decide) (fun c1 => ?_) (fun c1 => ?_)
  · refine j_ldc M wK_L_8 dL_cell_12 ?_
    refine j_iload_n M dL_cell_14 rfl ?_
    refine j_iconst (v := 3) M dL_cell_15 (by decide) ?_
    refine j_iadd M dL_cell_16 ?_
    refine j_imul M dL_cell_17 ?_
    exact j_iret M dL_cell_18 (Nat.le_refl _) (Nat.le_refl _) ⟨⟨_, rfl⟩, rfl⟩
  · rw [nI_leI (by omega) hk] at c1
    refine j_aload_n M dL_cell_6 rfl ?_
    refine j_iload_n M dL_cell_7 rfl ?_
    have ald : ∀ (K : J p l e { frames := 0, cells := 0, slots := 0, locals := 0 } s m ([Value.ref b, Value.int (nI k)]).toArray below meth c (MQ below (QC E (fun v u => (∃ r, v = some (.int r)) ∧ u = S)) ([Value.ref b, Value.int (nI k)]).toArray s 0 0 (AE E)) E 2 9 [(0, .ref b), (1, .int (nI k))] [.int (xs (nI k).toNatClampNeg)] S 0 0), J p l e { frames := 0, cells := 0, slots := 0, locals := 0 } s m ([Value.ref b, Value.int (nI k)]).toArray below meth c (MQ below (QC E (fun v u => (∃ r, v = some (.int r)) ∧ u = S)) ([Value.ref b, Value.int (nI k)]).toArray s 0 0 (AE E)) E 2 8 [(0, .ref b), (1, .int (nI k))] [.int (nI k), .ref b] S 0 0 :=
      fun K H locs ls hH hS hl => va_ti M.hx M.hb hX hS (vp_in_nI (by omega) (by omega)) rfl dL_cell_8 (K H locs ls hH hS hl)
    refine ald ?_
    refine j_goto (tgt := 18) M dL_cell_9 (by decide) ?_
    exact j_iret M dL_cell_18 (Nat.le_refl _) (Nat.le_refl _) ⟨⟨_, rfl⟩, rfl⟩
/-! what the machine says of the three exceptions -/
def NC3 (U : State) : Prop := va_Nc "java/lang/IllegalArgumentException" "java/lang/IndexOutOfBoundsException" U ∧ va_Nc "java/lang/IllegalStateException" "java/lang/IndexOutOfBoundsException" U ∧ va_Nc "java/lang/IllegalStateException" "java/lang/IllegalArgumentException" U
theorem NC3.ok {E : EV} {s : State} (h : NC3 s) : XG E s NC3 :=
  ⟨fun _ U g mk hU => ⟨va_Nc.moved (u := U) (Vm.Alike.refl U.vm) hU.1, va_Nc.moved (u := U) (Vm.Alike.refl U.vm) hU.2.1, va_Nc.moved (u := U) (Vm.Alike.refl U.vm) hU.2.2⟩, fun H locs hS U hU hW => ⟨va_Nc.moved hW.alike h.1, va_Nc.moved hW.alike h.2.1, va_Nc.moved hW.alike h.2.2⟩⟩
