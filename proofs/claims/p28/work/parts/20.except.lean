/-! methods that may throw: CX, their calls, their throws -/
def XX (E : EV) (px : String → PS → Prop) : String → State → State → Prop := fun X st t => (∃ u : PS, px X u ∧ HP E u t.heap) ∧ va_F (AE E) st t
def CX (l : Launch) (y : MethodName) (cb : ByteArray) (mxL : Nat) (ret : Option FieldType) (fr lo mc ms : Nat) (E : EV) (av : List Value) (S : PS) (post : Option Value → PS → Prop) (px : String → PS → Prop) : Prop :=
  vx_Met l y (.code y cb mxL ret :: wsU) { frames := fr, cells := mc, slots := ms, locals := lo } (PC E av S) (QC E post) (XX E px) mc ms (AE E)
theorem CX.of {l : Launch} {y : MethodName} {cb : ByteArray} {mxL fr lo mc ms : Nat} {ret : Option FieldType} {E : EV} {av : List Value} {S : PS} {post : Option Value → PS → Prop} {px : String → PS → Prop} (hy : plainName y.cls = true) (hlen : (lg_sl av).length ≤ mxL)
    (body : ∀ (p : Program) (e : Env) (s : State) (m : MethodId) (below : List Frame) (meth : Method) (c : Code), MC E p s m av.toArray meth c cb y.cls mxL ret → (∀ x ∈ c.exceptionTable.toList, False) →
      J p l e { frames := fr, cells := mc, slots := ms, locals := lo } s m av.toArray below meth c (vx_MQ below (QC E post) (XX E px) av.toArray s mc ms (AE E)) E mxL 0 (lv_args 0 av) [] S 0 0) : CX l y cb mxL ret fr lo mc ms E av S post px := by
  refine vx_ofW (cc := cb) (maxL := mxL) (ret := ret) hy rfl ?_
  intro p e s m args below meth c s₁ B hml ht hv
  obtain ⟨rfl, hP, hV⟩ := hv
  have hts := atoms_spec (ws := .code y cb mxL ret :: wsU) B.pre
  have hl := lv_entry av (n := mxL) hlen
  rw [lg_entry_eq]
  exact body p e s m below meth c ⟨B.exec, B.bytes, hml, findClass_of_methodNamed B.named, fun w hw => hts w (List.mem_cons_of_mem _ hw), hV, B.notSynchronized, hP.1, B.returns⟩ ht s.heap [] _ hP va_S.rf hl
theorem HP.ext {E : EV} {S : PS} {H H1 : Heap} (h : HP E S H) (h1 : H.size ≤ H1.size) (h2 : ∀ q : Nat, q < H.size → H1[q]? = H[q]?) : HP E S H1 :=
  ⟨Nat.le_trans h.1 h1, h.2.1.kept fun k x hx => h2 x.1 ((h.2.1 k x hx).lt), h.2.2⟩
section EX
variable {p : Program} {l : Launch} {e : Env} {R : Room} {s : State} {m : MethodId} {args : Array Value} {below : List Frame} {meth : Method} {c : Code} {Q : State → Prop} {E : EV} {nL pc : Nat} {lv lv' : List (Nat × Value)} {st st0 : List Value} {S S2 : PS} {cells slots : Nat} {cc : ByteArray} {own : String} {ret : Option FieldType}
theorem jx_ret {post : Option Value → PS → Prop} {px : String → PS → Prop} {mc ms : Nat} (K : J p l e R s m args below meth c (MQ below (QC E post) args s mc ms (AE E)) E nL pc lv st S cells slots) : J p l e R s m args below meth c (vx_MQ below (QC E post) (XX E px) args s mc ms (AE E)) E nL pc lv st S cells slots :=
  fun H locs ls hH hS hl => vx_ret (K H locs ls hH hS hl)
/-- an exception of class X is under way, thrown at pc -/
def JX (p : Program) (l : Launch) (e : Env) (R : Room) (s : State) (m : MethodId) (args : Array Value) (below : List Frame) (meth : Method) (c : Code) (Q : State → Prop) (E : EV) (nL pc : Nat) (lv : List (Nat × Value)) (st : List Value) (X : String) (S : PS) (cells slots : Nat) : Prop :=
  ∀ (H : Heap) (locs : List Loc) (ls : Array Slot) (q : Addr) (ce : Cell), HP E S H → va_S (AE E) s.heap H locs → lv_has ls nL lv → H[q]? = some ce → ce.vm = .none → s.vm.findClass X = some ce.cls → vx_W p l e R s m args below meth c H locs cells slots Q (F0 m pc ls st) q
theorem jx_out {X : String} {post : Option Value → PS → Prop} {px : String → PS → Prop} {mc ms : Nat} (M : MC E p s m args meth c cc own nL ret) (ht : ∀ x ∈ c.exceptionTable.toList, False) (hp : px X S) (hc : cells ≤ mc) (hs : slots ≤ ms) : JX p l e R s m args below meth c (vx_MQ below (QC E post) (XX E px) args s mc ms (AE E)) E nL pc lv st X S cells slots :=
  fun H locs ls q ce hH hS hl h1 h2 h3 => vx_out (fun x hx => (ht x hx).elim) M.hlk h1 h2 h3 (fun t ht2 _ => ⟨⟨S, hp, by rw [ht2]; exact hH⟩, hS.F ht2⟩) hS.2.2 hc hs
theorem at_word (M : MC E p s m args meth c cc own nL ret) {L : List Cond} (h : ∀ w ∈ L, w ∈ lw_tbl ∧ (goodWord w = true ∨ isNw w = true)) : ∀ w ∈ L, w.before args s = true := by
  intro w hw
  obtain ⟨h1, h2 | h2⟩ := h w hw
  · exact M.hts w (List.mem_filter.mpr ⟨h1, h2⟩)
  · refine va_Nw.use ?_ (M.vp.2.1 w h1 h2)
    cases w <;> first | (simp [isNw] at h2; done) | rfl
theorem jx_throw {post : Option Value → PS → Prop} {px : String → PS → Prop} {mc ms : Nat} (M : MC E p s m args meth c cc own nL ret) (hlt : l.stackTraces = false) {X text : String} {names : List String} {ik is ic : Nat} (hX : Bundle.fit X = true) (hnames : ∀ n ∈ names, Bundle.fit n = true)
    (hk : Cond.classLink own ik X ∈ wsU) (hini : Cond.initialized X ∈ wsU) (hstr : Cond.stringRef own is text ∈ lw_tbl) (hat : ∀ w ∈ vx_atS own ic X names, w ∈ lw_tbl ∧ (goodWord w = true ∨ isNw w = true)) (hgood : ∀ w ∈ Cond.classLink own ik X :: Cond.initialized X :: vx_atS own ic X names, vx_ot w = true)
    (d0 : decode cc pc = .ok (.new ik, 3)) (d3 : decode cc (pc + 3) = .ok (.dup, 1)) (d4 : decode cc (pc + 4) = .ok (.ldc is, 2)) (d6 : decode cc (pc + 6) = .ok (.invokespecial ic, 3)) (d9 : decode cc (pc + 9) = .ok (.athrow, 1))
    (ht : ∀ x ∈ c.exceptionTable.toList, False) (hRf : names.length + 3 < R.frames) (hRl : (st.map fun v => v.category).sum + (13 * (names.length + 1) + 43) ≤ R.locals) (hRc : cells + 1 ≤ R.cells) (hRs : slots + 6 ≤ R.slots) (hp : px X S) (hc : cells + 1 ≤ mc) (hs : slots + 6 ≤ ms) :
    J p l e R s m args below meth c (vx_MQ below (QC E post) (XX E px) args s mc ms (AE E)) E nL pc lv st S cells slots := by
  intro H locs ls hH hS hl
  obtain ⟨sa, hsa⟩ := M.vp.2.2.2.2 _ _ _ hstr
  exact vx_throwS M.hx M.hb hlt M.hown hX hnames (M.hts _ hk) (M.hts _ hini) hsa (at_word M hat) hgood M.vp.2.2.2.1.1 M.vp.2.2.2.1.2 hS (hl.1.trans M.hml.symm) d0 d3 d4 d6 d9 (fun x hx => (ht x hx).elim) hRf hRl hRc hRs M.hlk
    (fun t _ h1 h2 => ⟨⟨S, hp, hH.ext h1 h2⟩, Nat.le_trans hS.1 h1, fun q hq hA => (h2 q (Nat.lt_of_lt_of_le hq hS.1)).trans (hS.2.1 q hq hA)⟩) hS.2.2 hc hs
theorem jx_throwW {post : Option Value → PS → Prop} {px : String → PS → Prop} {mc ms : Nat} (M : MC E p s m args meth c cc own nL ret) (hlt : l.stackTraces = false) {X text : String} {names : List String} {ik is ic : Nat} (hX : Bundle.fit X = true) (hnames : ∀ n ∈ names, Bundle.fit n = true)
    (hk : Cond.classLink own ik X ∈ wsU) (hini : Cond.initialized X ∈ wsU) (hstr : Cond.stringRef own is text ∈ lw_tbl) (hat : ∀ w ∈ vx_atS own ic X names, w ∈ lw_tbl ∧ (goodWord w = true ∨ isNw w = true)) (hgood : ∀ w ∈ Cond.classLink own ik X :: Cond.initialized X :: vx_atS own ic X names, vx_ot w = true)
    (d0 : decode cc pc = .ok (.new ik, 3)) (d3 : decode cc (pc + 3) = .ok (.dup, 1)) (d4 : decode cc (pc + 4) = .ok (.ldc_w is, 3)) (d7 : decode cc (pc + 7) = .ok (.invokespecial ic, 3)) (d10 : decode cc (pc + 10) = .ok (.athrow, 1))
    (ht : ∀ x ∈ c.exceptionTable.toList, False) (hRf : names.length + 3 < R.frames) (hRl : (st.map fun v => v.category).sum + (13 * (names.length + 1) + 43) ≤ R.locals) (hRc : cells + 1 ≤ R.cells) (hRs : slots + 6 ≤ R.slots) (hp : px X S) (hc : cells + 1 ≤ mc) (hs : slots + 6 ≤ ms) :
    J p l e R s m args below meth c (vx_MQ below (QC E post) (XX E px) args s mc ms (AE E)) E nL pc lv st S cells slots := by
  intro H locs ls hH hS hl
  obtain ⟨sa, hsa⟩ := M.vp.2.2.2.2 _ _ _ hstr
  exact vx_throwSW M.hx M.hb hlt M.hown hX hnames (M.hts _ hk) (M.hts _ hini) hsa (at_word M hat) hgood M.vp.2.2.2.1.1 M.vp.2.2.2.1.2 hS (hl.1.trans M.hml.symm) d0 d3 d4 d7 d10 (fun x hx => (ht x hx).elim) hRf hRl hRc hRs M.hlk
    (fun t _ h1 h2 => ⟨⟨S, hp, hH.ext h1 h2⟩, Nat.le_trans hS.1 h1, fun q hq hA => (h2 q (Nat.lt_of_lt_of_le hq hS.1)).trans (hS.2.1 q hq hA)⟩) hS.2.2 hc hs
theorem cx_go {H : Heap} {locs : List Loc} {ls : Array Slot} {mc ms : Nat} {post : Option Value → PS → Prop} {px : String → PS → Prop} {a : Array Value} (hl : lv_has ls nL lv) (hr : vx_Run p l e R s m args below meth c H locs cells slots mc ms (F0 m pc ls st0) st (QC E post a) (XX E px) (AE E)) (hS : va_S (AE E) s.heap H locs)
    (K : ∀ (v : Option Value) (u : PS), post v u → J p l e R s m args below meth c Q E nL (pc + 3) lv (v.toList ++ st) u (cells + mc) (slots + ms))
    (KX : ∀ (X : String) (u : PS), px X u → JX p l e R s m args below meth c Q E nL pc lv st X u (cells + mc) (slots + ms)) : W p l e R s m args below meth c H locs cells slots Q (F0 m pc ls st0) := by
  intro T hT X
  rcases hr T hT X with ⟨v, st₀, t, T', L, h0, X', hL, e1, e2, ⟨⟨r, u, hv, hp, hb⟩, hz, hk⟩, stp⟩ | ⟨q, st₀, t, T', L, Xn, ce, h0, X', hL, e1, e2, ⟨⟨u, hp, hb⟩, hz, hk⟩, hce, hcv, hcl, stp⟩
  · cases hv
    rw [h0] at hz hk
    obtain ⟨t2, a1, b1⟩ := K _ u hp T'.heap (locs ++ L) ls (by rw [e1]; exact hb)
      ⟨Nat.le_trans hS.1 (by rw [e1]; exact hz), fun q h1 h2 => by rw [e1, hk q (Nat.lt_of_lt_of_le h1 hS.1) h2]; exact hS.2.1 q h1 h2, fun q hq => by
        rcases List.mem_append.mp hq with h | h
        · exact hS.2.2 q h
        · exact hL q h⟩ hl T' rfl X'
    exact ⟨t2, stp t2 a1, b1⟩
  · rw [h0] at hz hk
    obtain ⟨t2, a1, b1⟩ := KX Xn u hp T'.heap (locs ++ L) ls q ce (by rw [e1]; exact hb)
      ⟨Nat.le_trans hS.1 (by rw [e1]; exact hz), fun q h1 h2 => by rw [e1, hk q (Nat.lt_of_lt_of_le h1 hS.1) h2]; exact hS.2.1 q h1 h2, fun q hq => by
        rcases List.mem_append.mp hq with h | h
        · exact hS.2.2 q h
        · exact hL q h⟩ hl (by rw [e1]; exact hce) hcv hcl T' rfl X'
    exact ⟨t2, stp.trans a1, b1⟩
theorem jx_callV (M : MC E p s m args meth c cc own nL ret) {y : MethodName} {C : String} {cb : ByteArray} {mxL n fr lo mc ms index b ci N : Nat} {rt : Option FieldType} {As : List Value} {post : Option Value → PS → Prop} {px : String → PS → Prop} {fs : List Value} {T : u_T} (F : CFv y C cb mxL rt n) (hl' : Cond.methodLink own index y ∈ wsU)
    (hC : CX l y cb mxL rt fr lo mc ms E (.ref b :: As) S post px) (hbL : b ∈ sL S) (hF : pF E S b = .inr (ci, fs)) (hci : vwCl[ci]? = some (C, T, N)) (hn : As.length = n) (hR : fr + 1 ≤ R.frames ∧ 8 + (mxL + 11) + lo ≤ R.locals) (hW : (st.map fun v => v.category).sum ≤ 8) (hcs : cells + mc ≤ R.cells ∧ slots + ms ≤ R.slots)
    (hdg : decode cc pc = .ok (.invokevirtual index, 3)) (hst : st0 = As.reverse ++ .ref b :: st) (K : ∀ (v : Option Value) (u : PS), post v u → J p l e R s m args below meth c Q E nL (pc + 3) lv (v.toList ++ st) u (cells + mc) (slots + ms))
    (KX : ∀ (X : String) (u : PS), px X u → JX p l e R s m args below meth c Q E nL pc lv st X u (cells + mc) (slots + ms)) : J p l e R s m args below meth c Q E nL pc lv st0 S cells slots := by
  intro H locs ls hH hS hl
  obtain ⟨f1, f2, f3, f4, f5⟩ := F
  obtain ⟨q0, hq⟩ := pGet (E := E) hbL
  rw [hF] at hq
  have hG : GoodIn wsU (wsV own index C y (.code y cb mxL rt :: wsU)) := gU_of fun w hw => by
    rcases List.mem_append.mp hw with h | h
    · simp only [List.mem_cons, List.not_mem_nil, or_false] at h
      rcases h with rfl | rfl | rfl | rfl
      · exact hl'
      · exact f2
      · exact f3
      · exact f4
    · rcases List.mem_cons.mp h with rfl | h
      · exact f1
      · exact h
  exact cx_go (a := (Value.ref b :: As).toArray) hl (vx_runV ⟨M.hx, M.hb, M.hml, M.hown, M.hts⟩ hC (cwV n M.hts hG rfl rfl rfl f5 hR) ⟨PC.blind, va_recv M.hK hH.2.1 hci hq, M.pre hH hS _⟩ rfl hn hl.1 hst (lv_room hW) hdg hcs) hS K KX
theorem jx_callS (M : MC E p s m args meth c cc own nL ret) {y : MethodName} {cb : ByteArray} {mxL n fr lo mc ms index : Nat} {rt : Option FieldType} {As : List Value} {post : Option Value → PS → Prop} {px : String → PS → Prop} (F : CFs y cb mxL rt n) (hl' : Cond.methodLink own index y ∈ wsU)
    (hC : CX l y cb mxL rt fr lo mc ms E As S post px) (hn : As.length = n) (hR : fr + 1 ≤ R.frames ∧ 8 + (mxL + 11) + lo ≤ R.locals) (hW : (st.map fun v => v.category).sum ≤ 8) (hcs : cells + mc ≤ R.cells ∧ slots + ms ≤ R.slots)
    (hdg : decode cc pc = .ok (.invokestatic index, 3)) (hst : st0 = As.reverse ++ st) (K : ∀ (v : Option Value) (u : PS), post v u → J p l e R s m args below meth c Q E nL (pc + 3) lv (v.toList ++ st) u (cells + mc) (slots + ms))
    (KX : ∀ (X : String) (u : PS), px X u → JX p l e R s m args below meth c Q E nL pc lv st X u (cells + mc) (slots + ms)) : J p l e R s m args below meth c Q E nL pc lv st0 S cells slots := by
  intro H locs ls hH hS hl
  obtain ⟨f1, f2, f4, f5⟩ := F
  have hG : GoodIn wsU (va_wsS own index y (.code y cb mxL rt :: wsU)) := gU_of fun w hw => by
    rcases List.mem_append.mp hw with h | h
    · simp only [List.mem_cons, List.not_mem_nil, or_false] at h
      rcases h with rfl | rfl | rfl
      · exact hl'
      · exact f2
      · exact f4
    · rcases List.mem_cons.mp h with rfl | h
      · exact f1
      · exact h
  exact cx_go (a := As.toArray) hl (vx_runS ⟨M.hx, M.hb, M.hml, M.hown, M.hts⟩ hC (va_cwS n M.hts hG rfl rfl rfl f5 hR) ⟨PC.blind, M.pre hH hS _⟩ rfl hn hl.1 hst (lv_room hW) hdg hcs) hS K KX
end EX
theorem at_IAE : ∀ w ∈ vx_atS RX7 205 "java/lang/IllegalArgumentException" ["java/lang/RuntimeException", "java/lang/Exception"], w ∈ lw_tbl ∧ (goodWord w = true ∨ isNw w = true) := by decide +kernel
theorem at_IOB : ∀ w ∈ vx_atS RX7 262 "java/lang/IndexOutOfBoundsException" ["java/lang/RuntimeException", "java/lang/Exception"], w ∈ lw_tbl ∧ (goodWord w = true ∨ isNw w = true) := by decide +kernel
theorem at_ISE : ∀ w ∈ vx_atS RX7 62 "java/lang/IllegalStateException" ["java/lang/RuntimeException", "java/lang/Exception"], w ∈ lw_tbl ∧ (goodWord w = true ∨ isNw w = true) := by decide +kernel
theorem ag_IAE : ∀ w ∈ Cond.classLink RX7 201 "java/lang/IllegalArgumentException" :: Cond.initialized "java/lang/IllegalArgumentException" :: vx_atS RX7 205 "java/lang/IllegalArgumentException" ["java/lang/RuntimeException", "java/lang/Exception"], vx_ot w = true := by decide +kernel
theorem ag_IOB : ∀ w ∈ Cond.classLink RX7 258 "java/lang/IndexOutOfBoundsException" :: Cond.initialized "java/lang/IndexOutOfBoundsException" :: vx_atS RX7 262 "java/lang/IndexOutOfBoundsException" ["java/lang/RuntimeException", "java/lang/Exception"], vx_ot w = true := by decide +kernel
theorem ag_ISE : ∀ w ∈ Cond.classLink RX7 58 "java/lang/IllegalStateException" :: Cond.initialized "java/lang/IllegalStateException" :: vx_atS RX7 62 "java/lang/IllegalStateException" ["java/lang/RuntimeException", "java/lang/Exception"], vx_ot w = true := by decide +kernel
theorem af_names : ∀ n ∈ ["java/lang/RuntimeException", "java/lang/Exception"], Bundle.fit n = true := by decide +kernel
