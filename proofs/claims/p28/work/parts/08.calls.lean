/-! calls, returns, what is made, in J's words -/
abbrev imax (x y : Int32) : Int32 := if x < y then y else x
abbrev imin (x y : Int32) : Int32 := if y < x then y else x
abbrev iabs (x : Int32) : Int32 := if 0 ≤ x then x else 0 - x
theorem gU_of {ws : List Cond} (h : ∀ w ∈ ws, w ∈ wsU) : GoodIn wsU ws := fun w hw => ⟨h w hw, good_of_word (uG w (h w hw))⟩
/-- what a call of a method needs of the tables, whoever calls -/
def CFv (y : MethodName) (C : String) (cb : ByteArray) (mxL : Nat) (ret : Option FieldType) (n : Nat) : Prop :=
  Cond.code y cb mxL ret ∈ wsU ∧ Cond.instanceMethod y ∈ wsU ∧ Cond.selects C y y ∈ wsU ∧ Cond.initialized C ∈ wsU ∧ (y.cls = C ∧ y.cls ≠ "java/lang/invoke/MethodHandle" ∧ y.cls ≠ "java/lang/invoke/VarHandle" ∧ (parseMethodDescriptor y.desc).map (fun d => d.parameters.length) = some n)
def CFs (y : MethodName) (cb : ByteArray) (mxL : Nat) (ret : Option FieldType) (n : Nat) : Prop :=
  Cond.code y cb mxL ret ∈ wsU ∧ Cond.static y ∈ wsU ∧ Cond.initialized y.cls ∈ wsU ∧ (y.cls ≠ "java/lang/invoke/MethodHandle" ∧ y.cls ≠ "java/lang/invoke/VarHandle" ∧ (parseMethodDescriptor y.desc).map (fun d => d.parameters.length) = some n)
def CFi (y : MethodName) (cb : ByteArray) (mxL : Nat) (n : Nat) : Prop :=
  Cond.code y cb mxL none ∈ wsU ∧ Cond.instanceMethod y ∈ wsU ∧ Cond.initialized y.cls ∈ wsU ∧ y.name = "<init>" ∧ (y.cls ≠ "java/lang/invoke/MethodHandle" ∧ y.cls ≠ "java/lang/invoke/VarHandle" ∧ (parseMethodDescriptor y.desc).map (fun d => d.parameters.length) = some n)
theorem notin_push {E : EV} {S : PS} {A : Nat → Prop} {q : Nat} {e : va_E} (hD : va_D A (pool E S ++ [(q, e)])) : q ∉ sL S := by
  intro h
  obtain ⟨k, hk⟩ := pGet (E := E) h
  have hlt : k < (pool E S).length := (List.getElem?_eq_some_iff.mp hk).1
  have h1 : (pool E S ++ [(q, e)])[k]? = some (q, pF E S q) := by rw [List.getElem?_append_left hlt]; exact hk
  have h2 : (pool E S ++ [(q, e)])[(pool E S).length]? = some (q, e) := by rw [List.getElem?_append_right (Nat.le_refl _)]; simp
  have := hD.1 _ _ _ _ h1 h2 rfl
  omega
section CR
variable {p : Program} {l : Launch} {e : Env} {R : Room} {s : State} {m : MethodId} {args : Array Value} {below : List Frame} {meth : Method} {c : Code} {Q : State → Prop} {E : EV} {nL pc : Nat} {lv lv' : List (Nat × Value)} {st st0 : List Value} {S : PS} {cells slots : Nat} {cc : ByteArray} {own : String} {ret : Option FieldType}
theorem ct_go {H : Heap} {locs : List Loc} {ls : Array Slot} {mc ms : Nat} {post : Option Value → PS → Prop} {a : Array Value} (hr : va_Run p l e R s m args below meth c H locs cells slots mc ms (F0 m pc ls st0) st (QC E post a) (AE E)) (hS : va_S (AE E) s.heap H locs)
    (kk : ∀ (v : Option Value) (u : PS) (H1 : Heap) (locs1 : List Loc), post v u → HP E u H1 → va_S (AE E) s.heap H1 locs1 → W p l e R s m args below meth c H1 locs1 (cells + mc) (slots + ms) Q (F0 m (pc + 3) ls (v.toList ++ st))) : W p l e R s m args below meth c H locs cells slots Q (F0 m pc ls st0) := by
  intro T hT X
  obtain ⟨v, st₀, t, T', L, h0, X', hL, e1, e2, ⟨⟨r, u, hv, hp, hb⟩, hz, hk⟩, stp⟩ := hr T hT X
  cases hv
  rw [h0] at hz hk
  obtain ⟨t2, a1, b1⟩ := kk _ u T'.heap (locs ++ L) hp (by rw [e1]; exact hb)
    ⟨Nat.le_trans hS.1 (by rw [e1]; exact hz), fun q h1 h2 => by rw [e1, hk q (Nat.lt_of_lt_of_le h1 hS.1) h2]; exact hS.2.1 q h1 h2, fun q hq => by
      rcases List.mem_append.mp hq with h | h
      · exact hS.2.2 q h
      · exact hL q h⟩ T' rfl X'
  exact ⟨t2, stp t2 a1, b1⟩
theorem MC.pre (M : MC E p s m args meth c cc own nL ret) {H : Heap} {locs : List Loc} (hH : HP E S H) (hS : va_S (AE E) s.heap H locs) (av : List Value) : ∀ U : State, U.heap = H → s.WarmedH U.vm → PC E av S av.toArray U :=
  fun U hU hW => ⟨rfl, by rw [hU]; exact hH, by rw [hU]; exact M.vp.go hW (fun q h1 h2 => hS.2.1 q h1 h2)⟩
theorem j_callV (M : MC E p s m args meth c cc own nL ret) {y : MethodName} {C : String} {cb : ByteArray} {mxL n fr lo mc ms index b ci N : Nat} {rt : Option FieldType} {As : List Value} {post : Option Value → PS → Prop} {fs : List Value} {T : u_T} (F : CFv y C cb mxL rt n) (hl' : Cond.methodLink own index y ∈ wsU)
    (hC : CT l y cb mxL rt fr lo mc ms E (.ref b :: As) S post) (hbL : b ∈ sL S) (hF : pF E S b = .inr (ci, fs)) (hci : vwCl[ci]? = some (C, T, N)) (hn : As.length = n) (hR : fr + 1 ≤ R.frames ∧ 8 + (mxL + 11) + lo ≤ R.locals) (hW : (st.map fun v => v.category).sum ≤ 8) (hcs : cells + mc ≤ R.cells ∧ slots + ms ≤ R.slots)
    (hdg : decode cc pc = .ok (.invokevirtual index, 3)) (hst : st0 = As.reverse ++ .ref b :: st) (K : ∀ (v : Option Value) (u : PS), post v u → J p l e R s m args below meth c Q E nL (pc + 3) lv (v.toList ++ st) u (cells + mc) (slots + ms)) : J p l e R s m args below meth c Q E nL pc lv st0 S cells slots := by
  intro H locs ls hH hS hl
  obtain ⟨f1, f2, f3, f4, f5⟩ := F
  obtain ⟨q0, hq⟩ := pGet (E := E) hbL
  rw [hF] at hq
  have hG : GoodIn wsU (wsV own index C y (.code y cb mxL rt :: wsU)) := gU_of fun w hw => by
    rcases List.mem_append.mp hw with h | h
    · simp only [List.mem_cons, List.not_mem_nil, or_false] at h
      rcases h with rfl | rfl | rfl | rfl
      · exact hl'
      · exact f2
      · exact f3
      · exact f4
    · rcases List.mem_cons.mp h with rfl | h
      · exact f1
      · exact h
  refine ct_go (a := (Value.ref b :: As).toArray) (va_runV ⟨M.hx, M.hb, M.hml, M.hown, M.hts⟩ hC (cwV n M.hts hG rfl rfl rfl f5 hR) ⟨PC.blind, va_recv M.hK hH.2.1 hci hq, M.pre hH hS _⟩ rfl hn hl.1 hst (lv_room hW) hdg hcs) hS (fun v u H1 locs1 hp hH1 hS1 => K v u hp H1 locs1 ls hH1 hS1 hl)
theorem j_callS (M : MC E p s m args meth c cc own nL ret) {y : MethodName} {cb : ByteArray} {mxL n fr lo mc ms index : Nat} {rt : Option FieldType} {As : List Value} {post : Option Value → PS → Prop} (F : CFs y cb mxL rt n) (hl' : Cond.methodLink own index y ∈ wsU)
    (hC : CT l y cb mxL rt fr lo mc ms E As S post) (hn : As.length = n) (hR : fr + 1 ≤ R.frames ∧ 8 + (mxL + 11) + lo ≤ R.locals) (hW : (st.map fun v => v.category).sum ≤ 8) (hcs : cells + mc ≤ R.cells ∧ slots + ms ≤ R.slots)
    (hdg : decode cc pc = .ok (.invokestatic index, 3)) (hst : st0 = As.reverse ++ st) (K : ∀ (v : Option Value) (u : PS), post v u → J p l e R s m args below meth c Q E nL (pc + 3) lv (v.toList ++ st) u (cells + mc) (slots + ms)) : J p l e R s m args below meth c Q E nL pc lv st0 S cells slots := by
  intro H locs ls hH hS hl
  obtain ⟨f1, f2, f4, f5⟩ := F
  have hG : GoodIn wsU (va_wsS own index y (.code y cb mxL rt :: wsU)) := gU_of fun w hw => by
    rcases List.mem_append.mp hw with h | h
    · simp only [List.mem_cons, List.not_mem_nil, or_false] at h
      rcases h with rfl | rfl | rfl
      · exact hl'
      · exact f2
      · exact f4
    · rcases List.mem_cons.mp h with rfl | h
      · exact f1
      · exact h
  refine ct_go (a := As.toArray) (va_runS ⟨M.hx, M.hb, M.hml, M.hown, M.hts⟩ hC (va_cwS n M.hts hG rfl rfl rfl f5 hR) ⟨PC.blind, M.pre hH hS _⟩ rfl hn hl.1 hst (lv_room hW) hdg hcs) hS (fun v u H1 locs1 hp hH1 hS1 => K v u hp H1 locs1 ls hH1 hS1 hl)
theorem j_callI (M : MC E p s m args meth c cc own nL ret) {y : MethodName} {cb : ByteArray} {mxL n fr lo mc ms index b : Nat} {As : List Value} {post : Option Value → PS → Prop} (F : CFi y cb mxL n) (hl' : Cond.methodLink own index y ∈ wsU)
    (hC : CT l y cb mxL none fr lo mc ms E (.ref b :: As) S post) (hn : As.length = n) (hR : fr + 1 ≤ R.frames ∧ 8 + (mxL + 11) + lo ≤ R.locals) (hW : (st.map fun v => v.category).sum ≤ 8) (hcs : cells + mc ≤ R.cells ∧ slots + ms ≤ R.slots)
    (hdg : decode cc pc = .ok (.invokespecial index, 3)) (hst : st0 = As.reverse ++ .ref b :: st) (K : ∀ (v : Option Value) (u : PS), post v u → J p l e R s m args below meth c Q E nL (pc + 3) lv (v.toList ++ st) u (cells + mc) (slots + ms)) : J p l e R s m args below meth c Q E nL pc lv st0 S cells slots := by
  intro H locs ls hH hS hl
  obtain ⟨f1, f2, f4, f6, f5⟩ := F
  have hG : GoodIn wsU (.code y cb mxL none :: wsU) := gU_of fun w hw => by
    rcases List.mem_cons.mp hw with rfl | h
    · exact f1
    · exact h
  refine ct_go (a := (Value.ref b :: As).toArray) (va_runI ⟨M.hx, M.hb, M.hml, M.hown, M.hts⟩ hC (cwI n M.hts hG rfl rfl rfl (M.hts _ f4) (M.hts _ hl') (M.hts _ f2) f6 f5 hR) ⟨PC.blind, M.pre hH hS _⟩ rfl hn hl.1 hst (lv_room hW) hdg hcs) hS (fun v u H1 locs1 hp hH1 hS1 => K v u hp H1 locs1 ls hH1 hS1 hl)
theorem j_callIN (M : MC E p s m args meth c cc own nL ret) {y : MethodName} {host : String} {cb : ByteArray} {mxL n fr lo mc ms index b : Nat} {As : List Value} {post : Option Value → PS → Prop} (F : CFi y cb mxL n) (hl' : Cond.methodLinkNest own index y host ∈ lw_tbl)
    (hC : CT l y cb mxL none fr lo mc ms E (.ref b :: As) S post) (hn : As.length = n) (hR : fr + 1 ≤ R.frames ∧ 8 + (mxL + 11) + lo ≤ R.locals) (hW : (st.map fun v => v.category).sum ≤ 8) (hcs : cells + mc ≤ R.cells ∧ slots + ms ≤ R.slots)
    (hdg : decode cc pc = .ok (.invokespecial index, 3)) (hst : st0 = As.reverse ++ .ref b :: st) (K : ∀ (v : Option Value) (u : PS), post v u → J p l e R s m args below meth c Q E nL (pc + 3) lv (v.toList ++ st) u (cells + mc) (slots + ms)) : J p l e R s m args below meth c Q E nL pc lv st0 S cells slots := by
  intro H locs ls hH hS hl
  obtain ⟨f1, f2, f4, f6, f5⟩ := F
  have hG : GoodIn wsU (.code y cb mxL none :: wsU) := gU_of fun w hw => by
    rcases List.mem_cons.mp hw with rfl | h
    · exact f1
    · exact h
  refine ct_go (a := (Value.ref b :: As).toArray) (va_runIN ⟨M.hx, M.hb, M.hml, M.hown, M.hts⟩ hC ⟨va_cnB n M.hts hG rfl rfl rfl (M.vp.2.1 _ hl' rfl) (M.hts _ f4) f5 hR, f6, M.hts _ f2⟩ ⟨PC.blind, M.pre hH hS _⟩ rfl hn hl.1 hst (lv_room hW) hdg hcs) hS (fun v u H1 locs1 hp hH1 hS1 => K v u hp H1 locs1 ls hH1 hS1 hl)
theorem j_obj (M : MC E p s m args meth c cc own nL ret) {index a : Nat} (hl' : Cond.methodLink own index objectInit ∈ wsU) (hI : Cond.instanceMethod objectInit ∈ wsU) (hc : Cond.code objectInit ⟨#[0xb1]⟩ 1 none ∈ wsU) (hdg : decode cc pc = .ok (.invokespecial index, 3)) (hf : 1 ≤ R.frames) (hlo : (st.map fun v => v.category).sum + 12 ≤ R.locals)
    (K : J p l e R s m args below meth c Q E nL (pc + 3) lv st S cells slots) : J p l e R s m args below meth c Q E nL pc lv (.ref a :: st) S cells slots :=
  fun H locs ls hH hS hl => W.objInit M.hx M.hb M.hown (M.hts _ hl') (M.hts _ hI) (M.hts _ hc) (g := F0 m pc ls (.ref a :: st)) rfl (hl.1.trans M.hml.symm) rfl hdg hf (by show 2 * 0 + _ + 12 ≤ _; omega) (K H locs ls hH hS hl)
theorem j_max (M : MC E p s m args meth c cc own nL ret) {index : Nat} {x y : Int32} (hl' : Cond.methodLink own index Lib.Math.max.name ∈ wsU) (hdg : decode cc pc = .ok (.invokestatic index, 3)) (hf : 1 ≤ R.frames) (hlo : (st.map fun v => v.category).sum + 13 ≤ R.locals) (hcs : cells ≤ R.cells ∧ slots ≤ R.slots)
    (K : J p l e R s m args below meth c Q E nL (pc + 3) lv (.int (imax x y) :: st) S cells slots) : J p l e R s m args below meth c Q E nL pc lv (.int y :: .int x :: st) S cells slots :=
  fun H locs ls hH hS hl => va_mmax M.hx M.hb (M.hml.trans hl.1.symm) M.hown (M.hts _ hl') (M.hts _ wS_Lib_Math_max_name) (M.hts _ wN_Math) (M.hts _ wC_Lib_Math_max_name) hf hlo hcs.1 hcs.2 hdg (K H locs ls hH hS hl)
theorem j_min (M : MC E p s m args meth c cc own nL ret) {index : Nat} {x y : Int32} (hl' : Cond.methodLink own index Lib.Math.min.name ∈ wsU) (hdg : decode cc pc = .ok (.invokestatic index, 3)) (hf : 1 ≤ R.frames) (hlo : (st.map fun v => v.category).sum + 13 ≤ R.locals) (hcs : cells ≤ R.cells ∧ slots ≤ R.slots)
    (K : J p l e R s m args below meth c Q E nL (pc + 3) lv (.int (imin x y) :: st) S cells slots) : J p l e R s m args below meth c Q E nL pc lv (.int y :: .int x :: st) S cells slots :=
  fun H locs ls hH hS hl => va_mmin M.hx M.hb (M.hml.trans hl.1.symm) M.hown (M.hts _ hl') (M.hts _ wS_Lib_Math_min_name) (M.hts _ wN_Math) (M.hts _ wC_Lib_Math_min_name) hf hlo hcs.1 hcs.2 hdg (K H locs ls hH hS hl)
theorem j_abs (M : MC E p s m args meth c cc own nL ret) {index : Nat} {x : Int32} (hl' : Cond.methodLink own index Lib.Math.abs.name ∈ wsU) (hdg : decode cc pc = .ok (.invokestatic index, 3)) (hf : 1 ≤ R.frames) (hlo : (st.map fun v => v.category).sum + 13 ≤ R.locals) (hcs : cells ≤ R.cells ∧ slots ≤ R.slots)
    (K : J p l e R s m args below meth c Q E nL (pc + 3) lv (.int (iabs x) :: st) S cells slots) : J p l e R s m args below meth c Q E nL pc lv (.int x :: st) S cells slots :=
  fun H locs ls hH hS hl => va_mabs M.hx M.hb (M.hml.trans hl.1.symm) M.hown (M.hts _ hl') (M.hts _ wS_Lib_Math_abs_name) (M.hts _ wN_Math) (M.hts _ wC_Lib_Math_abs_name) hf hlo hcs.1 hcs.2 hdg (K H locs ls hH hS hl)
theorem j_cast (M : MC E p s m args meth c cc own nL ret) {C : String} {T : u_T} {N ci index a : Nat} {fs : List Value} (haL : a ∈ sL S) (hF : pF E S a = .inr (ci, fs)) (hc : vwCl[ci]? = some (C, T, N)) (hlink : Cond.classLink own index C ∈ wsU) (hdg : decode cc pc = .ok (.checkcast index, 3))
    (K : J p l e R s m args below meth c Q E nL (pc + 3) lv (.ref a :: st) S cells slots) : J p l e R s m args below meth c Q E nL pc lv (.ref a :: st) S cells slots := by
  intro H locs ls hH hS hl
  obtain ⟨q0, hq⟩ := pGet (E := E) haL
  rw [hF] at hq
  exact va_castS M.hx M.hb M.hown (M.hts _ hlink) (M.hK.1 ci _ hc).2 (va_recv M.hK hH.2.1 hc hq) hdg (K H locs ls hH hS hl)
theorem j_row (M : MC E p s m args meth c cc own nL ret) {index : Nat} {host : String} (hlink : Cond.fieldLinkNest own index "Slewyard" "ROW_STEPS" "[I" host ∈ lw_tbl) (hdg : decode cc pc = .ok (.getstatic index, 3)) (K : J p l e R s m args below meth c Q E nL (pc + 3) lv (.ref E.2.2.2.2.1 :: st) S cells slots) : J p l e R s m args below meth c Q E nL pc lv st S cells slots :=
  fun H locs ls hH hS hl => va_getsN M.hx M.hb M.vp.2.2.1.1.1 hS M.hown (va_Nw.use rfl (M.vp.2.1 _ hlink rfl)) (fun _ h => h) hdg (K H locs ls hH hS hl)
theorem j_col (M : MC E p s m args meth c cc own nL ret) {index : Nat} {host : String} (hlink : Cond.fieldLinkNest own index "Slewyard" "COLUMN_STEPS" "[I" host ∈ lw_tbl) (hdg : decode cc pc = .ok (.getstatic index, 3)) (K : J p l e R s m args below meth c Q E nL (pc + 3) lv (.ref E.2.2.2.2.2.1 :: st) S cells slots) : J p l e R s m args below meth c Q E nL pc lv st S cells slots :=
  fun H locs ls hH hS hl => va_getsN M.hx M.hb M.vp.2.2.1.2.1.1 hS M.hown (va_Nw.use rfl (M.vp.2.1 _ hlink rfl)) (fun _ h => h) hdg (K H locs ls hH hS hl)
theorem j_rowi (M : MC E p s m args meth c cc own nL ret) {i : Int32} (hin : vp_in i 8) (hdg : decode cc pc = .ok (.iaload, 1)) (K : J p l e R s m args below meth c Q E nL (pc + 1) lv (.int (rwV i.toNatClampNeg) :: st) S cells slots) : J p l e R s m args below meth c Q E nL pc lv (.int i :: .ref E.2.2.2.2.1 :: st) S cells slots :=
  fun H locs ls hH hS hl => va_ti M.hx M.hb M.vp.2.2.1.1.2 hS hin rfl hdg (K H locs ls hH hS hl)
theorem j_coli (M : MC E p s m args meth c cc own nL ret) {i : Int32} (hin : vp_in i 8) (hdg : decode cc pc = .ok (.iaload, 1)) (K : J p l e R s m args below meth c Q E nL (pc + 1) lv (.int (clV i.toNatClampNeg) :: st) S cells slots) : J p l e R s m args below meth c Q E nL pc lv (.int i :: .ref E.2.2.2.2.2.1 :: st) S cells slots :=
  fun H locs ls hH hS hl => va_ti M.hx M.hb M.vp.2.2.1.2.1.2 hS hin rfl hdg (K H locs ls hH hS hl)
theorem j_new (M : MC E p s m args meth c cc own nL ret) {C : String} {T : u_T} {N ci index k : Nat} {fs : List Value} (hc : vwCl[ci]? = some (C, T, N)) (hin : ∀ w ∈ u_ws C T N, w ∈ wsU) (ty : Nat → FieldType) (hty : ∀ k, k < N → parseFieldDescriptor (T k).2.2.1 = some (ty k)) (hcl : Cond.classLink own index C ∈ wsU) (hinst : Cond.instantiable C N ∈ wsU) (hini : Cond.initialized C ∈ wsU)
    (hfs : ∀ j, j < N → defaultValue (ty j) = vp_V fs j) (hu : ∀ (q b : Nat), va_up (pF E S) q (.inr (ci, fs)) b = pF E (nw S q k) b) (hcs : cells + 1 ≤ R.cells ∧ slots + N ≤ R.slots) (hdg : decode cc pc = .ok (.new index, 3))
    (K : ∀ q : Nat, q ∉ sL S → J p l e R s m args below meth c Q E nL (pc + 3) lv (.ref q :: st) (nw S q k) (cells + 1) (slots + N)) : J p l e R s m args below meth c Q E nL pc lv st S cells slots := by
  intro H locs ls hH hS hl
  refine va_new M.hx M.hb M.hts hin ty hty M.hown (M.hts _ hcl) (M.hts _ hinst) (M.hts _ hini) M.hK hH.2.1 hH.2.2 hS M.hA hc hfs hcs.1 hcs.2 hdg (fun q H1 hP1 hD1 hS1 => ?_)
  have hq := notin_push hD1
  rw [pPush (S' := nw S q k) hq rfl (hu q)] at hP1 hD1
  exact K q hq H1 locs ls ⟨Nat.le_trans M.hsz hS1.1, hP1, hD1⟩ hS1 hl
theorem j_newi (M : MC E p s m args meth c cc own nL ret) {n : Int32} (hn : ¬ n < 0) (hN : n.toNatClampNeg * 4 ≤ 536870912) (hcs : cells + 1 ≤ R.cells ∧ slots + n.toNatClampNeg ≤ R.slots) (hdg : decode cc pc = .ok (.newarray .int, 2))
    (K : ∀ q : Nat, q ∉ sL S → J p l e R s m args below meth c Q E nL (pc + 2) lv (.ref q :: st) (nwA S q n.toNatClampNeg (fun _ => 0)) (cells + 1) (slots + n.toNatClampNeg)) : J p l e R s m args below meth c Q E nL pc lv (.int n :: st) S cells slots := by
  intro H locs ls hH hS hl
  refine va_newa (atype := .int) (ty := .int) (a0 := (n.toNatClampNeg, .inl (fun _ => 0))) M.hx M.hb (M.hts _ wA_int) rfl M.hK hH.2.1 hH.2.2 hS M.hA (fun _ => rfl) hn rfl hN hcs.1 hcs.2 hdg (fun q cA H1 hK1 hP1 hD1 hS1 => ?_)
  have hq := notin_push hD1
  have e1 : cA = E.2.1 := by
    have a1 : va_RA s cA .int := (hK1.2 2 _ rfl).2
    have a2 : va_RA s E.2.1 .int := (hK1.2 0 _ rfl).2
    exact Option.some.inj (Eq.trans (Eq.symm a1) a2)
  subst e1
  rw [pPush (S' := nwA S q n.toNatClampNeg (fun _ => 0)) hq rfl (pNw_A E S q _ _)] at hP1 hD1
  exact K q hq H1 locs ls ⟨Nat.le_trans M.hsz hS1.1, hP1, hD1⟩ hS1 hl
-- returns
theorem j_iret {post : Option Value → PS → Prop} {mc ms : Nat} {v : Int32} (M : MC E p s m args meth c cc own nL (some .int)) (hdg : decode cc pc = .ok (.ireturn, 1)) (hc : cells ≤ mc) (hs : slots ≤ ms) (hp : post (some (.int v)) S) : J p l e R s m args below meth c (MQ below (QC E post) args s mc ms (AE E)) E nL pc lv [.int v] S cells slots :=
  fun H locs ls hH hS hl => W.widen hc hs (W.iret M.hx M.hb M.hr (fun t ht _ => ⟨⟨_, S, rfl, hp, by rw [ht]; exact hH⟩, hS.F ht⟩) hS.2.2 hdg M.hlk)
theorem j_zret {post : Option Value → PS → Prop} {mc ms : Nat} {v : Int32} (M : MC E p s m args meth c cc own nL (some .boolean)) (hdg : decode cc pc = .ok (.ireturn, 1)) (hc : cells ≤ mc) (hs : slots ≤ ms) (hn : narrow .boolean (.int v) = .int v) (hp : post (some (.int v)) S) : J p l e R s m args below meth c (MQ below (QC E post) args s mc ms (AE E)) E nL pc lv [.int v] S cells slots :=
  fun H locs ls hH hS hl => W.widen hc hs (W.zret M.hx M.hb M.hr hn (fun t ht _ => ⟨⟨_, S, rfl, hp, by rw [ht]; exact hH⟩, hS.F ht⟩) hS.2.2 hdg M.hlk)
theorem j_vret {post : Option Value → PS → Prop} {mc ms : Nat} (M : MC E p s m args meth c cc own nL none) (hdg : decode cc pc = .ok (.return_, 1)) (hc : cells ≤ mc) (hs : slots ≤ ms) (hp : post none S) : J p l e R s m args below meth c (MQ below (QC E post) args s mc ms (AE E)) E nL pc lv [] S cells slots :=
  fun H locs ls hH hS hl => W.widen hc hs (W.vret M.hx M.hb M.hr (fun t ht _ => ⟨⟨_, S, rfl, hp, by rw [ht]; exact hH⟩, hS.F ht⟩) hS.2.2 hdg M.hlk)
theorem j_aret {post : Option Value → PS → Prop} {mc ms : Nat} {v : Value} {rt : FieldType} (M : MC E p s m args meth c cc own nL (some rt)) (hrt : (∃ n, rt = .object n) ∨ ∃ t, rt = .array t) (hv : v = .null ∨ ∃ a, v = .ref a) (hdg : decode cc pc = .ok (.areturn, 1)) (hc : cells ≤ mc) (hs : slots ≤ ms) (hp : post (some v) S) : J p l e R s m args below meth c (MQ below (QC E post) args s mc ms (AE E)) E nL pc lv [v] S cells slots :=
  fun H locs ls hH hS hl => W.widen hc hs (W.aret M.hx M.hb M.hr hrt hv (fun t ht _ => ⟨⟨_, S, rfl, hp, by rw [ht]; exact hH⟩, hS.F ht⟩) hS.2.2 hdg M.hlk)
theorem j_lret {post : Option Value → PS → Prop} {mc ms : Nat} {v : Int64} (M : MC E p s m args meth c cc own nL (some .long)) (hdg : decode cc pc = .ok (.lreturn, 1)) (hc : cells ≤ mc) (hs : slots ≤ ms) (hp : post (some (.long v)) S) : J p l e R s m args below meth c (MQ below (QC E post) args s mc ms (AE E)) E nL pc lv [.long v] S cells slots :=
  fun H locs ls hH hS hl => W.widen hc hs (W.lret M.hx M.hb M.hr (fun t ht _ => ⟨⟨_, S, rfl, hp, by rw [ht]; exact hH⟩, hS.F ht⟩) hS.2.2 hdg M.hlk)
end CR
/-- a contract out of its body's walk -/
theorem CT.of {l : Launch} {y : MethodName} {cb : ByteArray} {mxL fr lo mc ms : Nat} {ret : Option FieldType} {E : EV} {av : List Value} {S : PS} {post : Option Value → PS → Prop} (hy : plainName y.cls = true) (hlen : (lg_sl av).length ≤ mxL)
    (body : ∀ (p : Program) (e : Env) (s : State) (m : MethodId) (below : List Frame) (meth : Method) (c : Code), MC E p s m av.toArray meth c cb y.cls mxL ret → meth.name = y.name →
      J p l e { frames := fr, cells := mc, slots := ms, locals := lo } s m av.toArray below meth c (MQ below (QC E post) av.toArray s mc ms (AE E)) E mxL 0 (lv_args 0 av) [] S 0 0) : CT l y cb mxL ret fr lo mc ms E av S post := by
  refine Met.ofW (cc := cb) (maxL := mxL) (ret := ret) hy rfl ?_
  intro p e s m args below meth c s₁ B hml hv
  obtain ⟨rfl, hP, hV⟩ := hv
  have hts := atoms_spec (ws := .code y cb mxL ret :: wsU) B.pre
  have hl := lv_entry av (n := mxL) hlen
  rw [lg_entry_eq]
  exact body p e s m below meth c ⟨B.exec, B.bytes, hml, findClass_of_methodNamed B.named, fun w hw => hts w (List.mem_cons_of_mem _ hw), hV, B.notSynchronized, hP.1, B.returns⟩ (name_of_methodNamed B.named B.method).1 s.heap [] _ hP va_S.rf hl
theorem CT.mono {l : Launch} {y : MethodName} {cb : ByteArray} {mxL fr lo mc ms : Nat} {ret : Option FieldType} {E : EV} {av : List Value} {S : PS} {post post2 : Option Value → PS → Prop} (h : CT l y cb mxL ret fr lo mc ms E av S post) (hp : ∀ v u, post v u → post2 v u) : CT l y cb mxL ret fr lo mc ms E av S post2 := by
  intro p e ha hc hk s m args below hf hs hP hK
  obtain ⟨k, o, h1, h2, h3, ⟨⟨v, u, e1, e2, e3⟩, e4⟩, h5⟩ := h p e ha hc hk s m args below hf hs hP hK
  exact ⟨k, o, h1, h2, h3, ⟨⟨v, u, e1, hp v u e2, e3⟩, e4⟩, h5⟩
