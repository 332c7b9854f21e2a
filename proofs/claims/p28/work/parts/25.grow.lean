/-! growing a list: words and rows -/
abbrev gC : MethodName := ⟨"java/lang/Object", "getClass", "()Ljava/lang/Class;"⟩
abbrev eDF (E : EV) : Nat := E.2.2.2.2.2.2.1
abbrev eMI (E : EV) : Nat := E.2.2.2.2.2.2.2
theorem wM_J7_86 : Cond.methodLink RJ7 86 gC ∈ wsU := mU 680 (by decide +kernel) rfl
theorem wI_gC : Cond.instanceMethod gC ∈ wsU := mU 681 (by decide +kernel) rfl
theorem wT_gC : Cond.native gC ∈ wsU := mU 695 (by decide +kernel) rfl
theorem wV_gC : Cond.selects "[Ljava/lang/Object;" gC gC ∈ wsU := mU 1027 (by decide +kernel) rfl
theorem nD_gC : Cond.declares gC ∈ lw_tbl := List.mem_of_getElem? (i := 1028) (by decide +kernel)
theorem wT_ac : Cond.native arraycopyName ∈ wsU := mU 705 (by decide +kernel) rfl
theorem wSF : Cond.sameField "java/util/ArrayList" "java/util/AbstractList" "modCount" "I" ∈ wsU := mU 87 (by decide +kernel) rfl
def oka (k : Nat) : Prop := k = 0 ∨ k = 2 ∨ k = 4 ∨ k = 6
theorem asg_of {s : State} {C T : String} (h : va_Nw (.castable C T) s) : ∀ comp c0 : ClassId, s.vm.findClass T = some comp → s.vm.findClass C = some c0 → s.vm.assignable c0 comp = true := by
  intro comp c0 h1 h2
  obtain ⟨c1, t1, f1, f2, f3⟩ := Cond.castable_spec (va_Nw.use (A := #[]) rfl h)
  cases h1.symm.trans f2
  cases h2.symm.trans f1
  exact f3
section GR
variable {p : Program} {l : Launch} {e : Env} {R : Room} {s : State} {m : MethodId} {args : Array Value} {below : List Frame} {meth : Method} {c : Code} {Q : State → Prop} {E : EV} {nL pc : Nat} {lv lv' : List (Nat × Value)} {st st0 : List Value} {S S2 : PS} {cells slots : Nat} {cc : ByteArray} {own : String} {ret : Option FieldType}
theorem any_of {H : Heap} (M : MC E p s m args meth c cc own nL ret) (hH : HP E S H) {x : Nat} (hx : x ∈ sL S) (hk : oka (sK S x)) : va_Any "java/lang/Object" s H x := by
  obtain ⟨q0, hq⟩ := pGet (E := E) hx
  rcases hk with h | h | h | h
  · rw [pAt_0 E S h] at hq
    exact va_rAny M.hK hH.2.1 hq rfl (asg_of (M.vp.2.1 _ nC_1017 rfl))
  · rw [pAt_2 E S h] at hq
    exact va_rAny M.hK hH.2.1 hq rfl (asg_of (M.vp.2.1 _ nC_1022 rfl))
  · rw [pAt_4 E S h] at hq
    exact va_rAny M.hK hH.2.1 hq rfl (asg_of (M.vp.2.1 _ nC_1016 rfl))
  · rw [pAt_6 E S h] at hq
    exact va_rAny M.hK hH.2.1 hq rfl (asg_of (M.vp.2.1 _ nC_1023 rfl))
theorem j_aast (M : MC E p s m args meth c cc own nL ret) {a v : Nat} {i : Int32} (haL : a ∈ sL S) (hk : sK S a = 10) (hv : v ∈ sL S) (hkv : oka (sK S v)) (hin : vp_in i (sN S a)) (hdg : decode cc pc = .ok (.aastore, 1)) (K : J p l e R s m args below meth c Q E nL (pc + 1) lv st (uO S a (va_up (sO S a) i.toNatClampNeg (some v))) cells slots) : J p l e R s m args below meth c Q E nL pc lv (.ref v :: .int i :: .ref a :: st) S cells slots := by
  intro H locs ls hH hS hl
  obtain ⟨q0, hq⟩ := pGet (E := E) haL
  have hq1 := hq
  rw [pAt_10 E S hk] at hq
  refine va_astqM M.hx M.hb M.hK hH.2.1 hH.2.2 hS q0 1 hq rfl (any_of M hH hv hkv) hin hdg (fun H1 locs1 hP1 hD1 hS1 => ?_)
  have e := pSet (S' := uO S a (va_up (sO S a) i.toNatClampNeg (some v))) (e := .inl (E.2.2.1, sN S a, .inr (.inr (.inr (.inr (va_up (sO S a) i.toNatClampNeg (some v))))))) hH.2.2 haL hq1 rfl (pUp_O E S hk _)
  rw [e] at hP1 hD1
  exact K H1 locs1 ls ⟨Nat.le_trans M.hsz hS1.1, hP1, hD1⟩ hS1 hl
theorem j_aastN (M : MC E p s m args meth c cc own nL ret) {a : Nat} {i : Int32} (haL : a ∈ sL S) (hk : sK S a = 10) (hin : vp_in i (sN S a)) (hdg : decode cc pc = .ok (.aastore, 1)) (K : J p l e R s m args below meth c Q E nL (pc + 1) lv st (uO S a (va_up (sO S a) i.toNatClampNeg none)) cells slots) : J p l e R s m args below meth c Q E nL pc lv (.null :: .int i :: .ref a :: st) S cells slots := by
  intro H locs ls hH hS hl
  obtain ⟨q0, hq⟩ := pGet (E := E) haL
  have hq1 := hq
  rw [pAt_10 E S hk] at hq
  refine va_astqN M.hx M.hb M.hK hH.2.1 hH.2.2 hS q0 1 hq rfl hin hdg (fun H1 locs1 hP1 hD1 hS1 => ?_)
  have e := pSet (S' := uO S a (va_up (sO S a) i.toNatClampNeg none)) (e := .inl (E.2.2.1, sN S a, .inr (.inr (.inr (.inr (va_up (sO S a) i.toNatClampNeg none)))))) hH.2.2 haL hq1 rfl (pUp_O E S hk _)
  rw [e] at hP1 hD1
  exact K H1 locs1 ls ⟨Nat.le_trans M.hsz hS1.1, hP1, hD1⟩ hS1 hl
theorem j_alenq (M : MC E p s m args meth c cc own nL ret) {a : Nat} (haL : a ∈ sL S) (hk : sK S a = 10) (hdg : decode cc pc = .ok (.arraylength, 1)) (K : J p l e R s m args below meth c Q E nL (pc + 1) lv (.int (nI (sN S a)) :: st) S cells slots) : J p l e R s m args below meth c Q E nL pc lv (.ref a :: st) S cells slots := by
  intro H locs ls hH hS hl
  obtain ⟨q0, hq⟩ := pGet (E := E) haL
  rw [pAt_10 E S hk] at hq
  exact va_alen M.hx M.hb M.hK hH.2.1 q0 1 hq rfl rfl hdg (K H locs ls hH hS hl)
theorem j_alenD (M : MC E p s m args meth c cc own nL ret) (hdg : decode cc pc = .ok (.arraylength, 1)) (K : J p l e R s m args below meth c Q E nL (pc + 1) lv (.int 0 :: st) S cells slots) : J p l e R s m args below meth c Q E nL pc lv (.ref (eDF E) :: st) S cells slots :=
  fun H locs ls hH hS hl => va_tlen M.hx M.hb M.vp.2.2.1.2.2.1.2 hS rfl hdg (K H locs ls hH hS hl)
theorem j_dflt (M : MC E p s m args meth c cc own nL ret) {index : Nat} (hlink : Cond.fieldLink own index "java/util/ArrayList" "DEFAULTCAPACITY_EMPTY_ELEMENTDATA" "[Ljava/lang/Object;" ∈ wsU) (hdg : decode cc pc = .ok (.getstatic index, 3)) (K : J p l e R s m args below meth c Q E nL (pc + 3) lv (.ref (eDF E) :: st) S cells slots) : J p l e R s m args below meth c Q E nL pc lv st S cells slots :=
  fun H locs ls hH hS hl => va_gets M.hx M.hb M.vp.2.2.1.2.2.1.1 hS M.hown (M.hts _ hlink) (fun _ h => h) hdg (K H locs ls hH hS hl)
theorem obj_id (M : MC E p s m args meth c cc own nL ret) : s.vm.findClass "[Ljava/lang/Object;" = some E.2.2.1 := va_nmO (M.hK.2 1 _ rfl).2 (by decide +kernel)
theorem j_newq (M : MC E p s m args meth c cc own nL ret) {index : Nat} {n : Int32} (hcl : Cond.classLink own index "java/lang/Object" ∈ wsU) (hn : ¬ n < 0) (hN : n.toNatClampNeg * 4 ≤ 536870912) (hcs : cells + 1 ≤ R.cells ∧ slots + n.toNatClampNeg ≤ R.slots) (hdg : decode cc pc = .ok (.anewarray index, 3))
    (K : ∀ q : Nat, q ∉ sL S → J p l e R s m args below meth c Q E nL (pc + 3) lv (.ref q :: st) (nwO S q n.toNatClampNeg (fun _ => none)) (cells + 1) (slots + n.toNatClampNeg)) : J p l e R s m args below meth c Q E nL pc lv (.int n :: st) S cells slots := by
  intro H locs ls hH hS hl
  refine va_newq M.hx M.hb M.hown (M.hts _ hcl) M.vp.2.2.1.2.2.2.1 M.hK hH.2.1 hH.2.2 hS M.hA hn rfl hN hcs.1 hcs.2 hdg (fun q cA H1 hK1 hP1 hD1 hS1 => ?_)
  have hq := notin_push hD1
  have e1 : cA = E.2.2.1 := Option.some.inj ((va_nmO (hK1.2 2 _ rfl).2 (by decide +kernel)).symm.trans (obj_id M))
  subst e1
  rw [pPush (S' := nwO S q n.toNatClampNeg (fun _ => none)) hq rfl (pNw_O E S q _ _)] at hP1 hD1
  exact K q hq H1 locs ls ⟨Nat.le_trans M.hsz hS1.1, hP1, hD1⟩ hS1 hl
theorem j_ldcM (M : MC E p s m args meth c cc own nL ret) {index : Nat} (hlink : Cond.classLink own index "[Ljava/lang/Object;" ∈ wsU) (hdg : decode cc pc = .ok (.ldc index, 2)) (K : J p l e R s m args below meth c Q E nL (pc + 2) lv (.ref (eMI E) :: st) S cells slots) : J p l e R s m args below meth c Q E nL pc lv st S cells slots :=
  fun H locs ls hH hS hl => va_ldcM M.hx M.hb M.hown (M.hts _ hlink) M.vp.2.2.1.2.2.2.2 hdg (K H locs ls hH hS hl)
theorem j_getC (M : MC E p s m args meth c cc own nL ret) {index a : Nat} (hlink : Cond.methodLink own index gC ∈ wsU) (haL : a ∈ sL S) (hk : sK S a = 10) (hf : 1 ≤ R.frames) (hlo : (st.map fun v => v.category).sum + 14 ≤ R.locals) (hdg : decode cc pc = .ok (.invokevirtual index, 3)) (K : J p l e R s m args below meth c Q E nL (pc + 3) lv (.ref (eMI E) :: st) S cells slots) : J p l e R s m args below meth c Q E nL pc lv (.ref a :: st) S cells slots := by
  intro H locs ls hH hS hl
  obtain ⟨q0, hq⟩ := pGet (E := E) haL
  rw [pAt_10 E S hk] at hq
  exact va_getC M.hx M.hb (M.hml.trans hl.1.symm) M.hown (M.hts _ hlink) (va_Nw.use rfl (M.vp.2.1 _ nD_gC rfl)) (M.hts _ wV_gC) (M.hts _ wI_gC) (M.hts _ wT_gC) M.vp.2.2.1.2.2.2.2 ⟨_, hH.2.1 q0 _ hq, rfl, obj_id M⟩ hf hlo hdg (K H locs ls hH hS hl)
theorem j_copy (M : MC E p s m args meth c cc own nL ret) {index a b : Nat} {n : Int32} (hlink : Cond.methodLink own index arraycopyName ∈ wsU) (haL : a ∈ sL S) (hka : sK S a = 10) (hbL : b ∈ sL S) (hkb : sK S b = 10) (hn : ¬ n < 0) (h4 : n.toNatClampNeg ≤ sN S a) (h5 : n.toNatClampNeg ≤ sN S b) (hel : ∀ i : Nat, i < n.toNatClampNeg → ∀ y : Nat, sO S a i = some y → y ∈ sL S ∧ oka (sK S y)) (hf : 1 ≤ R.frames) (hlo : (st.map fun v => v.category).sum + 18 ≤ R.locals) (hdg : decode cc pc = .ok (.invokestatic index, 3))
    (K : J p l e R s m args below meth c Q E nL (pc + 3) lv st (uO S b (va_cpy (sO S a) (sO S b) 0 0 n.toNatClampNeg)) cells slots) : J p l e R s m args below meth c Q E nL pc lv (.int n :: .int 0 :: .ref b :: .int 0 :: .ref a :: st) S cells slots := by
  intro H locs ls hH hS hl
  obtain ⟨qa, hqa⟩ := pGet (E := E) haL
  obtain ⟨qb, hqb⟩ := pGet (E := E) hbL
  have hqb1 := hqb
  rw [pAt_10 E S hka] at hqa
  rw [pAt_10 E S hkb] at hqb
  refine va_copyM M.hx M.hb (M.hml.trans hl.1.symm) M.hown (M.hts _ hlink) (M.hts _ wT_ac) (M.hts _ wS_arraycopyName) (M.hts _ wN_System) M.hK hH.2.1 hH.2.2 hS qa qb 1 1 hqa hqb rfl rfl (by decide) (by decide) hn (by show 0 + _ ≤ _; omega) (by show 0 + _ ≤ _; omega) (fun i hi y hy => ?_) hf hlo hdg (fun H1 locs1 hP1 hD1 hS1 => ?_)
  · have hy2 : sO S a i = some y := by
      have e0 : (0 : Int32).toNatClampNeg + i = i := by show 0 + i = i; omega
      rw [e0] at hy
      exact hy
    obtain ⟨y1, y2⟩ := hel i hi y hy2
    exact any_of M hH y1 y2
  · have e := pSet (S' := uO S b (va_cpy (sO S a) (sO S b) 0 0 n.toNatClampNeg)) (e := .inl (E.2.2.1, sN S b, .inr (.inr (.inr (.inr (va_cpy (sO S a) (sO S b) 0 0 n.toNatClampNeg)))))) hH.2.2 hbL hqb1 rfl (pUp_O E S hkb _)
    have hP2 : va_P E.1 vwCl ((pool E S).set qb (b, .inl (E.2.2.1, sN S b, .inr (.inr (.inr (.inr (va_cpy (sO S a) (sO S b) 0 0 n.toNatClampNeg))))))) H1 := hP1
    have hD2 : va_D (AE E) ((pool E S).set qb (b, .inl (E.2.2.1, sN S b, .inr (.inr (.inr (.inr (va_cpy (sO S a) (sO S b) 0 0 n.toNatClampNeg))))))) := hD1
    rw [e] at hP2 hD2
    exact K H1 locs1 ls ⟨Nat.le_trans M.hsz hS1.1, hP2, hD2⟩ hS1 hl
end GR
