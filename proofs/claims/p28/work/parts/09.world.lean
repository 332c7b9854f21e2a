/-! how a site's objects hang together (WS: nothing in it speaks of whole numbers or of what hangs), calls with one known answer -/
abbrev InK (S : PS) (a k : Nat) : Prop := a ∈ sL S ∧ sK S a = k
def el (S : PS) (h j : Nat) : Nat := (sO S ((sE S h).getD 0) j).getD 0
def LSt (S : PS) (h k B : Nat) : Prop := InK S h 8 ∧ sZ S h ≤ B ∧ ∀ j, j < sZ S h → ∃ t, sE S h = some t ∧ InK S t 10 ∧ j < sN S t ∧ sN S t ≤ 64 ∧ sO S t j = some (el S h j) ∧ InK S (el S h j) k
/-- K: 0 the Slewyard, 1 Site, 2 Ground, 3 Plans, 4 trial, 5 calm, 6 levels, 7 steps, 8 poses, 9 takers, 10 leaving, 11 reports, 12 zones, 13 cranes, 14 loads -/
def WS (K : Nat → Nat) (S : PS) : Prop :=
  (InK S (K 0) 7 ∧ InK S (K 1) 5 ∧ InK S (K 2) 1 ∧ InK S (K 3) 3 ∧ InK S (K 4) 0 ∧ InK S (K 5) 4) ∧
  (InK S (K 6) 9 ∧ InK S (K 7) 9 ∧ InK S (K 8) 9 ∧ InK S (K 9) 9 ∧ InK S (K 10) 9) ∧
  (sR S 48 (K 0) = some (K 1) ∧ sR S 49 (K 0) = some (K 3)) ∧
  (sR S 32 (K 1) = some (K 2) ∧ sR S 33 (K 1) = some (K 11) ∧ sR S 34 (K 1) = some (K 12) ∧ sR S 35 (K 1) = some (K 13) ∧ sR S 36 (K 1) = some (K 14) ∧ sR S 37 (K 1) = some (K 5) ∧ sR S 38 (K 1) = some (K 4)) ∧
  sR S 16 (K 2) = some (K 6) ∧
  (sR S 23 (K 3) = some (K 1) ∧ sR S 24 (K 3) = some (K 4) ∧ sR S 25 (K 3) = some (K 7) ∧ sR S 26 (K 3) = some (K 8) ∧ sR S 27 (K 3) = some (K 9) ∧ sR S 28 (K 3) = some (K 10)) ∧
  (∀ a, InK S a 0 → sR S 0 a = some (K 2)) ∧
  (sN S (K 6) = 196 ∧ sN S (K 7) = 196 ∧ sN S (K 8) = 72 ∧ sN S (K 9) = 4 ∧ sN S (K 10) = 4) ∧
  (LSt S (K 11) 4 12 ∧ LSt S (K 12) 6 4 ∧ LSt S (K 13) 0 4 ∧ LSt S (K 14) 2 8)
section WSS
variable {K : Nat → Nat} {S : PS}
theorem WS.uI {f a : Nat} {v : Int32} (h : WS K S) : WS K (uI S f a v) := h
theorem WS.uM {f a : Nat} {v : Option Nat} (h : WS K S) : WS K (uM S f a v) := h
theorem WS.uA {a : Nat} {v : Nat → Int32} (h : WS K S) : WS K (uA S a v) := h
theorem WS.k0 (h : WS K S) : InK S (K 0) 7 := h.1.1
theorem WS.k1 (h : WS K S) : InK S (K 1) 5 := h.1.2.1
theorem WS.k2 (h : WS K S) : InK S (K 2) 1 := h.1.2.2.1
theorem WS.k3 (h : WS K S) : InK S (K 3) 3 := h.1.2.2.2.1
theorem WS.k4 (h : WS K S) : InK S (K 4) 0 := h.1.2.2.2.2.1
theorem WS.k5 (h : WS K S) : InK S (K 5) 4 := h.1.2.2.2.2.2
theorem WS.k6 (h : WS K S) : InK S (K 6) 9 := h.2.1.1
theorem WS.k7 (h : WS K S) : InK S (K 7) 9 := h.2.1.2.1
theorem WS.k8 (h : WS K S) : InK S (K 8) 9 := h.2.1.2.2.1
theorem WS.k9 (h : WS K S) : InK S (K 9) 9 := h.2.1.2.2.2.1
theorem WS.k10 (h : WS K S) : InK S (K 10) 9 := h.2.1.2.2.2.2
theorem WS.r48 (h : WS K S) : sR S 48 (K 0) = some (K 1) := h.2.2.1.1
theorem WS.r49 (h : WS K S) : sR S 49 (K 0) = some (K 3) := h.2.2.1.2
theorem WS.r32 (h : WS K S) : sR S 32 (K 1) = some (K 2) := h.2.2.2.1.1
theorem WS.r33 (h : WS K S) : sR S 33 (K 1) = some (K 11) := h.2.2.2.1.2.1
theorem WS.r34 (h : WS K S) : sR S 34 (K 1) = some (K 12) := h.2.2.2.1.2.2.1
theorem WS.r35 (h : WS K S) : sR S 35 (K 1) = some (K 13) := h.2.2.2.1.2.2.2.1
theorem WS.r36 (h : WS K S) : sR S 36 (K 1) = some (K 14) := h.2.2.2.1.2.2.2.2.1
theorem WS.r37 (h : WS K S) : sR S 37 (K 1) = some (K 5) := h.2.2.2.1.2.2.2.2.2.1
theorem WS.r38 (h : WS K S) : sR S 38 (K 1) = some (K 4) := h.2.2.2.1.2.2.2.2.2.2
theorem WS.r16 (h : WS K S) : sR S 16 (K 2) = some (K 6) := h.2.2.2.2.1
theorem WS.r23 (h : WS K S) : sR S 23 (K 3) = some (K 1) := h.2.2.2.2.2.1.1
theorem WS.r24 (h : WS K S) : sR S 24 (K 3) = some (K 4) := h.2.2.2.2.2.1.2.1
theorem WS.r25 (h : WS K S) : sR S 25 (K 3) = some (K 7) := h.2.2.2.2.2.1.2.2.1
theorem WS.r26 (h : WS K S) : sR S 26 (K 3) = some (K 8) := h.2.2.2.2.2.1.2.2.2.1
theorem WS.r27 (h : WS K S) : sR S 27 (K 3) = some (K 9) := h.2.2.2.2.2.1.2.2.2.2.1
theorem WS.r28 (h : WS K S) : sR S 28 (K 3) = some (K 10) := h.2.2.2.2.2.1.2.2.2.2.2
theorem WS.r0 (h : WS K S) {a : Nat} (ha : InK S a 0) : sR S 0 a = some (K 2) := h.2.2.2.2.2.2.1 a ha
theorem WS.n6 (h : WS K S) : sN S (K 6) = 196 := h.2.2.2.2.2.2.2.1.1
theorem WS.n7 (h : WS K S) : sN S (K 7) = 196 := h.2.2.2.2.2.2.2.1.2.1
theorem WS.n8 (h : WS K S) : sN S (K 8) = 72 := h.2.2.2.2.2.2.2.1.2.2.1
theorem WS.n9 (h : WS K S) : sN S (K 9) = 4 := h.2.2.2.2.2.2.2.1.2.2.2.1
theorem WS.n10 (h : WS K S) : sN S (K 10) = 4 := h.2.2.2.2.2.2.2.1.2.2.2.2
theorem WS.l11 (h : WS K S) : LSt S (K 11) 4 12 := h.2.2.2.2.2.2.2.2.1
theorem WS.l12 (h : WS K S) : LSt S (K 12) 6 4 := h.2.2.2.2.2.2.2.2.2.1
theorem WS.l13 (h : WS K S) : LSt S (K 13) 0 4 := h.2.2.2.2.2.2.2.2.2.2.1
theorem WS.l14 (h : WS K S) : LSt S (K 14) 2 8 := h.2.2.2.2.2.2.2.2.2.2.2
end WSS
theorem rfv {x : Option Nat} {g : Nat} (h : x = some g) : some (va_rf x) = some (Value.ref g) := by rw [h]; rfl
theorem rfn {x : Option Nat} (h : x = none) : some (va_rf x) = some Value.null := by rw [h]; rfl
theorem ivu {g : Nat → Nat → Int32} {f a : Nat} {v : Int32} : some (Value.int (up2 g f a v f a)) = some (Value.int v) := by rw [up2_s]
theorem ivn {g : Nat → Nat → Int32} {f a b : Nat} {v : Int32} (h : b ≠ a) : some (Value.int (up2 g f a v f b)) = some (Value.int (g f b)) := by rw [up2_a _ _ _ _ h]
theorem ne1_of {x : Int32} (h : ¬ x < 1) : ¬ x = 0 := fun e => h (by rw [e]; decide)
theorem ne1p {x : Int32} (h : 1 ≤ x) : ¬ x = 0 := fun e => by rw [e] at h; exact absurd h (by decide)
theorem ne0p {x : Int32} (h : 0 < x) : ¬ x = 0 := fun e => by rw [e] at h; exact absurd h (by decide)
def pv (x : Value) (S2 : PS) : Option Value → PS → Prop := fun v u => v = some x ∧ u = S2
def p0 (S2 : PS) : Option Value → PS → Prop := fun v u => v = none ∧ u = S2
theorem vp_of {i : Int32} {n : Nat} (hn : n < 2 ^ 31) (h1 : ¬ i < 0) (h2 : ¬ nI n ≤ i) : vp_in i n := by
  obtain ⟨j, hj, rfl⟩ := nI_of h1
  rw [nI_leI hn hj] at h2
  exact vp_in_nI (by omega) (by omega)
theorem vp_196 {i : Int32} {n : Nat} (hn : n = 196) (h1 : ¬ i < 0) (h2 : ¬ nI n ≤ i) : vp_in i n := vp_of (by omega) h1 h2
theorem ne0_of {x : Int32} (h : ¬ x ≤ 0) : ¬ x = 0 := fun e => h (by rw [e]; decide)
theorem and7_in (x : Int32) : vp_in (x &&& 7) 8 := pk_andIn x 3 (by decide) (by decide)
section CW
variable {p : Program} {l : Launch} {e : Env} {R : Room} {s : State} {m : MethodId} {args : Array Value} {below : List Frame} {meth : Method} {c : Code} {Q : State → Prop} {E : EV} {nL pc : Nat} {lv lv' : List (Nat × Value)} {st st0 : List Value} {S S2 : PS} {cells slots : Nat} {cc : ByteArray} {own : String} {ret : Option FieldType}
theorem j_callV1 (M : MC E p s m args meth c cc own nL ret) {y : MethodName} {C : String} {cb : ByteArray} {mxL n fr lo index b ci N : Nat} {rt : Option FieldType} {As : List Value} {x : Value} {fs : List Value} {T : u_T} (F : CFv y C cb mxL rt n) (hl' : Cond.methodLink own index y ∈ wsU)
    (hC : CT l y cb mxL rt fr lo 0 0 E (.ref b :: As) S (pv x S2)) (hbL : b ∈ sL S) (hF : pF E S b = .inr (ci, fs)) (hci : vwCl[ci]? = some (C, T, N)) (hn : As.length = n) (hR : fr + 1 ≤ R.frames ∧ 8 + (mxL + 11) + lo ≤ R.locals) (hW : (st.map fun v => v.category).sum ≤ 8) (hcs : cells ≤ R.cells ∧ slots ≤ R.slots)
    (hdg : decode cc pc = .ok (.invokevirtual index, 3)) (hst : st0 = As.reverse ++ .ref b :: st) (K : J p l e R s m args below meth c Q E nL (pc + 3) lv (x :: st) S2 cells slots) : J p l e R s m args below meth c Q E nL pc lv st0 S cells slots :=
  j_callV M F hl' hC hbL hF hci hn hR hW hcs hdg hst (fun v u h => by obtain ⟨rfl, rfl⟩ := h; exact K)
theorem j_callV0 (M : MC E p s m args meth c cc own nL ret) {y : MethodName} {C : String} {cb : ByteArray} {mxL n fr lo index b ci N : Nat} {rt : Option FieldType} {As : List Value} {fs : List Value} {T : u_T} (F : CFv y C cb mxL rt n) (hl' : Cond.methodLink own index y ∈ wsU)
    (hC : CT l y cb mxL rt fr lo 0 0 E (.ref b :: As) S (p0 S2)) (hbL : b ∈ sL S) (hF : pF E S b = .inr (ci, fs)) (hci : vwCl[ci]? = some (C, T, N)) (hn : As.length = n) (hR : fr + 1 ≤ R.frames ∧ 8 + (mxL + 11) + lo ≤ R.locals) (hW : (st.map fun v => v.category).sum ≤ 8) (hcs : cells ≤ R.cells ∧ slots ≤ R.slots)
    (hdg : decode cc pc = .ok (.invokevirtual index, 3)) (hst : st0 = As.reverse ++ .ref b :: st) (K : J p l e R s m args below meth c Q E nL (pc + 3) lv st S2 cells slots) : J p l e R s m args below meth c Q E nL pc lv st0 S cells slots :=
  j_callV M F hl' hC hbL hF hci hn hR hW hcs hdg hst (fun v u h => by obtain ⟨rfl, rfl⟩ := h; exact K)
theorem j_callS1 (M : MC E p s m args meth c cc own nL ret) {y : MethodName} {cb : ByteArray} {mxL n fr lo index : Nat} {rt : Option FieldType} {As : List Value} {x : Value} (F : CFs y cb mxL rt n) (hl' : Cond.methodLink own index y ∈ wsU)
    (hC : CT l y cb mxL rt fr lo 0 0 E As S (pv x S2)) (hn : As.length = n) (hR : fr + 1 ≤ R.frames ∧ 8 + (mxL + 11) + lo ≤ R.locals) (hW : (st.map fun v => v.category).sum ≤ 8) (hcs : cells ≤ R.cells ∧ slots ≤ R.slots)
    (hdg : decode cc pc = .ok (.invokestatic index, 3)) (hst : st0 = As.reverse ++ st) (K : J p l e R s m args below meth c Q E nL (pc + 3) lv (x :: st) S2 cells slots) : J p l e R s m args below meth c Q E nL pc lv st0 S cells slots :=
  j_callS M F hl' hC hn hR hW hcs hdg hst (fun v u h => by obtain ⟨rfl, rfl⟩ := h; exact K)
theorem j_callS0 (M : MC E p s m args meth c cc own nL ret) {y : MethodName} {cb : ByteArray} {mxL n fr lo index : Nat} {rt : Option FieldType} {As : List Value} (F : CFs y cb mxL rt n) (hl' : Cond.methodLink own index y ∈ wsU)
    (hC : CT l y cb mxL rt fr lo 0 0 E As S (p0 S2)) (hn : As.length = n) (hR : fr + 1 ≤ R.frames ∧ 8 + (mxL + 11) + lo ≤ R.locals) (hW : (st.map fun v => v.category).sum ≤ 8) (hcs : cells ≤ R.cells ∧ slots ≤ R.slots)
    (hdg : decode cc pc = .ok (.invokestatic index, 3)) (hst : st0 = As.reverse ++ st) (K : J p l e R s m args below meth c Q E nL (pc + 3) lv st S2 cells slots) : J p l e R s m args below meth c Q E nL pc lv st0 S cells slots :=
  j_callS M F hl' hC hn hR hW hcs hdg hst (fun v u h => by obtain ⟨rfl, rfl⟩ := h; exact K)
end CW
