/-! what all cranes' arms are at most; whom references name; loops' small rows -/
def AW (S : PS) : Prop := ∀ a, InK S a 0 → ¬ sI S 9 a < 0 ∧ sI S 9 a ≤ 20 ∧ sI S 6 a ≤ 20
def WM (S : PS) : Prop := (∀ a, InK S a 0 → ∀ q, sM S 14 a = some q → InK S q 2) ∧ ∀ a, InK S a 2 → ∀ q, sM S 22 a = some q → InK S q 0
theorem fst_of {x : Int32} {S : PS} {t : Int32 × PS} (h : (x, S) = t) : some (Value.int x) = some (Value.int t.1) := by rw [← h]
theorem snd_of {x : Int32} {S : PS} {t : Int32 × PS} (h : (x, S) = t) : S = t.2 := by rw [← h]
theorem AW.uI {S : PS} {f a : Nat} {v : Int32} (h6 : f ≠ 6) (h9 : f ≠ 9) (h : AW S) : AW (uI S f a v) :=
  fun c hc => by have := h c hc; simpa [up2, Ne.symm h6, Ne.symm h9, sI] using this
theorem AW.uM {S : PS} {f a : Nat} {v : Option Nat} (h : AW S) : AW (uM S f a v) := h
theorem AW.uA {S : PS} {a : Nat} {v : Nat → Int32} (h : AW S) : AW (uA S a v) := h
theorem WM.uI {S : PS} {f a : Nat} {v : Int32} (h : WM S) : WM (uI S f a v) := h
theorem WM.uA {S : PS} {a : Nat} {v : Nat → Int32} (h : WM S) : WM (uA S a v) := h
theorem LSt.el {S : PS} {h k B j : Nat} (hL : LSt S h k B) (hj : j < sZ S h) : InK S (el S h j) k := by
  obtain ⟨t, -, -, -, -, -, e⟩ := hL.2.2 j hj
  exact e
theorem WM.ld {S : PS} (h : WM S) {a : Nat} (h1 : a ∈ sL S) (h2 : sK S a = 0) (hs : sM S 14 a = some ((sM S 14 a).getD 0)) : InK S ((sM S 14 a).getD 0) 2 := h.1 a ⟨h1, h2⟩ _ hs
theorem WM.ca {S : PS} (h : WM S) {a : Nat} (h1 : a ∈ sL S) (h2 : sK S a = 2) (hs : sM S 22 a = some ((sM S 22 a).getD 0)) : InK S ((sM S 22 a).getD 0) 0 := h.2 a ⟨h1, h2⟩ _ hs
theorem arm_nat {x : Int32} (h1 : ¬ x < 0) (h2 : x ≤ 20) : x = nI x.toNatClampNeg ∧ x.toNatClampNeg ≤ 20 := by
  obtain ⟨j, hj, rfl⟩ := nI_of h1
  have h3 : nI j ≤ nI 20 := h2
  rw [nI_leI hj (by decide)] at h3
  rw [nI_clamp hj]
  exact ⟨rfl, h3⟩
section OP
variable {p : Program} {l : Launch} {e : Env} {R : Room} {s : State} {m : MethodId} {args : Array Value} {below : List Frame} {meth : Method} {c : Code} {Q : State → Prop} {E : EV} {nL pc : Nat} {lv lv' : List (Nat × Value)} {st st0 : List Value} {S S2 : PS} {cells slots : Nat}
theorem j_opt {x : Option Nat} (kn : x = none → J p l e R s m args below meth c Q E nL pc lv (.null :: st) S cells slots) (ks : x = some (x.getD 0) → ¬ x = none → J p l e R s m args below meth c Q E nL pc lv (.ref (x.getD 0) :: st) S cells slots) : J p l e R s m args below meth c Q E nL pc lv (va_rf x :: st) S cells slots := by
  cases x with
  | none => exact kn rfl
  | some q => exact ks rfl (fun h => by cases h)
theorem j_pick (ks : List Nat) (h : lv_pick lv ks = lv') (K : J p l e R s m args below meth c Q E nL pc lv' st S cells slots) : J p l e R s m args below meth c Q E nL pc lv st S cells slots :=
  fun H locs ls hH hS hl => K H locs ls hH hS (lv_sub hl ks h)
theorem j_acmpo_eq {cc : ByteArray} {own : String} {ret : Option FieldType} (M : MC E p s m args meth c cc own nL ret) {x : Option Nat} {b : Nat} {off : Int} {tgt : Nat} (hdg : decode cc pc = .ok (.if_acmp .eq off, 3)) (ht : (pc : Int) + off = (tgt : Int)) (kt : x = some b → J p l e R s m args below meth c Q E nL tgt lv st S cells slots) (kf : ¬ x = some b → J p l e R s m args below meth c Q E nL (pc + 3) lv st S cells slots) : J p l e R s m args below meth c Q E nL pc lv (.ref b :: va_rf x :: st) S cells slots :=
  fun H locs ls hH hS hl => lv_acmp_eq (rx := x) (ry := some b) M.hx M.hb hdg ht (fun q => kt q H locs ls hH hS hl) (fun q => kf q H locs ls hH hS hl)
theorem j_acmpo_ne {cc : ByteArray} {own : String} {ret : Option FieldType} (M : MC E p s m args meth c cc own nL ret) {x : Option Nat} {b : Nat} {off : Int} {tgt : Nat} (hdg : decode cc pc = .ok (.if_acmp .ne off, 3)) (ht : (pc : Int) + off = (tgt : Int)) (kt : ¬ x = some b → J p l e R s m args below meth c Q E nL tgt lv st S cells slots) (kf : x = some b → J p l e R s m args below meth c Q E nL (pc + 3) lv st S cells slots) : J p l e R s m args below meth c Q E nL pc lv (.ref b :: va_rf x :: st) S cells slots :=
  fun H locs ls hH hS hl => lv_acmp_ne (rx := x) (ry := some b) M.hx M.hb hdg ht (fun q => kt q H locs ls hH hS hl) (fun q => kf q H locs ls hH hS hl)
end OP
