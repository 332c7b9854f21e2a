/-! what act leaves, and how it catches -/
theorem exN_of {X : String} (h : ¬ exN X = 0) : X = "java/lang/IndexOutOfBoundsException" ∨ X = "java/lang/IllegalArgumentException" ∨ X = "java/lang/IllegalStateException" := by
  unfold exN at h
  by_cases c1 : X = "java/lang/IndexOutOfBoundsException"
  · exact Or.inl c1
  · rw [if_neg c1] at h
    by_cases c2 : X = "java/lang/IllegalArgumentException"
    · exact Or.inr (Or.inl c2)
    · rw [if_neg c2] at h
      by_cases c3 : X = "java/lang/IllegalStateException"
      · exact Or.inr (Or.inr c3)
      · rw [if_neg c3] at h; exact absurd rfl h
theorem xN_x {t : Nat × Int32 × PS} {X : String} {u : PS} (h : xN t X u) : (X = "java/lang/IndexOutOfBoundsException" ∨ X = "java/lang/IllegalArgumentException" ∨ X = "java/lang/IllegalStateException") ∧ u = t.2.2 := ⟨exN_of (by rw [← h.1]; exact h.2.1), h.2.2⟩
abbrev hhA : List (Nat × Nat × Nat × Nat) := [(19, 327, 330, 94), (19, 327, 333, 96), (19, 327, 336, 59)]
section ACX
variable {p : Program} {l : Launch} {e : Env} {R : Room} {s : State} {m : MethodId} {args : Array Value} {below : List Frame} {meth : Method} {c : Code} {Q : State → Prop} {E : EV} {nL pc : Nat} {lv lv' : List (Nat × Value)} {st st0 : List Value} {S S2 : PS} {cells slots : Nat} {ret : Option FieldType}
theorem act_exc {post : Option Value → PS → Prop} {mc ms : Nat} (M : MC E p s m args meth c cL_act RL 10 none) (hT : c.exceptionTable.toList = tableOf hhA) (hn : NC3 s) {X : String} (hX : X = "java/lang/IndexOutOfBoundsException" ∨ X = "java/lang/IllegalArgumentException" ∨ X = "java/lang/IllegalStateException")
    (h1 : ∀ x ∈ tableOf hhA, covers x pc = true) (hc : cells ≤ mc) (hs : slots ≤ ms) (hp : post none S) : JX p l e R s m args below meth c (vx_MQ below (QC E post) NX args s mc ms (AE E)) E 10 pc lv st X S cells slots := by
  have fin : ∀ (q : Nat) (k n : Nat), decode cL_act k = .ok (.astore 7, 2) → decode cL_act (k + 2) = .ok (.return_, 1) → J p l e R s m args below meth c (vx_MQ below (QC E post) NX args s mc ms (AE E)) E 10 k lv [.ref q] S cells slots := by
    intro q k n d1 d2
    refine j_locals (lv' := []) (fun q hq => absurd hq List.not_mem_nil) ?_
    refine j_astore (lv' := [(7, .ref q)]) M d1 (by decide) rfl ?_
    exact jh_ret (j_vret M d2 hc hs hp)
  rcases hX with rfl | rfl | rfl
  · exact jx_catch M [] ⟨19, 327, 330, 94⟩ [⟨19, 327, 333, 96⟩, ⟨19, 327, 336, 59⟩] hT (fun z hz => absurd hz List.not_mem_nil) (h1 _ (by simp [tableOf])) (by decide) wL_L_94 nC_532 (fun q => fin q 330 0 dL_act_330 dL_act_332)
  · refine jx_catch M [⟨19, 327, 330, 94⟩] ⟨19, 327, 333, 96⟩ [⟨19, 327, 336, 59⟩] hT (fun z hz => ?_) (h1 _ (by simp [tableOf])) (by decide) wL_L_96 nC_294 (fun q => fin q 333 0 dL_act_333 dL_act_335)
    rw [List.mem_singleton.mp hz]
    exact Or.inr ⟨by decide, _, wL_L_94, hn.1⟩
  · refine jx_catch M [⟨19, 327, 330, 94⟩, ⟨19, 327, 333, 96⟩] ⟨19, 327, 336, 59⟩ [] hT (fun z hz => ?_) (h1 _ (by simp [tableOf])) (by decide) wL_L_59 nC_602 (fun q => fin q 336 0 dL_act_336 dL_act_338)
    rcases List.mem_cons.mp hz with e | hz
    · rw [e]; exact Or.inr ⟨by decide, _, wL_L_94, hn.2.1⟩
    · rw [List.mem_singleton.mp hz]; exact Or.inr ⟨by decide, _, wL_L_96, hn.2.2⟩
end ACX
/-- other rows but one, and old objects, stay -/
def KB (K : Nat → Nat) (sa : Nat) (S u : PS) : Prop := (∀ x, x ∈ sL S → x ≠ sa → x ≠ K 6 → x ≠ K 7 → x ≠ K 8 → x ≠ K 9 → x ≠ K 10 → sA u x = sA S x) ∧ ∀ x, x ∈ sL S → x ∈ sL u ∧ sK u x = sK S x ∧ sN u x = sN S x
/-- a row that is none of the site's -/
def FR (K : Nat → Nat) (S : PS) (sa n : Nat) : Prop := InK S sa 9 ∧ sN S sa = n ∧ (sa ≠ K 6 ∧ sa ≠ K 7 ∧ sa ≠ K 8 ∧ sa ≠ K 9 ∧ sa ≠ K 10)
def ACT (E : EV) (K : Nat → Nat) (S : PS) (sa N : Nat) (u : PS) : Prop := IV E K u (N + 5) ∧ MO K S u ∧ KB K sa S u ∧ ((sA u sa 0 = 0 ∧ NC K S u ∧ TT K S u) ∨ (sA u sa 0 = 1 ∧ sI u 40 (K 1) = sI S 40 (K 1)))
section ACP
variable {E : EV} {K : Nat → Nat} {S T u : PS} {N sa n : Nat}
theorem KA.kb (h : KA K S u) : KB K sa S u := ⟨fun x hx _ a b c d e => h.1 x hx a b c d e, h.2⟩
theorem FR.row (h : FR K S sa n) (k : KA K S u) : sA u sa = sA S sa := k.1 sa h.1.1 h.2.2.1 h.2.2.2.1 h.2.2.2.2.1 h.2.2.2.2.2.1 h.2.2.2.2.2.2
theorem FR.to (h : FR K S sa n) (k : KA K S u) : FR K u sa n := ⟨k.ink h.1, (k.2 sa h.1.1).2.2.trans h.2.1, h.2.2⟩
/-- an act that lets no wind turn anything -/
theorem act_ok (hf : FR K S sa 1) (h0 : sA S sa 0 = 0) (hk : KP E K S u (N + 5)) (ka : KA K S u) : ACT E K S sa N u :=
  ⟨hk.1, hk.2.1, ka.kb, Or.inl ⟨by rw [hf.row ka]; exact h0, hk.2.2.1, hk.2.2.2⟩⟩
theorem row_1 (h : FR K S sa n) {v : Int32} : sA (uA S sa (upd (sA S sa) (0 : Int32).toNatClampNeg v)) sa 0 = v := by
  show va_up (sA S) sa (upd (sA S sa) 0 v) sa 0 = v
  rw [va_up_self]
  exact upd_s _ 0 _
theorem act_wind1 (h : IV E K S N) (hf : FR K S sa 1) {t : Int32} (hu : u = (m_rest K (uA S sa (upd (sA S sa) (0 : Int32).toNatClampNeg 1)) t).2.2) : ACT E K S sa N u := by
  have k1 : KP E K S (uA S sa (upd (sA S sa) (0 : Int32).toNatClampNeg 1)) N := iv_row h hf.2.2.1
  have r := act_rest k1.1 t
  have ka := ka_rest (K := K) (S := uA S sa (upd (sA S sa) (0 : Int32).toNatClampNeg 1)) t
  have f1 : FR K (uA S sa (upd (sA S sa) (0 : Int32).toNatClampNeg 1)) sa 1 := ⟨hf.1, hf.2.1, hf.2.2⟩
  rw [← hu] at r ka
  refine ⟨r.1.mono (by omega), k1.2.1.tr r.2.1, ⟨fun x hx hne a b c d e => (ka.1 x hx a b c d e).trans (va_up_ne _ _ hne), ka.2⟩, Or.inr ⟨by rw [f1.row ka]; exact row_1 hf, r.2.2⟩⟩
theorem nmax {n : Nat} (h : n ≤ 4) : imax 1 (nI n) = nI (max 1 n) ∧ 0 < nI (max 1 n) := by
  have : n = 0 ∨ n = 1 ∨ n = 2 ∨ n = 3 ∨ n = 4 := by omega
  rcases this with rfl | rfl | rfl | rfl | rfl <;> decide
theorem nrem : ∀ k q : Nat, k < 4 → 0 < q → q ≤ 4 → nI k + 1 - (nI k + 1) / nI q * nI q = nI ((k + 1) % q) := by
  intro k q hk h0 hq
  have h1 : k = 0 ∨ k = 1 ∨ k = 2 ∨ k = 3 := by omega
  have h2 : q = 1 ∨ q = 2 ∨ q = 3 ∨ q = 4 := by omega
  rcases h1 with rfl | rfl | rfl | rfl <;> rcases h2 with rfl | rfl | rfl | rfl <;> decide
end ACP
