/-! the law's build -/
abbrev hhB : List (Nat × Nat × Nat × Nat) := [(0, 87, 90, 59)]
section BX
variable {E : EV} {K : Nat → Nat} {S u : PS} {N : Nat}
theorem bl_ok {v A M B : Int32} (n a b : Nat) (hA : A = nI a) (hM : M = nI n) (hB : B = nI b) (hn : 0 < n) (h : a + n ≤ b + 1) (hb : b < 2 ^ 30) : OKw (A + m_below K S v M) A B := by
  subst hA hM hB
  obtain ⟨r, hr, e⟩ := below_in (K := K) (S := S) (v := v) hn (by omega)
  rw [e, nI_add]
  exact okw_nI (by omega) (by omega) (by omega)
theorem bl_ok0 {v M B : Int32} (n b : Nat) (hM : M = nI n) (hB : B = nI b) (hn : 0 < n) (h : n ≤ b + 1) (hb : b < 2 ^ 30) : OKw (m_below K S v M) 0 B := by
  subst hM hB
  obtain ⟨r, hr, e⟩ := below_in (K := K) (S := S) (v := v) hn (by omega)
  rw [e]
  exact okw_nI (a := 0) (by omega) (by omega) (by omega)
theorem bl_cell {v : Int32} {n : Nat} (hn : 0 < n) (hn2 : n ≤ 196) (hc : m_cells K S = nI n) : ¬ m_hasCell K S (m_below K S v (nI n)) = 0 := by
  obtain ⟨r, hr, e⟩ := below_in (K := K) (S := S) (v := v) hn (by omega)
  rw [e]
  exact hasCell_ok hc (by omega) hr
theorem exN3 {X : String} {t : Nat × Int32 × PS} (h : xN t X u) (ht : t.1 = 0 ∨ t.1 = 3) : X = "java/lang/IllegalStateException" ∧ u = t.2.2 := by
  obtain ⟨hX, hu⟩ := xN_x h
  refine ⟨?_, hu⟩
  have e := h.1
  rcases hX with rfl | rfl | rfl
  · rw [show exN "java/lang/IndexOutOfBoundsException" = 1 from by decide] at e; rw [e] at ht; rcases ht with ht | ht <;> exact absurd ht (by decide)
  · rw [show exN "java/lang/IllegalArgumentException" = 2 from by decide] at e; rw [e] at ht; rcases ht with ht | ht <;> exact absurd ht (by decide)
  · rfl
theorem crane_03 {w a r o b : Int32} (hc : ¬ m_hasCell K S w = 0) (h1 : OKw a 3 30) (h2 : OKw r 2 9) (h3 : OKw o 5 400) (h4 : OKw b 0 7) : (m_crane K S w a r o b).1 = 0 ∨ (m_crane K S w a r o b).1 = 3 := by
  unfold m_crane
  rw [if_neg hc, if_pos h1, if_pos h2, if_pos h3, if_pos h4]
  by_cases c6 : 4 ≤ nI (sZ S (K 13))
  · rw [if_pos c6]; exact Or.inr rfl
  · rw [if_neg c6]
    by_cases c7 : m_canFound K S w = 0
    · rw [if_pos c7]; exact Or.inr rfl
    · rw [if_neg c7]; exact Or.inl rfl
theorem load_03 {w g : Int32} (hc : ¬ m_hasCell K S w = 0) (h1 : OKw g 1 60) : (m_load K S w g).1 = 0 ∨ (m_load K S w g).1 = 3 := by
  unfold m_load
  rw [if_neg hc, if_pos h1]
  by_cases c6 : 8 ≤ nI (sZ S (K 14))
  · rw [if_pos c6]; exact Or.inr rfl
  · rw [if_neg c6]
    by_cases c7 : m_towerOn K S w = -1
    · rw [if_pos c7]; exact Or.inl rfl
    · rw [if_neg c7]; exact Or.inr rfl
def BLD (E : EV) (K : Nat → Nat) (S : PS) (N : Nat) (u : PS) : Prop := IV E K u N ∧ MO K S u ∧ KA K S u ∧ TT K S u
theorem newcrane2 {q : Nat} {T : PS} (h : IV E K S N) {w a r o b : Int32} (h0 : (m_crane K S w a r o b).1 = 0) (hr : r ≤ 20) (hq : q ∉ sL S) (hT : T = m_drawIn K (n_Crane (nw S q 0) q (K 2) (nI (sZ S (K 13))) w a r o) q b) (hh : m_hindrance K T q 0 0 = 0) {v : Int32} (A : Add0 (uI T 51 (K 13) v) (K 13) q u) (hG : GW K u) (hL : LW E K u) (hdu : eDF E ∉ sL u) : BLD E K S N u ∧ sZ u (K 13) = sZ S (K 13) + 1 := by
  have r2 := newcrane h h0 hq hT hh A hG hL
  have e := es_Crane (g := K 2) (n := nI (sZ S (K 13))) (t := w) (m1 := a) (r := r) (o := o) hq
  have eT : ES S T := by
    have gC : GW K (n_Crane (nw S q 0) q (K 2) (nI (sZ S (K 13))) w a r o) := gw_Crane hq hr h.g
    have gD := g_drawIn gC.1 gC.2.1 gC.2.2 (ink_Crane (S := S) (q := q)).1 (ink_Crane (S := S) (q := q)).2 b
    rw [hT]
    exact e.tr (ES.ss gD.2)
  have hA : sA T = sA S := by rw [hT]; rfl
  have hdT : eDF E ∉ sL T := fun hm => hdu (A.old (a := eDF E) hm).1
  have kc := iv_crane0 h hq hr hT hdT
  have tt : TT K T u := by
    obtain ⟨a1, -, -, -⟩ := A.flds
    unfold TT
    rw [a1]
    rfl
  refine ⟨⟨r2.1, r2.2, ka_add eT hA A, kc.1.2.2.2.tr tt⟩, ?_⟩
  obtain ⟨q1, T1, h1, rfl⟩ := A
  have z : sZ T (K 13) = sZ S (K 13) := (eT _ (h.l.1 13 (by decide) (by decide)).1.1).2.2.2.2.1
  show va_up _ (K 13) (sZ T (K 13) + 1) (K 13) = _
  rw [va_up_self, z]
end BX
section BXJ
variable {p : Program} {l : Launch} {e : Env} {R : Room} {s : State} {m : MethodId} {args : Array Value} {below : List Frame} {meth : Method} {c : Code} {E : EV} {pc : Nat} {lv : List (Nat × Value)} {st : List Value} {S : PS} {cells slots : Nat}
theorem jx_df {nL : Nat} {cc : ByteArray} {own : String} {ret : Option FieldType} {Q : State → Prop} {st : List Value} {X : String} (M : MC E p s m args meth c cc own nL ret) (K : eDF E ∉ sL S → JX p l e R s m args below meth c Q E nL pc lv st X S cells slots) : JX p l e R s m args below meth c Q E nL pc lv st X S cells slots := by
  intro H locs ls q ce hH hS hl h1 h2 h3
  obtain ⟨cell, -, -, -, -, -, -, h7⟩ := M.vp.2.2.1.2.2.1.2
  exact K (fun ha => h7 (hH.age ha)) H locs ls q ce hH hS hl h1 h2 h3
theorem build_exc {post : Option Value → PS → Prop} {mc ms : Nat} (M : MC E p s m args meth c cL_build RL 4 none) (hT : c.exceptionTable.toList = tableOf hhB) {X : String} (hX : X = "java/lang/IllegalStateException")
    (h1 : ∀ x ∈ tableOf hhB, covers x pc = true) (hc : cells ≤ mc) (hs : slots ≤ ms) (hp : post none S) : JX p l e R s m args below meth c (vx_MQ below (QC E post) NX args s mc ms (AE E)) E 4 pc lv st X S cells slots := by
  subst hX
  refine jx_catch M [] ⟨0, 87, 90, 59⟩ [] hT (fun z hz => absurd hz List.not_mem_nil) (h1 _ (by simp [tableOf])) (by decide) wL_L_59 nC_602 (fun q => ?_)
  refine j_locals (lv' := []) (fun q hq => absurd hq List.not_mem_nil) ?_
  refine j_astore_n (lv' := [(3, .ref q)]) M dL_build_90 rfl (by decide) rfl ?_
  exact jh_ret (j_vret M dL_build_91 hc hs hp)
end BXJ
