/-! what is new comes into a list: the world goes through; load, wind, zone, crane, yard -/
theorem ink_inv {S : PS} {q k a k2 : Nat} (h : InK (nw S q k) a k2) : (a ≠ q ∧ InK S a k2) ∨ (a = q ∧ k2 = k) := by
  obtain ⟨h1, h2⟩ := h
  by_cases e : a = q
  · subst e
    exact Or.inr ⟨rfl, h2.symm.trans (va_up_self _ _ _)⟩
  · have h1 : a ∈ sL S ++ [q] := h1
    rcases List.mem_append.mp h1 with h3 | h3
    · exact Or.inl ⟨e, h3, (va_up_ne _ _ e).symm.trans h2⟩
    · exact absurd (List.mem_singleton.mp h3) e
theorem gw_nw {K : Nat → Nat} {S : PS} {q k : Nat} (hq : q ∉ sL S) (hk : k ≠ 0) (h : GW K S) : GW K (nw S q k) := by
  refine ⟨h.1.ext (ES.nw hq) (fun a ha => ?_), fun a ha => ?_, fun a ha x hx => ?_, fun a ha x hx => ?_⟩
  · rcases ink_inv ha with ⟨e, h2⟩ | ⟨-, e⟩
    · exact (va_up_ne _ _ e).trans (h.1.r0 h2)
    · exact absurd e.symm hk
  · rcases ink_inv ha with ⟨e, h2⟩ | ⟨-, e⟩
    · have h3 := h.2.1 a h2
      have e9 : sI (nw S q k) 9 a = sI S 9 a := va_up_ne _ _ e
      have e6 : sI (nw S q k) 6 a = sI S 6 a := va_up_ne _ _ e
      rw [e9, e6]
      exact h3
    · exact absurd e.symm hk
  · rcases ink_inv ha with ⟨e, h2⟩ | ⟨-, e⟩
    · have e9 : sM (nw S q k) 14 a = sM S 14 a := va_up_ne _ _ e
      rw [e9] at hx
      exact ink_nw (h.2.2.1 a h2 x hx) hq
    · exact absurd e.symm hk
  · by_cases e : a = q
    · subst e
      have e9 : sM (nw S a k) 22 a = none := va_up_self _ _ _
      rw [e9] at hx
      cases hx
    · rcases ink_inv ha with ⟨e, h2⟩ | ⟨e2, -⟩
      · have e9 : sM (nw S q k) 22 a = sM S 22 a := va_up_ne _ _ e
        rw [e9] at hx
        exact ink_nw (h.2.2.2 a h2 x hx) hq
      · exact absurd e2 e
theorem gw_Load {K : Nat → Nat} {S : PS} {q : Nat} {n c1 w : Int32} (h : GW K S) : GW K (n_Load S q n c1 w) :=
  ⟨h.1, AW.uI (by decide) (by decide) (AW.uI (by decide) (by decide) (AW.uI (by decide) (by decide) (AW.uM h.2.1))), WM.uI (WM.uI (WM.uI (WM.uMn h.2.2)))⟩
theorem gw_Report {K : Nat → Nat} {S : PS} {q : Nat} {t f b : Int32} (h : GW K S) : GW K (n_Report S q t f b) :=
  ⟨h.1, AW.uI (by decide) (by decide) (AW.uI (by decide) (by decide) (AW.uI (by decide) (by decide) h.2.1)), h.2.2⟩
theorem gw_Zone {K : Nat → Nat} {S : PS} {q : Nat} {t l1 b r f u1 : Int32} (h : GW K S) : GW K (n_Zone S q t l1 b r f u1) :=
  ⟨h.1, AW.uI (by decide) (by decide) (AW.uI (by decide) (by decide) (AW.uI (by decide) (by decide) (AW.uI (by decide) (by decide) (AW.uI (by decide) (by decide) (AW.uI (by decide) (by decide) h.2.1))))), h.2.2⟩
theorem es_Crane {S : PS} {q g : Nat} {n t m1 r o : Int32} (hq : q ∉ sL S) : ES S (n_Crane (nw S q 0) q g n t m1 r o) := fun a ha =>
  ⟨List.mem_append_left _ ha, va_up_ne _ _ (nel ha hq), fun _ => (up2_a _ _ _ _ (nel ha hq)).trans (va_up_ne _ _ (nel ha hq)), va_up_ne _ _ (nel ha hq), va_up_ne _ _ (nel ha hq), rfl, fun _ => rfl⟩
theorem ink_Crane {S : PS} {q g : Nat} {n t m1 r o : Int32} : InK (n_Crane (nw S q 0) q g n t m1 r o) q 0 := ⟨List.mem_append_right _ (List.mem_singleton.mpr rfl), va_up_self _ _ _⟩
theorem gw_Crane {K : Nat → Nat} {S : PS} {q : Nat} {n t m1 r o : Int32} (hq : q ∉ sL S) (hr : r ≤ 20) (h : GW K S) : GW K (n_Crane (nw S q 0) q (K 2) n t m1 r o) := by
  have hi : ∀ f a, a ≠ q → sI (n_Crane (nw S q 0) q (K 2) n t m1 r o) f a = sI S f a := fun f a ha => by
    refine (up2_a _ _ _ _ ha).trans ((up2_a _ _ _ _ ha).trans ((up2_a _ _ _ _ ha).trans ((up2_a _ _ _ _ ha).trans ((up2_a _ _ _ _ ha).trans ((up2_a _ _ _ _ ha).trans ((up2_a _ _ _ _ ha).trans ((up2_a _ _ _ _ ha).trans ?_)))))))
    exact (up2_a _ _ _ _ ha).trans ((up2_a _ _ _ _ ha).trans ((up2_a _ _ _ _ ha).trans ((up2_a _ _ _ _ ha).trans ((up2_a _ _ _ _ ha).trans ((up2_a _ _ _ _ ha).trans (va_up_ne _ _ ha))))))
  have hm : ∀ f a, a ≠ q → sM (n_Crane (nw S q 0) q (K 2) n t m1 r o) f a = sM S f a := fun f a ha => (up2_a _ _ _ _ ha).trans (va_up_ne _ _ ha)
  have inv : ∀ {a k}, InK (n_Crane (nw S q 0) q (K 2) n t m1 r o) a k → (a ≠ q ∧ InK S a k) ∨ (a = q ∧ k = 0) := fun h => ink_inv h
  refine ⟨h.1.ext (es_Crane hq) (fun a ha => ?_), fun a ha => ?_, fun a ha x hx => ?_, fun a ha x hx => ?_⟩
  · rcases inv ha with ⟨e, h2⟩ | ⟨e, -⟩
    · exact ((es_Crane hq a h2.1).2.2.1 0).trans (h.1.r0 h2)
    · subst e
      exact up2_s _ 0 a _
  · rcases inv ha with ⟨e, h2⟩ | ⟨e, -⟩
    · rw [hi 9 a e, hi 6 a e]
      exact h.2.1 a h2
    · subst e
      have e9 : sI (n_Crane (nw S a 0) a (K 2) n t m1 r o) 9 a = 0 := up2_s _ 9 a _
      have e6 : sI (n_Crane (nw S a 0) a (K 2) n t m1 r o) 6 a = r := up2_s _ 6 a _
      rw [e9, e6]
      exact ⟨by decide, by decide, hr⟩
  · rcases inv ha with ⟨e, h2⟩ | ⟨e, -⟩
    · rw [hm 14 a e] at hx
      exact (es_Crane hq).k (h.2.2.1 a h2 x hx)
    · subst e
      have e9 : sM (n_Crane (nw S a 0) a (K 2) n t m1 r o) 14 a = none := up2_s _ 14 a _
      rw [e9] at hx
      cases hx
  · by_cases e : a = q
    · subst e
      rcases inv ha with ⟨e, h2⟩ | ⟨e, e2⟩
      · exact absurd rfl e
      · cases e2
    · rcases inv ha with ⟨e, h2⟩ | ⟨e2, -⟩
      · rw [hm 22 a e] at hx
        exact (es_Crane hq).k (h.2.2.2 a h2 x hx)
      · exact absurd e2 e
theorem gw_add {K : Nat → Nat} {S u : PS} {x n : Nat} {v : Int32} (h : GW K S) (L : LD K S) (n1 : 11 ≤ n) (n2 : n ≤ 14) (A : Add0 (uI S 51 (K n) v) (K n) x u) (hx : InK S x (lk n)) (hB : sZ S (K n) < lB n) : GW K u := by
  obtain ⟨f1, f2, f3, f4⟩ := A.flds
  have hA2 : AW (uI S 51 (K n) v) := AW.uI (by decide) (by decide) h.2.1
  refine ⟨WS.add (S := uI S 51 (K n) v) h.1.uI L n1 n2 A hx hB, fun a ha => ?_, fun a ha y hy => ?_, fun a ha y hy => ?_⟩
  · rw [f1]
    exact hA2 a (A.inkI (by decide) ha)
  · rw [f3] at hy
    exact A.ink (h.2.2.1 a (A.inkI (by decide) ha) y hy)
  · rw [f3] at hy
    exact A.ink (h.2.2.2 a (A.inkI (by decide) ha) y hy)
theorem LW.uI {E : EV} {K : Nat → Nat} {S : PS} {f a : Nat} {v : Int32} (h : LW E K S) : LW E K (uI S f a v) := h
theorem WS.ld {E : EV} {K : Nat → Nat} {S : PS} (h : LW E K S) : LD K S := h.2
section DF
variable {p : Program} {l : Launch} {e : Env} {R : Room} {s : State} {m : MethodId} {args : Array Value} {below : List Frame} {meth : Method} {c : Code} {Q : State → Prop} {E : EV} {nL pc : Nat} {lv lv' : List (Nat × Value)} {st st0 : List Value} {S S2 : PS} {cells slots : Nat} {cc : ByteArray} {own : String} {ret : Option FieldType}
theorem HP.age {S : PS} {H : Heap} (h : HP E S H) {a : Nat} (ha : a ∈ sL S) : eB E ≤ a := by
  obtain ⟨k, hk⟩ := pGet (E := E) ha
  exact h.2.2.2 k _ hk
theorem HP.apart {S : PS} {H : Heap} (h : HP E S H) : (sL S).Nodup := by
  refine List.pairwise_iff_getElem.mpr ?_
  intro i j hi hj hij he
  have e1 : (pool E S)[i]? = some ((sL S)[i], pF E S (sL S)[i]) := by
    show ((sL S).map fun a => (a, pF E S a))[i]? = _
    rw [List.getElem?_map, List.getElem?_eq_getElem hi]
    rfl
  have e2 : (pool E S)[j]? = some ((sL S)[j], pF E S (sL S)[j]) := by
    show ((sL S).map fun a => (a, pF E S a))[j]? = _
    rw [List.getElem?_map, List.getElem?_eq_getElem hj]
    rfl
  exact absurd (h.2.2.1 i j _ _ e1 e2 he) (Nat.ne_of_lt hij)
theorem j_df (M : MC E p s m args meth c cc own nL ret) (K : eDF E ∉ sL S → (sL S).Nodup → J p l e R s m args below meth c Q E nL pc lv st S cells slots) : J p l e R s m args below meth c Q E nL pc lv st S cells slots := by
  intro H locs ls hH hS hl
  obtain ⟨cell, -, -, -, -, -, -, h7⟩ := M.vp.2.2.1.2.2.1.2
  exact K (fun ha => h7 (hH.age ha)) hH.apart H locs ls hH hS hl
end DF
theorem le20_of {r : Int32} (h : OKw r 2 9) : r ≤ 20 := Int32.le_trans (Int32.not_lt.mp h.2) (by decide)
theorem gw_clr {K : Nat → Nat} {S u : PS} {n : Nat} (h : GW K S) (L : LD K S) (n1 : 11 ≤ n) (n2 : n ≤ 14) (A : Clr S (K n) u) : GW K u := by
  obtain ⟨f1, f2, f3, f4, f5, f6, f7, f8⟩ := A.flds
  refine ⟨WS.clr h.1 L n1 n2 A, fun a ha => ?_, fun a ha y hy => ?_, fun a ha y hy => ?_⟩
  · rw [f8 9 a (by decide), f8 6 a (by decide)]
    exact h.2.1 a (A.ink.mp ha)
  · rw [f4] at hy
    exact A.ink.mpr (h.2.2.1 a (A.ink.mp ha) y hy)
  · rw [f4] at hy
    exact A.ink.mpr (h.2.2.2 a (A.ink.mp ha) y hy)
def laid (K : Nat → Nat) (S : PS) (a b : Int32) (u : PS) : Prop := ∃ u1 u2 u3 u4, Clr (m_fill K (uI (uI S 17 (K 2) a) 18 (K 2) b) (K 6) 0) (K 11) u1 ∧ Clr u1 (K 12) u2 ∧ Clr u2 (K 13) u3 ∧ Clr u3 (K 14) u4 ∧ u = uI (uI (uI u4 39 (K 1) 0) 40 (K 1) 0) 41 (K 1) 0
def m_load (K : Nat → Nat) (S : PS) (w : Int32) (g : Int32) : Nat × Int32 × PS :=
  if m_hasCell K S w = 0 then
    (1, 0, S)
  else
    if OKw g 1 60 then
      if 8 ≤ (nI (sZ S (K 14))) then
        (3, 0, S)
      else
        if (m_towerOn K S w) = (-1) then
          (0, 0, S)
        else
          (3, 0, S)
    else
      (2, 0, S)
theorem cf_X7_load : CFv yX7_load RX7 cX7_load 4 (some .int) 2 := ⟨wC_X7_load, wI_X7_load, wV_X7_X7_load, wN_X7, by decide +kernel⟩
set_option maxHeartbeats 4000000 in
set_option maxRecDepth 100000 in
theorem cx_load {l : Launch} (hlt : l.stackTraces = false) {E : EV} {K : Nat → Nat} {S : PS} (hW : WS K S) (hA : AW S) (hM : WM S) (w : Int32) (g : Int32) (hLW : LW E K S) : CX l yX7_load cX7_load 4 (some .int) 7 149 4 31 E [.ref (K 0), .int w, .int g] S (fun v u => (m_load K S w g).1 = 0 ∧ ∃ q T, q ∉ sL S ∧ T = n_Load (nw S q 2) q (nI (sZ S (K 14))) w g ∧ v = some (.int (nI (sZ S (K 14)))) ∧ Add0 (uI T 51 (K 14) (sI T 51 (K 14) + 1)) (K 14) q u ∧ GW K u ∧ LW E K u) (xN (m_load K S w g)) := by
  refine CX.of (by decide) (Nat.le_of_ble_eq_true rfl) ?_
  intro p e s m below meth c M ht
  have M : MC E p s m _ meth c cX7_load RX7 4 (some .int) := M
  show J p l e _ s m _ below meth c _ E 4 0 [(0, .ref (K 0)), (1, .int w), (2, .int g)] [] S 0 0
  refine j_aload_n M dX7_load_0 rfl ?_
  refine j_iload_n M dX7_load_1 rfl ?_
  refine jx_callV (As := [.int w]) M cf_X7_needCell wM_X7_50 (cx_needCell hlt hW w) hW.k0.1 (pAt_7 E _ hW.k0.2) rfl rfl ⟨Nat.le_of_ble_eq_true rfl, Nat.le_of_ble_eq_true rfl⟩ (Nat.le_of_ble_eq_true rfl) ⟨Nat.le_of_ble_eq_true rfl, Nat.le_of_ble_eq_true rfl⟩ dX7_load_2 rfl (fun v u h => ?_) (fun X u h => ?_)
  · obtain ⟨c1, rfl, hu⟩ := h
    obtain rfl := hu.symm
    refine j_iload_n M dX7_load_5 rfl ?_
    refine j_iconst (v := 1) M dX7_load_6 (by decide) ?_
    refine j_bipush (v := 60) M dX7_load_7 (by decide) ?_
    refine jx_callS (As := [.int g, .int 1, .int 60]) M cf_X7_needWithin wM_X7_34 (cx_needWithin hlt hW g 1 60) rfl ⟨Nat.le_of_ble_eq_true rfl, Nat.le_of_ble_eq_true rfl⟩ (Nat.le_of_ble_eq_true rfl) ⟨Nat.le_of_ble_eq_true rfl, Nat.le_of_ble_eq_true rfl⟩ dX7_load_9 rfl (fun v u h => ?_) (fun X u h => ?_)
    · obtain ⟨c2, rfl, hu⟩ := h
      obtain rfl := hu.symm
      refine j_aload_n M dX7_load_12 rfl ?_
      refine j_get (v := .ref (K 1)) M hW.k0.1 (pAt_7 E _ hW.k0.2) rfl inU_X7 0 (by decide) wF_X7_17 (fun _ h => h) (rfv hW.r48) dX7_load_13 ?_
      refine j_getN (v := .ref (K 14)) M hW.k1.1 (pAt_5 E _ hW.k1.2) rfl inU_X5 4 (by decide) nF_X7_113 (fun _ h => h) (rfv hW.r36) dX7_load_16 ?_
      refine j_callV1 (As := []) (x := .int (nI (sZ S (K 14)))) M cf_size wM_X7_76 (c_size hW.l14) hW.l14.1.1 (pAt_8 E _ hW.l14.1.2) rfl rfl ⟨Nat.le_of_ble_eq_true rfl, Nat.le_of_ble_eq_true rfl⟩ (Nat.le_of_ble_eq_true rfl) ⟨Nat.le_of_ble_eq_true rfl, Nat.le_of_ble_eq_true rfl⟩ dX7_load_19 rfl ?_
      refine j_istore_n (lv' := [(3, .int (nI (sZ S (K 14)))), (0, .ref (K 0)), (1, .int w), (2, .int g)]) M dX7_load_22 rfl (by decide) rfl ?_
      refine j_iload_n M dX7_load_23 rfl ?_
      refine j_bipush (v := 8) M dX7_load_24 (by decide) ?_
      refine j_icmp_ge (tgt := 41) M dX7_load_26 (by decide) (fun c3 => ?_) (fun c3 => ?_)
      · exact jx_throw M hlt (by decide +kernel) af_names wL_X7_58 wN_IllegalStateException nS_119 at_ISE ag_ISE dX7_load_41 dX7_load_44 dX7_load_45 dX7_load_47 dX7_load_50 ht (Nat.le_of_ble_eq_true rfl) (Nat.le_of_ble_eq_true rfl) (Nat.le_of_ble_eq_true rfl) (Nat.le_of_ble_eq_true rfl) (xN_mk (show ((3, 0, S) : Nat × Int32 × PS) = m_load K S w g from (by unfold m_load; rw [if_neg c1, if_pos c2, if_pos c3])) (by decide) (by decide)) (Nat.le_of_ble_eq_true rfl) (Nat.le_of_ble_eq_true rfl)
      · refine j_aload_n M dX7_load_29 rfl ?_
        refine j_get (v := .ref (K 1)) M hW.k0.1 (pAt_7 E _ hW.k0.2) rfl inU_X7 0 (by decide) wF_X7_17 (fun _ h => h) (rfv hW.r48) dX7_load_30 ?_
        refine j_iload_n M dX7_load_33 rfl ?_
        refine j_callV1 (As := [.int w]) M cf_X5_towerOn wM_X7_116 (c_towerOn hW hA hM w) hW.k1.1 (pAt_5 E _ hW.k1.2) rfl rfl ⟨Nat.le_of_ble_eq_true rfl, Nat.le_of_ble_eq_true rfl⟩ (Nat.le_of_ble_eq_true rfl) ⟨Nat.le_of_ble_eq_true rfl, Nat.le_of_ble_eq_true rfl⟩ dX7_load_34 rfl ?_
        refine j_iconst (v := (-1)) M dX7_load_37 (by decide) ?_
        refine j_icmp_eq (tgt := 51) M dX7_load_38 (by decide) (fun c4 => ?_) (fun c4 => ?_)
        · refine j_aload_n M dX7_load_51 rfl ?_
          refine j_get (v := .ref (K 1)) M hW.k0.1 (pAt_7 E _ hW.k0.2) rfl inU_X7 0 (by decide) wF_X7_17 (fun _ h => h) (rfv hW.r48) dX7_load_52 ?_
          refine j_getN (v := .ref (K 14)) M hW.k1.1 (pAt_5 E _ hW.k1.2) rfl inU_X5 4 (by decide) nF_X7_113 (fun _ h => h) (rfv hW.r36) dX7_load_55 ?_
          refine j_new (k := 2) M rfl inU_X2 tyX2 tyX2_ok wL_X7_121 wX_X2 wN_X2 (fun j hj => match j, hj with | 0, _ => rfl | 1, _ => rfl | 2, _ => rfl | 3, _ => rfl | _ + 4, h => absurd h (by omega)) (fun q b => pNw_2 E _ q b) ⟨Nat.le_of_ble_eq_true rfl, Nat.le_of_ble_eq_true rfl⟩ dX7_load_58 (fun q hq => ?_)
          refine j_gen (fun S1 e1 => ?_)
          have x1 : ES S S1 := by rw [e1]; exact ES.nw hq
          have i1 : InK S1 q 2 := by rw [e1]; exact ink_n
          have g1 : GW K S1 := by rw [e1]; exact gw_nw hq (by decide) ⟨hW, hA, hM⟩
          refine j_dup M dX7_load_61 rfl ?_
          refine j_iload_n M dX7_load_62 rfl ?_
          refine j_iload_n M dX7_load_63 rfl ?_
          refine j_iload_n M dX7_load_64 rfl ?_
          refine j_callI0 (As := [.int (nI (sZ S (K 14))), .int w, .int g]) M cf_X2_init wM_X7_123 (ci_Load (S := S1) i1 (nI (sZ S (K 14))) w g) rfl ⟨Nat.le_of_ble_eq_true rfl, Nat.le_of_ble_eq_true rfl⟩ (Nat.le_of_ble_eq_true rfl) ⟨Nat.le_of_ble_eq_true rfl, Nat.le_of_ble_eq_true rfl⟩ dX7_load_65 rfl ?_
          refine j_gen (fun S2 e2 => ?_)
          have s2 : SS S1 S2 := by rw [e2]; exact ⟨rfl, rfl, rfl, rfl, rfl, rfl, rfl⟩
          have x2 : ES S S2 := x1.tr (ES.ss s2)
          have g2 : GW K S2 := by rw [e2]; exact gw_Load g1
          have i2 : InK S2 q 2 := s2.kk.mpr i1
          refine j_df M (fun hd hnd => ?_)
          have iq : InK S2 q 2 := ⟨i2.1, i2.2⟩
          have gq : GW K S2 := ⟨g2.1, g2.2.1, g2.2.2⟩
          have hz : sZ S2 (K 14) < 8 := by rw [(x2 _ hW.l14.1.1).2.2.2.2.1]; exact Nat.lt_of_not_le (fun h => c3 ((nI_leI (a := 8) (by decide) (by have := hW.l14.2.1; omega)).mpr h))
          have L2 : LW E K S2 := hLW.ext x2 hd
          refine j_callV (As := [.ref q]) M cf_add wM_X7_87 (c_add (S := S2) (L2.1 14 (by decide) (by decide)) iq.1 (by rw [iq.2]; simp [oka])) gq.1.l14.1.1 (pAt_8 E _ gq.1.l14.1.2) rfl rfl ⟨Nat.le_of_ble_eq_true rfl, Nat.le_of_ble_eq_true rfl⟩ (Nat.le_of_ble_eq_true rfl) ⟨Nat.le_of_ble_eq_true rfl, Nat.le_of_ble_eq_true rfl⟩ dX7_load_68 rfl (fun v u hu => ?_)
          obtain ⟨rfl, A⟩ := hu
          refine j_df M (fun hdu hndu => ?_)
          have gu : GW K u := gw_add gq L2.2 (by decide) (by decide) A iq hz
          have Lu : LW E K u := LW.add (S := uI S2 51 (K 14) (sI S2 51 (K 14) + 1)) (show LW E K (uI S2 51 (K 14) (sI S2 51 (K 14) + 1)) from L2) (by decide) (by decide) A (by show sZ S2 (K 14) ≤ 13; omega) iq.1 (by show oka (sK S2 q); rw [iq.2]; simp [oka]) hdu
          refine j_pop M dX7_load_71 rfl ?_
          refine j_iload_n M dX7_load_72 rfl ?_
          exact jx_ret (j_iret (v := (nI (sZ S (K 14)))) M dX7_load_73 (Nat.le_of_ble_eq_true rfl) (Nat.le_of_ble_eq_true rfl) ⟨(by unfold m_load; rw [if_neg c1, if_pos c2, if_neg c3, if_pos c4]), q, S2, hq, (by rw [e2, e1]), rfl, A, gu, Lu⟩)
        · exact jx_throw M hlt (by decide +kernel) af_names wL_X7_58 wN_IllegalStateException nS_119 at_ISE ag_ISE dX7_load_41 dX7_load_44 dX7_load_45 dX7_load_47 dX7_load_50 ht (Nat.le_of_ble_eq_true rfl) (Nat.le_of_ble_eq_true rfl) (Nat.le_of_ble_eq_true rfl) (Nat.le_of_ble_eq_true rfl) (xN_mk (show ((3, 0, S) : Nat × Int32 × PS) = m_load K S w g from (by unfold m_load; rw [if_neg c1, if_pos c2, if_neg c3, if_neg c4])) (by decide) (by decide)) (Nat.le_of_ble_eq_true rfl) (Nat.le_of_ble_eq_true rfl)
    · obtain ⟨c5, rfl, hu⟩ := h
      obtain rfl := hu.symm
      exact jx_out M ht (xN_mk (show ((2, 0, S) : Nat × Int32 × PS) = m_load K S w g from (by unfold m_load; rw [if_neg c1, if_neg c5])) (by decide) (by decide)) (Nat.le_of_ble_eq_true rfl) (Nat.le_of_ble_eq_true rfl)
  · obtain ⟨c6, rfl, hu⟩ := h
    obtain rfl := hu.symm
    exact jx_out M ht (xN_mk (show ((1, 0, S) : Nat × Int32 × PS) = m_load K S w g from (by unfold m_load; rw [if_pos c6])) (by decide) (by decide)) (Nat.le_of_ble_eq_true rfl) (Nat.le_of_ble_eq_true rfl)
def m_wind (K : Nat → Nat) (S : PS) (t : Int32) (f : Int32) (b : Int32) : Nat × Int32 × PS :=
  if OKw t 0 600 then
    if OKw f 0 9 then
      if OKw b 0 7 then
        if (nI (sZ S (K 11))) < 12 then
          (0, 0, S)
        else
          (3, 0, S)
      else
        (2, 0, S)
    else
      (2, 0, S)
  else
    (2, 0, S)
theorem cf_X7_wind : CFv yX7_wind RX7 cX7_wind 4 (some .int) 3 := ⟨wC_X7_wind, wI_X7_wind, wV_X7_X7_wind, wN_X7, by decide +kernel⟩
set_option maxHeartbeats 4000000 in
set_option maxRecDepth 100000 in
theorem cx_wind {l : Launch} (hlt : l.stackTraces = false) {E : EV} {K : Nat → Nat} {S : PS} (hW : WS K S) (hA : AW S) (hM : WM S) (t : Int32) (f : Int32) (b : Int32) (hLW : LW E K S) : CX l yX7_wind cX7_wind 4 (some .int) 7 149 5 36 E [.ref (K 0), .int t, .int f, .int b] S (fun v u => (m_wind K S t f b).1 = 0 ∧ ∃ q T, q ∉ sL S ∧ T = n_Report (nw S q 4) q t f b ∧ v = some (.int (nI (sZ u (K 11)))) ∧ Add0 (uI T 51 (K 11) (sI T 51 (K 11) + 1)) (K 11) q u ∧ GW K u ∧ LW E K u) (xN (m_wind K S t f b)) := by
  refine CX.of (by decide) (Nat.le_of_ble_eq_true rfl) ?_
  intro p e s m below meth c M ht
  have M : MC E p s m _ meth c cX7_wind RX7 4 (some .int) := M
  show J p l e _ s m _ below meth c _ E 4 0 [(0, .ref (K 0)), (1, .int t), (2, .int f), (3, .int b)] [] S 0 0
  refine j_iload_n M dX7_wind_0 rfl ?_
  refine j_iconst (v := 0) M dX7_wind_1 (by decide) ?_
  refine j_sipush (v := 600) M dX7_wind_2 (by decide) ?_
  refine jx_callS (As := [.int t, .int 0, .int 600]) M cf_X7_needWithin wM_X7_34 (cx_needWithin hlt hW t 0 600) rfl ⟨Nat.le_of_ble_eq_true rfl, Nat.le_of_ble_eq_true rfl⟩ (Nat.le_of_ble_eq_true rfl) ⟨Nat.le_of_ble_eq_true rfl, Nat.le_of_ble_eq_true rfl⟩ dX7_wind_5 rfl (fun v u h => ?_) (fun X u h => ?_)
  · obtain ⟨c1, rfl, hu⟩ := h
    obtain rfl := hu.symm
    refine j_iload_n M dX7_wind_8 rfl ?_
    refine j_iconst (v := 0) M dX7_wind_9 (by decide) ?_
    refine j_bipush (v := 9) M dX7_wind_10 (by decide) ?_
    refine jx_callS (As := [.int f, .int 0, .int 9]) M cf_X7_needWithin wM_X7_34 (cx_needWithin hlt hW f 0 9) rfl ⟨Nat.le_of_ble_eq_true rfl, Nat.le_of_ble_eq_true rfl⟩ (Nat.le_of_ble_eq_true rfl) ⟨Nat.le_of_ble_eq_true rfl, Nat.le_of_ble_eq_true rfl⟩ dX7_wind_12 rfl (fun v u h => ?_) (fun X u h => ?_)
    · obtain ⟨c2, rfl, hu⟩ := h
      obtain rfl := hu.symm
      refine j_iload_n M dX7_wind_15 rfl ?_
      refine j_iconst (v := 0) M dX7_wind_16 (by decide) ?_
      refine j_bipush (v := 7) M dX7_wind_17 (by decide) ?_
      refine jx_callS (As := [.int b, .int 0, .int 7]) M cf_X7_needWithin wM_X7_34 (cx_needWithin hlt hW b 0 7) rfl ⟨Nat.le_of_ble_eq_true rfl, Nat.le_of_ble_eq_true rfl⟩ (Nat.le_of_ble_eq_true rfl) ⟨Nat.le_of_ble_eq_true rfl, Nat.le_of_ble_eq_true rfl⟩ dX7_wind_19 rfl (fun v u h => ?_) (fun X u h => ?_)
      · obtain ⟨c3, rfl, hu⟩ := h
        obtain rfl := hu.symm
        refine j_aload_n M dX7_wind_22 rfl ?_
        refine j_get (v := .ref (K 1)) M hW.k0.1 (pAt_7 E _ hW.k0.2) rfl inU_X7 0 (by decide) wF_X7_17 (fun _ h => h) (rfv hW.r48) dX7_wind_23 ?_
        refine j_getN (v := .ref (K 11)) M hW.k1.1 (pAt_5 E _ hW.k1.2) rfl inU_X5 1 (by decide) nF_X7_72 (fun _ h => h) (rfv hW.r33) dX7_wind_26 ?_
        refine j_callV1 (As := []) (x := .int (nI (sZ S (K 11)))) M cf_size wM_X7_76 (c_size hW.l11) hW.l11.1.1 (pAt_8 E _ hW.l11.1.2) rfl rfl ⟨Nat.le_of_ble_eq_true rfl, Nat.le_of_ble_eq_true rfl⟩ (Nat.le_of_ble_eq_true rfl) ⟨Nat.le_of_ble_eq_true rfl, Nat.le_of_ble_eq_true rfl⟩ dX7_wind_29 rfl ?_
        refine j_bipush (v := 12) M dX7_wind_32 (by decide) ?_
        refine j_icmp_lt (tgt := 47) M dX7_wind_34 (by decide) (fun c4 => ?_) (fun c4 => ?_)
        · refine j_aload_n M dX7_wind_47 rfl ?_
          refine j_get (v := .ref (K 1)) M hW.k0.1 (pAt_7 E _ hW.k0.2) rfl inU_X7 0 (by decide) wF_X7_17 (fun _ h => h) (rfv hW.r48) dX7_wind_48 ?_
          refine j_getN (v := .ref (K 11)) M hW.k1.1 (pAt_5 E _ hW.k1.2) rfl inU_X5 1 (by decide) nF_X7_72 (fun _ h => h) (rfv hW.r33) dX7_wind_51 ?_
          refine j_new (k := 4) M rfl inU_X4 tyX4 tyX4_ok wL_X7_83 wX_X4 wN_X4 (fun j hj => match j, hj with | 0, _ => rfl | 1, _ => rfl | 2, _ => rfl | _ + 3, h => absurd h (by omega)) (fun q b => pNw_4 E _ q b) ⟨Nat.le_of_ble_eq_true rfl, Nat.le_of_ble_eq_true rfl⟩ dX7_wind_54 (fun q hq => ?_)
          refine j_gen (fun S1 e1 => ?_)
          have x1 : ES S S1 := by rw [e1]; exact ES.nw hq
          have i1 : InK S1 q 4 := by rw [e1]; exact ink_n
          have g1 : GW K S1 := by rw [e1]; exact gw_nw hq (by decide) ⟨hW, hA, hM⟩
          refine j_dup M dX7_wind_57 rfl ?_
          refine j_iload_n M dX7_wind_58 rfl ?_
          refine j_iload_n M dX7_wind_59 rfl ?_
          refine j_iload_n M dX7_wind_60 rfl ?_
          refine j_callI0 (As := [.int t, .int f, .int b]) M cf_X4_init wM_X7_85 (ci_Report (S := S1) i1 t f b) rfl ⟨Nat.le_of_ble_eq_true rfl, Nat.le_of_ble_eq_true rfl⟩ (Nat.le_of_ble_eq_true rfl) ⟨Nat.le_of_ble_eq_true rfl, Nat.le_of_ble_eq_true rfl⟩ dX7_wind_61 rfl ?_
          refine j_gen (fun S2 e2 => ?_)
          have s2 : SS S1 S2 := by rw [e2]; exact ⟨rfl, rfl, rfl, rfl, rfl, rfl, rfl⟩
          have x2 : ES S S2 := x1.tr (ES.ss s2)
          have g2 : GW K S2 := by rw [e2]; exact gw_Report g1
          have i2 : InK S2 q 4 := s2.kk.mpr i1
          refine j_df M (fun hd hnd => ?_)
          have iq : InK S2 q 4 := ⟨i2.1, i2.2⟩
          have gq : GW K S2 := ⟨g2.1, g2.2.1, g2.2.2⟩
          have hz : sZ S2 (K 11) < 12 := by rw [(x2 _ hW.l11.1.1).2.2.2.2.1]; exact (nI_ltI (by have := hW.l11.2.1; omega) (by decide)).mp c4
          have L2 : LW E K S2 := hLW.ext x2 hd
          refine j_callV (As := [.ref q]) M cf_add wM_X7_87 (c_add (S := S2) (L2.1 11 (by decide) (by decide)) iq.1 (by rw [iq.2]; simp [oka])) gq.1.l11.1.1 (pAt_8 E _ gq.1.l11.1.2) rfl rfl ⟨Nat.le_of_ble_eq_true rfl, Nat.le_of_ble_eq_true rfl⟩ (Nat.le_of_ble_eq_true rfl) ⟨Nat.le_of_ble_eq_true rfl, Nat.le_of_ble_eq_true rfl⟩ dX7_wind_64 rfl (fun v u hu => ?_)
          obtain ⟨rfl, A⟩ := hu
          refine j_df M (fun hdu hndu => ?_)
          have gu : GW K u := gw_add gq L2.2 (by decide) (by decide) A iq hz
          have Lu : LW E K u := LW.add (S := uI S2 51 (K 11) (sI S2 51 (K 11) + 1)) (show LW E K (uI S2 51 (K 11) (sI S2 51 (K 11) + 1)) from L2) (by decide) (by decide) A (by show sZ S2 (K 11) ≤ 13; omega) iq.1 (by show oka (sK S2 q); rw [iq.2]; simp [oka]) hdu
          refine j_pop M dX7_wind_67 rfl ?_
          refine j_aload_n M dX7_wind_68 rfl ?_
          refine j_get (v := .ref (K 1)) M gu.1.k0.1 (pAt_7 E _ gu.1.k0.2) rfl inU_X7 0 (by decide) wF_X7_17 (fun _ h => h) (rfv gu.1.r48) dX7_wind_69 ?_
          refine j_getN (v := .ref (K 11)) M gu.1.k1.1 (pAt_5 E _ gu.1.k1.2) rfl inU_X5 1 (by decide) nF_X7_72 (fun _ h => h) (rfv gu.1.r33) dX7_wind_72 ?_
          refine j_callV1 (As := []) (x := .int (nI (sZ u (K 11)))) M cf_size wM_X7_76 (c_size gu.1.l11) gu.1.l11.1.1 (pAt_8 E _ gu.1.l11.1.2) rfl rfl ⟨Nat.le_of_ble_eq_true rfl, Nat.le_of_ble_eq_true rfl⟩ (Nat.le_of_ble_eq_true rfl) ⟨Nat.le_of_ble_eq_true rfl, Nat.le_of_ble_eq_true rfl⟩ dX7_wind_75 rfl ?_
          exact jx_ret (j_iret (v := (nI (sZ u (K 11)))) M dX7_wind_78 (Nat.le_of_ble_eq_true rfl) (Nat.le_of_ble_eq_true rfl) ⟨(by unfold m_wind; rw [if_pos c1, if_pos c2, if_pos c3, if_pos c4]), q, S2, hq, (by rw [e2, e1]), rfl, A, gu, Lu⟩)
        · exact jx_throw M hlt (by decide +kernel) af_names wL_X7_58 wN_IllegalStateException nS_81 at_ISE ag_ISE dX7_wind_37 dX7_wind_40 dX7_wind_41 dX7_wind_43 dX7_wind_46 ht (Nat.le_of_ble_eq_true rfl) (Nat.le_of_ble_eq_true rfl) (Nat.le_of_ble_eq_true rfl) (Nat.le_of_ble_eq_true rfl) (xN_mk (show ((3, 0, S) : Nat × Int32 × PS) = m_wind K S t f b from (by unfold m_wind; rw [if_pos c1, if_pos c2, if_pos c3, if_neg c4])) (by decide) (by decide)) (Nat.le_of_ble_eq_true rfl) (Nat.le_of_ble_eq_true rfl)
      · obtain ⟨c5, rfl, hu⟩ := h
        obtain rfl := hu.symm
        exact jx_out M ht (xN_mk (show ((2, 0, S) : Nat × Int32 × PS) = m_wind K S t f b from (by unfold m_wind; rw [if_pos c1, if_pos c2, if_neg c5])) (by decide) (by decide)) (Nat.le_of_ble_eq_true rfl) (Nat.le_of_ble_eq_true rfl)
    · obtain ⟨c6, rfl, hu⟩ := h
      obtain rfl := hu.symm
      exact jx_out M ht (xN_mk (show ((2, 0, S) : Nat × Int32 × PS) = m_wind K S t f b from (by unfold m_wind; rw [if_pos c1, if_neg c6])) (by decide) (by decide)) (Nat.le_of_ble_eq_true rfl) (Nat.le_of_ble_eq_true rfl)
  · obtain ⟨c7, rfl, hu⟩ := h
    obtain rfl := hu.symm
    exact jx_out M ht (xN_mk (show ((2, 0, S) : Nat × Int32 × PS) = m_wind K S t f b from (by unfold m_wind; rw [if_neg c7])) (by decide) (by decide)) (Nat.le_of_ble_eq_true rfl) (Nat.le_of_ble_eq_true rfl)
def m_zone (K : Nat → Nat) (S : PS) (x : Int32) (w : Int32) (h : Int32) (f : Int32) (t : Int32) : Nat × Int32 × PS :=
  if m_hasCell K S x = 0 then
    (1, 0, S)
  else
    if OKw w 1 ((sI S 17 (K 2)) - (m_columnOf K S x)) then
      if OKw h 1 ((sI S 18 (K 2)) - (m_rowOf K S x)) then
        if OKw f 0 23 then
          if OKw t 0 23 then
            if (nI (sZ S (K 12))) < 4 then
              (0, 0, S)
            else
              (3, 0, S)
          else
            (2, 0, S)
        else
          (2, 0, S)
      else
        (2, 0, S)
    else
      (2, 0, S)
theorem cf_X7_zone : CFv yX7_zone RX7 cX7_zone 8 (some .int) 5 := ⟨wC_X7_zone, wI_X7_zone, wV_X7_X7_zone, wN_X7, by decide +kernel⟩
set_option maxHeartbeats 4000000 in
set_option maxRecDepth 100000 in
theorem cx_zone {l : Launch} (hlt : l.stackTraces = false) {E : EV} {K : Nat → Nat} {S : PS} (hW : WS K S) (hA : AW S) (hM : WM S) (x : Int32) (w : Int32) (h : Int32) (f : Int32) (t : Int32) (hLW : LW E K S) : CX l yX7_zone cX7_zone 8 (some .int) 7 149 7 51 E [.ref (K 0), .int x, .int w, .int h, .int f, .int t] S (fun v u => (m_zone K S x w h f t).1 = 0 ∧ ∃ q T, q ∉ sL S ∧ T = n_Zone (nw S q 6) q (m_rowOf K S x) (m_columnOf K S x) (m_rowOf K S x + h - 1) (m_columnOf K S x + w - 1) f t ∧ v = some (.int (nI (sZ u (K 12)) - 1)) ∧ Add0 (uI T 51 (K 12) (sI T 51 (K 12) + 1)) (K 12) q u ∧ GW K u ∧ LW E K u) (xN (m_zone K S x w h f t)) := by
  refine CX.of (by decide) (Nat.le_of_ble_eq_true rfl) ?_
  intro p e s m below meth c M ht
  have M : MC E p s m _ meth c cX7_zone RX7 8 (some .int) := M
  show J p l e _ s m _ below meth c _ E 8 0 [(0, .ref (K 0)), (1, .int x), (2, .int w), (3, .int h), (4, .int f), (5, .int t)] [] S 0 0
  refine j_aload_n M dX7_zone_0 rfl ?_
  refine j_iload_n M dX7_zone_1 rfl ?_
  refine jx_callV (As := [.int x]) M cf_X7_needCell wM_X7_50 (cx_needCell hlt hW x) hW.k0.1 (pAt_7 E _ hW.k0.2) rfl rfl ⟨Nat.le_of_ble_eq_true rfl, Nat.le_of_ble_eq_true rfl⟩ (Nat.le_of_ble_eq_true rfl) ⟨Nat.le_of_ble_eq_true rfl, Nat.le_of_ble_eq_true rfl⟩ dX7_zone_2 rfl (fun v u h => ?_) (fun X u h => ?_)
  · obtain ⟨c1, rfl, hu⟩ := h
    obtain rfl := hu.symm
    refine j_aload_n M dX7_zone_5 rfl ?_
    refine j_get (v := .ref (K 1)) M hW.k0.1 (pAt_7 E _ hW.k0.2) rfl inU_X7 0 (by decide) wF_X7_17 (fun _ h => h) (rfv hW.r48) dX7_zone_6 ?_
    refine j_getN (v := .ref (K 2)) M hW.k1.1 (pAt_5 E _ hW.k1.2) rfl inU_X5 0 (by decide) nF_X7_42 (fun _ h => h) (rfv hW.r32) dX7_zone_9 ?_
    refine j_iload_n M dX7_zone_12 rfl ?_
    refine j_callV1 (As := [.int x]) M cf_X1_rowOf wM_X7_91 (c_rowOf hW x) hW.k2.1 (pAt_1 E _ hW.k2.2) rfl rfl ⟨Nat.le_of_ble_eq_true rfl, Nat.le_of_ble_eq_true rfl⟩ (Nat.le_of_ble_eq_true rfl) ⟨Nat.le_of_ble_eq_true rfl, Nat.le_of_ble_eq_true rfl⟩ dX7_zone_13 rfl ?_
    refine j_istore (lv' := [(6, .int (m_rowOf K S x)), (0, .ref (K 0)), (1, .int x), (2, .int w), (3, .int h), (4, .int f), (5, .int t)]) M dX7_zone_16 (by decide) rfl ?_
    refine j_aload_n M dX7_zone_18 rfl ?_
    refine j_get (v := .ref (K 1)) M hW.k0.1 (pAt_7 E _ hW.k0.2) rfl inU_X7 0 (by decide) wF_X7_17 (fun _ h => h) (rfv hW.r48) dX7_zone_19 ?_
    refine j_getN (v := .ref (K 2)) M hW.k1.1 (pAt_5 E _ hW.k1.2) rfl inU_X5 0 (by decide) nF_X7_42 (fun _ h => h) (rfv hW.r32) dX7_zone_22 ?_
    refine j_iload_n M dX7_zone_25 rfl ?_
    refine j_callV1 (As := [.int x]) M cf_X1_columnOf wM_X7_94 (c_columnOf hW x) hW.k2.1 (pAt_1 E _ hW.k2.2) rfl rfl ⟨Nat.le_of_ble_eq_true rfl, Nat.le_of_ble_eq_true rfl⟩ (Nat.le_of_ble_eq_true rfl) ⟨Nat.le_of_ble_eq_true rfl, Nat.le_of_ble_eq_true rfl⟩ dX7_zone_26 rfl ?_
    refine j_istore (lv' := [(7, .int (m_columnOf K S x)), (6, .int (m_rowOf K S x)), (0, .ref (K 0)), (1, .int x), (2, .int w), (3, .int h), (4, .int f), (5, .int t)]) M dX7_zone_29 (by decide) rfl ?_
    refine j_iload_n M dX7_zone_31 rfl ?_
    refine j_iconst (v := 1) M dX7_zone_32 (by decide) ?_
    refine j_aload_n M dX7_zone_33 rfl ?_
    refine j_get (v := .ref (K 1)) M hW.k0.1 (pAt_7 E _ hW.k0.2) rfl inU_X7 0 (by decide) wF_X7_17 (fun _ h => h) (rfv hW.r48) dX7_zone_34 ?_
    refine j_getN (v := .ref (K 2)) M hW.k1.1 (pAt_5 E _ hW.k1.2) rfl inU_X5 0 (by decide) nF_X7_42 (fun _ h => h) (rfv hW.r32) dX7_zone_37 ?_
    refine j_getN (v := .int (sI S 17 (K 2))) M hW.k2.1 (pAt_1 E _ hW.k2.2) rfl inU_X1 1 (by decide) nF_X7_97 (fun _ h => h) rfl dX7_zone_40 ?_
    refine j_iload M dX7_zone_43 rfl ?_
    refine j_isub M dX7_zone_45 ?_
    refine jx_callS (As := [.int w, .int 1, .int ((sI S 17 (K 2)) - (m_columnOf K S x))]) M cf_X7_needWithin wM_X7_34 (cx_needWithin hlt hW w 1 ((sI S 17 (K 2)) - (m_columnOf K S x))) rfl ⟨Nat.le_of_ble_eq_true rfl, Nat.le_of_ble_eq_true rfl⟩ (Nat.le_of_ble_eq_true rfl) ⟨Nat.le_of_ble_eq_true rfl, Nat.le_of_ble_eq_true rfl⟩ dX7_zone_46 rfl (fun v u h => ?_) (fun X u h => ?_)
    · obtain ⟨c2, rfl, hu⟩ := h
      obtain rfl := hu.symm
      refine j_iload_n M dX7_zone_49 rfl ?_
      refine j_iconst (v := 1) M dX7_zone_50 (by decide) ?_
      refine j_aload_n M dX7_zone_51 rfl ?_
      refine j_get (v := .ref (K 1)) M hW.k0.1 (pAt_7 E _ hW.k0.2) rfl inU_X7 0 (by decide) wF_X7_17 (fun _ h => h) (rfv hW.r48) dX7_zone_52 ?_
      refine j_getN (v := .ref (K 2)) M hW.k1.1 (pAt_5 E _ hW.k1.2) rfl inU_X5 0 (by decide) nF_X7_42 (fun _ h => h) (rfv hW.r32) dX7_zone_55 ?_
      refine j_getN (v := .int (sI S 18 (K 2))) M hW.k2.1 (pAt_1 E _ hW.k2.2) rfl inU_X1 2 (by decide) nF_X7_100 (fun _ h => h) rfl dX7_zone_58 ?_
      refine j_iload M dX7_zone_61 rfl ?_
      refine j_isub M dX7_zone_63 ?_
      refine jx_callS (As := [.int h, .int 1, .int ((sI S 18 (K 2)) - (m_rowOf K S x))]) M cf_X7_needWithin wM_X7_34 (cx_needWithin hlt hW h 1 ((sI S 18 (K 2)) - (m_rowOf K S x))) rfl ⟨Nat.le_of_ble_eq_true rfl, Nat.le_of_ble_eq_true rfl⟩ (Nat.le_of_ble_eq_true rfl) ⟨Nat.le_of_ble_eq_true rfl, Nat.le_of_ble_eq_true rfl⟩ dX7_zone_64 rfl (fun v u h => ?_) (fun X u h => ?_)
      · obtain ⟨c3, rfl, hu⟩ := h
        obtain rfl := hu.symm
        refine j_iload M dX7_zone_67 rfl ?_
        refine j_iconst (v := 0) M dX7_zone_69 (by decide) ?_
        refine j_bipush (v := 23) M dX7_zone_70 (by decide) ?_
        refine jx_callS (As := [.int f, .int 0, .int 23]) M cf_X7_needWithin wM_X7_34 (cx_needWithin hlt hW f 0 23) rfl ⟨Nat.le_of_ble_eq_true rfl, Nat.le_of_ble_eq_true rfl⟩ (Nat.le_of_ble_eq_true rfl) ⟨Nat.le_of_ble_eq_true rfl, Nat.le_of_ble_eq_true rfl⟩ dX7_zone_72 rfl (fun v u h => ?_) (fun X u h => ?_)
        · obtain ⟨c4, rfl, hu⟩ := h
          obtain rfl := hu.symm
          refine j_iload M dX7_zone_75 rfl ?_
          refine j_iconst (v := 0) M dX7_zone_77 (by decide) ?_
          refine j_bipush (v := 23) M dX7_zone_78 (by decide) ?_
          refine jx_callS (As := [.int t, .int 0, .int 23]) M cf_X7_needWithin wM_X7_34 (cx_needWithin hlt hW t 0 23) rfl ⟨Nat.le_of_ble_eq_true rfl, Nat.le_of_ble_eq_true rfl⟩ (Nat.le_of_ble_eq_true rfl) ⟨Nat.le_of_ble_eq_true rfl, Nat.le_of_ble_eq_true rfl⟩ dX7_zone_80 rfl (fun v u h => ?_) (fun X u h => ?_)
          · obtain ⟨c5, rfl, hu⟩ := h
            obtain rfl := hu.symm
            refine j_aload_n M dX7_zone_83 rfl ?_
            refine j_get (v := .ref (K 1)) M hW.k0.1 (pAt_7 E _ hW.k0.2) rfl inU_X7 0 (by decide) wF_X7_17 (fun _ h => h) (rfv hW.r48) dX7_zone_84 ?_
            refine j_getN (v := .ref (K 12)) M hW.k1.1 (pAt_5 E _ hW.k1.2) rfl inU_X5 2 (by decide) nF_X7_103 (fun _ h => h) (rfv hW.r34) dX7_zone_87 ?_
            refine j_callV1 (As := []) (x := .int (nI (sZ S (K 12)))) M cf_size wM_X7_76 (c_size hW.l12) hW.l12.1.1 (pAt_8 E _ hW.l12.1.2) rfl rfl ⟨Nat.le_of_ble_eq_true rfl, Nat.le_of_ble_eq_true rfl⟩ (Nat.le_of_ble_eq_true rfl) ⟨Nat.le_of_ble_eq_true rfl, Nat.le_of_ble_eq_true rfl⟩ dX7_zone_90 rfl ?_
            refine j_iconst (v := 4) M dX7_zone_93 (by decide) ?_
            refine j_icmp_lt (tgt := 107) M dX7_zone_94 (by decide) (fun c6 => ?_) (fun c6 => ?_)
            · refine j_aload_n M dX7_zone_107 rfl ?_
              refine j_get (v := .ref (K 1)) M hW.k0.1 (pAt_7 E _ hW.k0.2) rfl inU_X7 0 (by decide) wF_X7_17 (fun _ h => h) (rfv hW.r48) dX7_zone_108 ?_
              refine j_getN (v := .ref (K 12)) M hW.k1.1 (pAt_5 E _ hW.k1.2) rfl inU_X5 2 (by decide) nF_X7_103 (fun _ h => h) (rfv hW.r34) dX7_zone_111 ?_
              refine j_new (k := 6) M rfl inU_X6 tyX6 tyX6_ok wL_X7_108 wX_X6 wN_X6 (fun j hj => match j, hj with | 0, _ => rfl | 1, _ => rfl | 2, _ => rfl | 3, _ => rfl | 4, _ => rfl | 5, _ => rfl | _ + 6, h => absurd h (by omega)) (fun q b => pNw_6 E _ q b) ⟨Nat.le_of_ble_eq_true rfl, Nat.le_of_ble_eq_true rfl⟩ dX7_zone_114 (fun q hq => ?_)
              refine j_gen (fun S1 e1 => ?_)
              have x1 : ES S S1 := by rw [e1]; exact ES.nw hq
              have i1 : InK S1 q 6 := by rw [e1]; exact ink_n
              have g1 : GW K S1 := by rw [e1]; exact gw_nw hq (by decide) ⟨hW, hA, hM⟩
              refine j_dup M dX7_zone_117 rfl ?_
              refine j_iload M dX7_zone_118 rfl ?_
              refine j_iload M dX7_zone_120 rfl ?_
              refine j_iload M dX7_zone_122 rfl ?_
              refine j_iload_n M dX7_zone_124 rfl ?_
              refine j_iadd M dX7_zone_125 ?_
              refine j_iconst (v := 1) M dX7_zone_126 (by decide) ?_
              refine j_isub M dX7_zone_127 ?_
              refine j_iload M dX7_zone_128 rfl ?_
              refine j_iload_n M dX7_zone_130 rfl ?_
              refine j_iadd M dX7_zone_131 ?_
              refine j_iconst (v := 1) M dX7_zone_132 (by decide) ?_
              refine j_isub M dX7_zone_133 ?_
              refine j_iload M dX7_zone_134 rfl ?_
              refine j_iload M dX7_zone_136 rfl ?_
              refine j_callI0 (As := [.int (m_rowOf K S x), .int (m_columnOf K S x), .int (((m_rowOf K S x) + h) - 1), .int (((m_columnOf K S x) + w) - 1), .int f, .int t]) M cf_X6_init wM_X7_110 (ci_Zone (S := S1) i1 (m_rowOf K S x) (m_columnOf K S x) (((m_rowOf K S x) + h) - 1) (((m_columnOf K S x) + w) - 1) f t) rfl ⟨Nat.le_of_ble_eq_true rfl, Nat.le_of_ble_eq_true rfl⟩ (Nat.le_of_ble_eq_true rfl) ⟨Nat.le_of_ble_eq_true rfl, Nat.le_of_ble_eq_true rfl⟩ dX7_zone_138 rfl ?_
              refine j_gen (fun S2 e2 => ?_)
              have s2 : SS S1 S2 := by rw [e2]; exact ⟨rfl, rfl, rfl, rfl, rfl, rfl, rfl⟩
              have x2 : ES S S2 := x1.tr (ES.ss s2)
              have g2 : GW K S2 := by rw [e2]; exact gw_Zone g1
              have i2 : InK S2 q 6 := s2.kk.mpr i1
              refine j_df M (fun hd hnd => ?_)
              have iq : InK S2 q 6 := ⟨i2.1, i2.2⟩
              have gq : GW K S2 := ⟨g2.1, g2.2.1, g2.2.2⟩
              have hz : sZ S2 (K 12) < 4 := by rw [(x2 _ hW.l12.1.1).2.2.2.2.1]; exact (nI_ltI (by have := hW.l12.2.1; omega) (by decide)).mp c6
              have L2 : LW E K S2 := hLW.ext x2 hd
              refine j_callV (As := [.ref q]) M cf_add wM_X7_87 (c_add (S := S2) (L2.1 12 (by decide) (by decide)) iq.1 (by rw [iq.2]; simp [oka])) gq.1.l12.1.1 (pAt_8 E _ gq.1.l12.1.2) rfl rfl ⟨Nat.le_of_ble_eq_true rfl, Nat.le_of_ble_eq_true rfl⟩ (Nat.le_of_ble_eq_true rfl) ⟨Nat.le_of_ble_eq_true rfl, Nat.le_of_ble_eq_true rfl⟩ dX7_zone_141 rfl (fun v u hu => ?_)
              obtain ⟨rfl, A⟩ := hu
              refine j_df M (fun hdu hndu => ?_)
              have gu : GW K u := gw_add gq L2.2 (by decide) (by decide) A iq hz
              have Lu : LW E K u := LW.add (S := uI S2 51 (K 12) (sI S2 51 (K 12) + 1)) (show LW E K (uI S2 51 (K 12) (sI S2 51 (K 12) + 1)) from L2) (by decide) (by decide) A (by show sZ S2 (K 12) ≤ 13; omega) iq.1 (by show oka (sK S2 q); rw [iq.2]; simp [oka]) hdu
              refine j_pop M dX7_zone_144 rfl ?_
              refine j_aload_n M dX7_zone_145 rfl ?_
              refine j_get (v := .ref (K 1)) M gu.1.k0.1 (pAt_7 E _ gu.1.k0.2) rfl inU_X7 0 (by decide) wF_X7_17 (fun _ h => h) (rfv gu.1.r48) dX7_zone_146 ?_
              refine j_getN (v := .ref (K 12)) M gu.1.k1.1 (pAt_5 E _ gu.1.k1.2) rfl inU_X5 2 (by decide) nF_X7_103 (fun _ h => h) (rfv gu.1.r34) dX7_zone_149 ?_
              refine j_callV1 (As := []) (x := .int (nI (sZ u (K 12)))) M cf_size wM_X7_76 (c_size gu.1.l12) gu.1.l12.1.1 (pAt_8 E _ gu.1.l12.1.2) rfl rfl ⟨Nat.le_of_ble_eq_true rfl, Nat.le_of_ble_eq_true rfl⟩ (Nat.le_of_ble_eq_true rfl) ⟨Nat.le_of_ble_eq_true rfl, Nat.le_of_ble_eq_true rfl⟩ dX7_zone_152 rfl ?_
              refine j_iconst (v := 1) M dX7_zone_155 (by decide) ?_
              refine j_isub M dX7_zone_156 ?_
              exact jx_ret (j_iret (v := ((nI (sZ u (K 12))) - 1)) M dX7_zone_157 (Nat.le_of_ble_eq_true rfl) (Nat.le_of_ble_eq_true rfl) ⟨(by unfold m_zone; rw [if_neg c1, if_pos c2, if_pos c3, if_pos c4, if_pos c5, if_pos c6]), q, S2, hq, (by rw [e2, e1]), rfl, A, gu, Lu⟩)
            · exact jx_throw M hlt (by decide +kernel) af_names wL_X7_58 wN_IllegalStateException nS_106 at_ISE ag_ISE dX7_zone_97 dX7_zone_100 dX7_zone_101 dX7_zone_103 dX7_zone_106 ht (Nat.le_of_ble_eq_true rfl) (Nat.le_of_ble_eq_true rfl) (Nat.le_of_ble_eq_true rfl) (Nat.le_of_ble_eq_true rfl) (xN_mk (show ((3, 0, S) : Nat × Int32 × PS) = m_zone K S x w h f t from (by unfold m_zone; rw [if_neg c1, if_pos c2, if_pos c3, if_pos c4, if_pos c5, if_neg c6])) (by decide) (by decide)) (Nat.le_of_ble_eq_true rfl) (Nat.le_of_ble_eq_true rfl)
          · obtain ⟨c7, rfl, hu⟩ := h
            obtain rfl := hu.symm
            exact jx_out M ht (xN_mk (show ((2, 0, S) : Nat × Int32 × PS) = m_zone K S x w h f t from (by unfold m_zone; rw [if_neg c1, if_pos c2, if_pos c3, if_pos c4, if_neg c7])) (by decide) (by decide)) (Nat.le_of_ble_eq_true rfl) (Nat.le_of_ble_eq_true rfl)
        · obtain ⟨c8, rfl, hu⟩ := h
          obtain rfl := hu.symm
          exact jx_out M ht (xN_mk (show ((2, 0, S) : Nat × Int32 × PS) = m_zone K S x w h f t from (by unfold m_zone; rw [if_neg c1, if_pos c2, if_pos c3, if_neg c8])) (by decide) (by decide)) (Nat.le_of_ble_eq_true rfl) (Nat.le_of_ble_eq_true rfl)
      · obtain ⟨c9, rfl, hu⟩ := h
        obtain rfl := hu.symm
        exact jx_out M ht (xN_mk (show ((2, 0, S) : Nat × Int32 × PS) = m_zone K S x w h f t from (by unfold m_zone; rw [if_neg c1, if_pos c2, if_neg c9])) (by decide) (by decide)) (Nat.le_of_ble_eq_true rfl) (Nat.le_of_ble_eq_true rfl)
    · obtain ⟨c10, rfl, hu⟩ := h
      obtain rfl := hu.symm
      exact jx_out M ht (xN_mk (show ((2, 0, S) : Nat × Int32 × PS) = m_zone K S x w h f t from (by unfold m_zone; rw [if_neg c1, if_neg c10])) (by decide) (by decide)) (Nat.le_of_ble_eq_true rfl) (Nat.le_of_ble_eq_true rfl)
  · obtain ⟨c11, rfl, hu⟩ := h
    obtain rfl := hu.symm
    exact jx_out M ht (xN_mk (show ((1, 0, S) : Nat × Int32 × PS) = m_zone K S x w h f t from (by unfold m_zone; rw [if_pos c11])) (by decide) (by decide)) (Nat.le_of_ble_eq_true rfl) (Nat.le_of_ble_eq_true rfl)
def m_crane (K : Nat → Nat) (S : PS) (w : Int32) (a : Int32) (r : Int32) (o : Int32) (b : Int32) : Nat × Int32 × PS :=
  if m_hasCell K S w = 0 then
    (1, 0, S)
  else
    if OKw a 3 30 then
      if OKw r 2 9 then
        if OKw o 5 400 then
          if OKw b 0 7 then
            if 4 ≤ (nI (sZ S (K 13))) then
              (3, 0, S)
            else
              if (m_canFound K S w) = 0 then
                (3, 0, S)
              else
                (0, 0, S)
          else
            (2, 0, S)
        else
          (2, 0, S)
      else
        (2, 0, S)
    else
      (2, 0, S)
theorem cf_X7_crane : CFv yX7_crane RX7 cX7_crane 8 (some .int) 5 := ⟨wC_X7_crane, wI_X7_crane, wV_X7_X7_crane, wN_X7, by decide +kernel⟩
set_option maxHeartbeats 4000000 in
set_option maxRecDepth 100000 in
theorem cx_crane {l : Launch} (hlt : l.stackTraces = false) {E : EV} {K : Nat → Nat} {S : PS} (hW : WS K S) (hA : AW S) (hM : WM S) (w : Int32) (a : Int32) (r : Int32) (o : Int32) (b : Int32) (hLW : LW E K S) : CX l yX7_crane cX7_crane 8 (some .int) 7 149 7 61 E [.ref (K 0), .int w, .int a, .int r, .int o, .int b] S (fun v u => (m_crane K S w a r o b).1 = 0 ∧ ∃ q T, q ∉ sL S ∧ T = m_drawIn K (n_Crane (nw S q 0) q (K 2) (nI (sZ S (K 13))) w a r o) q b ∧ m_hindrance K T q 0 0 = 0 ∧ v = some (.int (nI (sZ S (K 13)))) ∧ Add0 (uI T 51 (K 13) (sI T 51 (K 13) + 1)) (K 13) q u ∧ GW K u ∧ LW E K u) (fun X u => xN (m_crane K S w a r o b) X u ∨ (X = "java/lang/IllegalStateException" ∧ (m_crane K S w a r o b).1 = 0 ∧ ∃ q T, q ∉ sL S ∧ T = m_drawIn K (n_Crane (nw S q 0) q (K 2) (nI (sZ S (K 13))) w a r o) q b ∧ u = T ∧ ¬ m_hindrance K T q 0 0 = 0)) := by
  refine CX.of (by decide) (Nat.le_of_ble_eq_true rfl) ?_
  intro p e s m below meth c M ht
  have M : MC E p s m _ meth c cX7_crane RX7 8 (some .int) := M
  show J p l e _ s m _ below meth c _ E 8 0 [(0, .ref (K 0)), (1, .int w), (2, .int a), (3, .int r), (4, .int o), (5, .int b)] [] S 0 0
  refine j_aload_n M dX7_crane_0 rfl ?_
  refine j_iload_n M dX7_crane_1 rfl ?_
  refine jx_callV (As := [.int w]) M cf_X7_needCell wM_X7_50 (cx_needCell hlt hW w) hW.k0.1 (pAt_7 E _ hW.k0.2) rfl rfl ⟨Nat.le_of_ble_eq_true rfl, Nat.le_of_ble_eq_true rfl⟩ (Nat.le_of_ble_eq_true rfl) ⟨Nat.le_of_ble_eq_true rfl, Nat.le_of_ble_eq_true rfl⟩ dX7_crane_2 rfl (fun v u h => ?_) (fun X u h => ?_)
  · obtain ⟨c1, rfl, hu⟩ := h
    obtain rfl := hu.symm
    refine j_iload_n M dX7_crane_5 rfl ?_
    refine j_iconst (v := 3) M dX7_crane_6 (by decide) ?_
    refine j_bipush (v := 30) M dX7_crane_7 (by decide) ?_
    refine jx_callS (As := [.int a, .int 3, .int 30]) M cf_X7_needWithin wM_X7_34 (cx_needWithin hlt hW a 3 30) rfl ⟨Nat.le_of_ble_eq_true rfl, Nat.le_of_ble_eq_true rfl⟩ (Nat.le_of_ble_eq_true rfl) ⟨Nat.le_of_ble_eq_true rfl, Nat.le_of_ble_eq_true rfl⟩ dX7_crane_9 rfl (fun v u h => ?_) (fun X u h => ?_)
    · obtain ⟨c2, rfl, hu⟩ := h
      obtain rfl := hu.symm
      refine j_iload_n M dX7_crane_12 rfl ?_
      refine j_iconst (v := 2) M dX7_crane_13 (by decide) ?_
      refine j_bipush (v := 9) M dX7_crane_14 (by decide) ?_
      refine jx_callS (As := [.int r, .int 2, .int 9]) M cf_X7_needWithin wM_X7_34 (cx_needWithin hlt hW r 2 9) rfl ⟨Nat.le_of_ble_eq_true rfl, Nat.le_of_ble_eq_true rfl⟩ (Nat.le_of_ble_eq_true rfl) ⟨Nat.le_of_ble_eq_true rfl, Nat.le_of_ble_eq_true rfl⟩ dX7_crane_16 rfl (fun v u h => ?_) (fun X u h => ?_)
      · obtain ⟨c3, rfl, hu⟩ := h
        obtain rfl := hu.symm
        refine j_iload M dX7_crane_19 rfl ?_
        refine j_iconst (v := 5) M dX7_crane_21 (by decide) ?_
        refine j_sipush (v := 400) M dX7_crane_22 (by decide) ?_
        refine jx_callS (As := [.int o, .int 5, .int 400]) M cf_X7_needWithin wM_X7_34 (cx_needWithin hlt hW o 5 400) rfl ⟨Nat.le_of_ble_eq_true rfl, Nat.le_of_ble_eq_true rfl⟩ (Nat.le_of_ble_eq_true rfl) ⟨Nat.le_of_ble_eq_true rfl, Nat.le_of_ble_eq_true rfl⟩ dX7_crane_25 rfl (fun v u h => ?_) (fun X u h => ?_)
        · obtain ⟨c4, rfl, hu⟩ := h
          obtain rfl := hu.symm
          refine j_iload M dX7_crane_28 rfl ?_
          refine j_iconst (v := 0) M dX7_crane_30 (by decide) ?_
          refine j_bipush (v := 7) M dX7_crane_31 (by decide) ?_
          refine jx_callS (As := [.int b, .int 0, .int 7]) M cf_X7_needWithin wM_X7_34 (cx_needWithin hlt hW b 0 7) rfl ⟨Nat.le_of_ble_eq_true rfl, Nat.le_of_ble_eq_true rfl⟩ (Nat.le_of_ble_eq_true rfl) ⟨Nat.le_of_ble_eq_true rfl, Nat.le_of_ble_eq_true rfl⟩ dX7_crane_33 rfl (fun v u h => ?_) (fun X u h => ?_)
          · obtain ⟨c5, rfl, hu⟩ := h
            obtain rfl := hu.symm
            refine j_aload_n M dX7_crane_36 rfl ?_
            refine j_get (v := .ref (K 1)) M hW.k0.1 (pAt_7 E _ hW.k0.2) rfl inU_X7 0 (by decide) wF_X7_17 (fun _ h => h) (rfv hW.r48) dX7_crane_37 ?_
            refine j_getN (v := .ref (K 13)) M hW.k1.1 (pAt_5 E _ hW.k1.2) rfl inU_X5 3 (by decide) nF_X7_124 (fun _ h => h) (rfv hW.r35) dX7_crane_40 ?_
            refine j_callV1 (As := []) (x := .int (nI (sZ S (K 13)))) M cf_size wM_X7_76 (c_size hW.l13) hW.l13.1.1 (pAt_8 E _ hW.l13.1.2) rfl rfl ⟨Nat.le_of_ble_eq_true rfl, Nat.le_of_ble_eq_true rfl⟩ (Nat.le_of_ble_eq_true rfl) ⟨Nat.le_of_ble_eq_true rfl, Nat.le_of_ble_eq_true rfl⟩ dX7_crane_43 rfl ?_
            refine j_istore (lv' := [(6, .int (nI (sZ S (K 13)))), (0, .ref (K 0)), (1, .int w), (2, .int a), (3, .int r), (4, .int o), (5, .int b)]) M dX7_crane_46 (by decide) rfl ?_
            refine j_iload M dX7_crane_48 rfl ?_
            refine j_iconst (v := 4) M dX7_crane_50 (by decide) ?_
            refine j_icmp_ge (tgt := 65) M dX7_crane_51 (by decide) (fun c6 => ?_) (fun c6 => ?_)
            · exact jx_throw M hlt (by decide +kernel) af_names wL_X7_58 wN_IllegalStateException nS_131 at_ISE ag_ISE dX7_crane_65 dX7_crane_68 dX7_crane_69 dX7_crane_71 dX7_crane_74 ht (Nat.le_of_ble_eq_true rfl) (Nat.le_of_ble_eq_true rfl) (Nat.le_of_ble_eq_true rfl) (Nat.le_of_ble_eq_true rfl) (Or.inl (xN_mk (show ((3, 0, S) : Nat × Int32 × PS) = m_crane K S w a r o b from (by unfold m_crane; rw [if_neg c1, if_pos c2, if_pos c3, if_pos c4, if_pos c5, if_pos c6])) (by decide) (by decide))) (Nat.le_of_ble_eq_true rfl) (Nat.le_of_ble_eq_true rfl)
            · refine j_aload_n M dX7_crane_54 rfl ?_
              refine j_get (v := .ref (K 1)) M hW.k0.1 (pAt_7 E _ hW.k0.2) rfl inU_X7 0 (by decide) wF_X7_17 (fun _ h => h) (rfv hW.r48) dX7_crane_55 ?_
              refine j_iload_n M dX7_crane_58 rfl ?_
              refine j_callV1 (As := [.int w]) M cf_X5_canFound wM_X7_127 (c_canFound hW hA hM w) hW.k1.1 (pAt_5 E _ hW.k1.2) rfl rfl ⟨Nat.le_of_ble_eq_true rfl, Nat.le_of_ble_eq_true rfl⟩ (Nat.le_of_ble_eq_true rfl) ⟨Nat.le_of_ble_eq_true rfl, Nat.le_of_ble_eq_true rfl⟩ dX7_crane_59 rfl ?_
              refine j_if_ne (tgt := 75) M dX7_crane_62 (by decide) (fun c7 => ?_) (fun c7 => ?_)
              · refine j_new (k := 0) M rfl inU_X0 tyX0 tyX0_ok wL_X7_133 wX_X0 wN_X0 (fun j hj => match j, hj with | 0, _ => rfl | 1, _ => rfl | 2, _ => rfl | 3, _ => rfl | 4, _ => rfl | 5, _ => rfl | 6, _ => rfl | 7, _ => rfl | 8, _ => rfl | 9, _ => rfl | 10, _ => rfl | 11, _ => rfl | 12, _ => rfl | 13, _ => rfl | 14, _ => rfl | 15, _ => rfl | _ + 16, h => absurd h (by omega)) (fun q b => pNw_0 E _ q b) ⟨Nat.le_of_ble_eq_true rfl, Nat.le_of_ble_eq_true rfl⟩ dX7_crane_75 (fun q hq => ?_)
                refine j_gen (fun S1 e1 => ?_)
                have x1 : ES S S1 := by rw [e1]; exact ES.nw hq
                have i1 : InK S1 q 0 := by rw [e1]; exact ink_n
                refine j_dup M dX7_crane_78 rfl ?_
                refine j_aload_n M dX7_crane_79 rfl ?_
                refine j_get (v := .ref (K 1)) M (x1.k hW.k0).1 (pAt_7 E _ (x1.k hW.k0).2) rfl inU_X7 0 (by decide) wF_X7_17 (fun _ h => h) (rfv (x1.r hW.k0.1 hW.r48)) dX7_crane_80 ?_
                refine j_getN (v := .ref (K 2)) M (x1.k hW.k1).1 (pAt_5 E _ (x1.k hW.k1).2) rfl inU_X5 0 (by decide) nF_X7_42 (fun _ h => h) (rfv (x1.r hW.k1.1 hW.r32)) dX7_crane_83 ?_
                refine j_iload M dX7_crane_86 rfl ?_
                refine j_iload_n M dX7_crane_88 rfl ?_
                refine j_iload_n M dX7_crane_89 rfl ?_
                refine j_iload_n M dX7_crane_90 rfl ?_
                refine j_iload M dX7_crane_91 rfl ?_
                refine j_callI0 (As := [.ref (K 2), .int (nI (sZ S (K 13))), .int w, .int a, .int r, .int o]) M cf_X0_init wM_X7_135 (ci_Crane (S := S1) i1 (x1.k hW.k2) (nI (sZ S (K 13))) w a r o) rfl ⟨Nat.le_of_ble_eq_true rfl, Nat.le_of_ble_eq_true rfl⟩ (Nat.le_of_ble_eq_true rfl) ⟨Nat.le_of_ble_eq_true rfl, Nat.le_of_ble_eq_true rfl⟩ dX7_crane_93 rfl ?_
                refine j_gen (fun S2 e2 => ?_)
                have e3 : S2 = n_Crane (nw S q 0) q (K 2) (nI (sZ S (K 13))) w a r o := by rw [e2, e1]
                have x2 : ES S S2 := by rw [e3]; exact es_Crane hq
                have g2 : GW K S2 := by rw [e3]; exact gw_Crane hq (le20_of c3) ⟨hW, hA, hM⟩
                have i2 : InK S2 q 0 := by rw [e3]; exact ink_Crane
                refine j_astore (lv' := [(7, .ref q), (6, .int (nI (sZ S (K 13)))), (0, .ref (K 0)), (1, .int w), (2, .int a), (3, .int r), (4, .int o), (5, .int b)]) M dX7_crane_96 (by decide) rfl ?_
                refine j_aload M dX7_crane_98 rfl ?_
                refine j_iload M dX7_crane_100 rfl ?_
                refine j_callV0 (As := [.int b]) M cf_X0_drawIn wM_X7_138 (c_drawIn (S := S2) g2.1 g2.2.1 g2.2.2 i2.1 i2.2 b) i2.1 (pAt_0 E _ i2.2) rfl rfl ⟨Nat.le_of_ble_eq_true rfl, Nat.le_of_ble_eq_true rfl⟩ (Nat.le_of_ble_eq_true rfl) ⟨Nat.le_of_ble_eq_true rfl, Nat.le_of_ble_eq_true rfl⟩ dX7_crane_102 rfl ?_
                have g1 := g_drawIn (S := S2) g2.1 g2.2.1 g2.2.2 i2.1 i2.2 b
                refine j_gen (fun S3 e4 => ?_)
                have gs3 : GW K S3 := by rw [e4]; exact g1.1
                have x3 : ES S S3 := x2.tr (ES.ss (by rw [e4]; exact g1.2))
                have i3 : InK S3 q 0 := by rw [e4]; exact g1.2.kk.mpr i2
                refine j_aload_n M dX7_crane_105 rfl ?_
                refine j_get (v := .ref (K 1)) M gs3.1.k0.1 (pAt_7 E _ gs3.1.k0.2) rfl inU_X7 0 (by decide) wF_X7_17 (fun _ h => h) (rfv gs3.1.r48) dX7_crane_106 ?_
                refine j_aload M dX7_crane_109 rfl ?_
                refine j_iconst (v := 0) M dX7_crane_111 (by decide) ?_
                refine j_iconst (v := 0) M dX7_crane_112 (by decide) ?_
                refine j_callV1 (As := [.ref q, .int 0, .int 0]) M cf_X5_hindrance wM_X7_141 (c_hindrance (S := S3) gs3.1 gs3.2.1 gs3.2.2 i3.1 i3.2 0 0) gs3.1.k1.1 (pAt_5 E _ gs3.1.k1.2) rfl rfl ⟨Nat.le_of_ble_eq_true rfl, Nat.le_of_ble_eq_true rfl⟩ (Nat.le_of_ble_eq_true rfl) ⟨Nat.le_of_ble_eq_true rfl, Nat.le_of_ble_eq_true rfl⟩ dX7_crane_113 rfl ?_
                refine j_if_eq (tgt := 129) M dX7_crane_116 (by decide) (fun c8 => ?_) (fun c8 => ?_)
                · refine j_aload_n M dX7_crane_129 rfl ?_
                  refine j_get (v := .ref (K 1)) M gs3.1.k0.1 (pAt_7 E _ gs3.1.k0.2) rfl inU_X7 0 (by decide) wF_X7_17 (fun _ h => h) (rfv gs3.1.r48) dX7_crane_130 ?_
                  refine j_getN (v := .ref (K 13)) M gs3.1.k1.1 (pAt_5 E _ gs3.1.k1.2) rfl inU_X5 3 (by decide) nF_X7_124 (fun _ h => h) (rfv gs3.1.r35) dX7_crane_133 ?_
                  refine j_aload M dX7_crane_136 rfl ?_
                  refine j_df M (fun hd hnd => ?_)
                  have iq : InK S3 q 0 := ⟨i3.1, i3.2⟩
                  have gq : GW K S3 := ⟨gs3.1, gs3.2.1, gs3.2.2⟩
                  have hz : sZ S3 (K 13) < 4 := by rw [(x3 _ hW.l13.1.1).2.2.2.2.1]; exact Nat.lt_of_not_le (fun h => c6 ((nI_leI (a := 4) (by decide) (by have := hW.l13.2.1; omega)).mpr h))
                  have L2 : LW E K S3 := hLW.ext x3 hd
                  refine j_callV (As := [.ref q]) M cf_add wM_X7_87 (c_add (S := S3) (L2.1 13 (by decide) (by decide)) iq.1 (by rw [iq.2]; simp [oka])) gq.1.l13.1.1 (pAt_8 E _ gq.1.l13.1.2) rfl rfl ⟨Nat.le_of_ble_eq_true rfl, Nat.le_of_ble_eq_true rfl⟩ (Nat.le_of_ble_eq_true rfl) ⟨Nat.le_of_ble_eq_true rfl, Nat.le_of_ble_eq_true rfl⟩ dX7_crane_138 rfl (fun v u hu => ?_)
                  obtain ⟨rfl, A⟩ := hu
                  refine j_df M (fun hdu hndu => ?_)
                  have gu : GW K u := gw_add gq L2.2 (by decide) (by decide) A iq hz
                  have Lu : LW E K u := LW.add (S := uI S3 51 (K 13) (sI S3 51 (K 13) + 1)) (show LW E K (uI S3 51 (K 13) (sI S3 51 (K 13) + 1)) from L2) (by decide) (by decide) A (by show sZ S3 (K 13) ≤ 13; omega) iq.1 (by show oka (sK S3 q); rw [iq.2]; simp [oka]) hdu
                  refine j_pop M dX7_crane_141 rfl ?_
                  refine j_iload M dX7_crane_142 rfl ?_
                  exact jx_ret (j_iret (v := (nI (sZ S (K 13)))) M dX7_crane_144 (Nat.le_of_ble_eq_true rfl) (Nat.le_of_ble_eq_true rfl) ⟨(by unfold m_crane; rw [if_neg c1, if_pos c2, if_pos c3, if_pos c4, if_pos c5, if_neg c6, if_neg c7]), q, S3, hq, (by rw [e4, e3]), c8, rfl, A, gu, Lu⟩)
                · exact jx_throw M hlt (by decide +kernel) af_names wL_X7_58 wN_IllegalStateException nS_145 at_ISE ag_ISE dX7_crane_119 dX7_crane_122 dX7_crane_123 dX7_crane_125 dX7_crane_128 ht (Nat.le_of_ble_eq_true rfl) (Nat.le_of_ble_eq_true rfl) (Nat.le_of_ble_eq_true rfl) (Nat.le_of_ble_eq_true rfl) (Or.inr ⟨rfl, (by unfold m_crane; rw [if_neg c1, if_pos c2, if_pos c3, if_pos c4, if_pos c5, if_neg c6, if_neg c7]), q, S3, hq, (by rw [e4, e3]), rfl, c8⟩) (Nat.le_of_ble_eq_true rfl) (Nat.le_of_ble_eq_true rfl)
              · exact jx_throw M hlt (by decide +kernel) af_names wL_X7_58 wN_IllegalStateException nS_131 at_ISE ag_ISE dX7_crane_65 dX7_crane_68 dX7_crane_69 dX7_crane_71 dX7_crane_74 ht (Nat.le_of_ble_eq_true rfl) (Nat.le_of_ble_eq_true rfl) (Nat.le_of_ble_eq_true rfl) (Nat.le_of_ble_eq_true rfl) (Or.inl (xN_mk (show ((3, 0, S) : Nat × Int32 × PS) = m_crane K S w a r o b from (by unfold m_crane; rw [if_neg c1, if_pos c2, if_pos c3, if_pos c4, if_pos c5, if_neg c6, if_pos c7])) (by decide) (by decide))) (Nat.le_of_ble_eq_true rfl) (Nat.le_of_ble_eq_true rfl)
          · obtain ⟨c9, rfl, hu⟩ := h
            obtain rfl := hu.symm
            exact jx_out M ht (Or.inl (xN_mk (show ((2, 0, S) : Nat × Int32 × PS) = m_crane K S w a r o b from (by unfold m_crane; rw [if_neg c1, if_pos c2, if_pos c3, if_pos c4, if_neg c9])) (by decide) (by decide))) (Nat.le_of_ble_eq_true rfl) (Nat.le_of_ble_eq_true rfl)
        · obtain ⟨c10, rfl, hu⟩ := h
          obtain rfl := hu.symm
          exact jx_out M ht (Or.inl (xN_mk (show ((2, 0, S) : Nat × Int32 × PS) = m_crane K S w a r o b from (by unfold m_crane; rw [if_neg c1, if_pos c2, if_pos c3, if_neg c10])) (by decide) (by decide))) (Nat.le_of_ble_eq_true rfl) (Nat.le_of_ble_eq_true rfl)
      · obtain ⟨c11, rfl, hu⟩ := h
        obtain rfl := hu.symm
        exact jx_out M ht (Or.inl (xN_mk (show ((2, 0, S) : Nat × Int32 × PS) = m_crane K S w a r o b from (by unfold m_crane; rw [if_neg c1, if_pos c2, if_neg c11])) (by decide) (by decide))) (Nat.le_of_ble_eq_true rfl) (Nat.le_of_ble_eq_true rfl)
    · obtain ⟨c12, rfl, hu⟩ := h
      obtain rfl := hu.symm
      exact jx_out M ht (Or.inl (xN_mk (show ((2, 0, S) : Nat × Int32 × PS) = m_crane K S w a r o b from (by unfold m_crane; rw [if_neg c1, if_neg c12])) (by decide) (by decide))) (Nat.le_of_ble_eq_true rfl) (Nat.le_of_ble_eq_true rfl)
  · obtain ⟨c13, rfl, hu⟩ := h
    obtain rfl := hu.symm
    exact jx_out M ht (Or.inl (xN_mk (show ((1, 0, S) : Nat × Int32 × PS) = m_crane K S w a r o b from (by unfold m_crane; rw [if_pos c13])) (by decide) (by decide))) (Nat.le_of_ble_eq_true rfl) (Nat.le_of_ble_eq_true rfl)
def m_glay (K : Nat → Nat) (S : PS) (a : Int32) (b : Int32) : PS :=
  m_fill K (uI (uI S 17 (K 2) a) 18 (K 2) b) (K 6) 0
theorem cf_X1_lay : CFv yX1_lay RX1 cX1_lay 3 none 2 := ⟨wC_X1_lay, wI_X1_lay, wV_X1_X1_lay, wN_X1, by decide +kernel⟩
set_option maxHeartbeats 4000000 in
set_option maxRecDepth 100000 in
theorem c_glay {l : Launch} {E : EV} {K : Nat → Nat} {S : PS} (hW : WS K S) (hA : AW S) (hM : WM S) (a : Int32) (b : Int32) : CT l yX1_lay cX1_lay 3 none 1 23 0 0 E [.ref (K 2), .int a, .int b] S (p0 (m_glay K S a b)) := by
  refine CT.of (by decide) (Nat.le_of_ble_eq_true rfl) ?_
  intro p e s m below meth c M hin
  have M : MC E p s m _ meth c cX1_lay RX1 3 none := M
  show J p l e _ s m _ below meth c _ E 3 0 [(0, .ref (K 2)), (1, .int a), (2, .int b)] [] S 0 0
  refine j_aload_n M dX1_lay_0 rfl ?_
  refine j_iload_n M dX1_lay_1 rfl ?_
  refine j_put (host := "") (S2 := uI S 17 (K 2) a) M hW.k2.1 (pAt_1 E _ hW.k2.2) rfl inU_X1 1 (by decide) tyX1 tyX1_ok nmX1 wF_X1_15 (fun _ h => h) rfl (tyX1_ok 1 (by decide)) rfl rfl (Nat.le_of_ble_eq_true rfl) rfl (pUp_17 E S hW.k2.2 _) dX1_lay_2 ?_
  refine j_aload_n M dX1_lay_5 rfl ?_
  refine j_iload_n M dX1_lay_6 rfl ?_
  refine j_put (host := "") (S2 := uI (uI S 17 (K 2) a) 18 (K 2) b) M ((WS.uI hW).k2.1) (pAt_1 E _ ((WS.uI hW).k2.2)) rfl inU_X1 2 (by decide) tyX1 tyX1_ok nmX1 wF_X1_19 (fun _ h => h) rfl (tyX1_ok 2 (by decide)) rfl rfl (Nat.le_of_ble_eq_true rfl) rfl (pUp_18 E (uI S 17 (K 2) a) ((WS.uI hW).k2.2) _) dX1_lay_7 ?_
  refine j_aload_n M dX1_lay_10 rfl ?_
  refine j_get (v := .ref (K 6)) M ((WS.uI (WS.uI hW)).k2.1) (pAt_1 E _ ((WS.uI (WS.uI hW)).k2.2)) rfl inU_X1 0 (by decide) wF_X1_9 (fun _ h => h) (rfv (WS.uI (WS.uI hW)).r16) dX1_lay_11 ?_
  refine j_iconst (v := 0) M dX1_lay_14 (by decide) ?_
  refine j_callS0 (As := [.ref (K 6), .int 0]) M cf_J7_fill_53178 wM_X1_22 (c_fill (S := uI (uI S 17 (K 2) a) 18 (K 2) b) (WS.uI (WS.uI hW)) (AW.uI (by decide) (by decide) (AW.uI (by decide) (by decide) hA)) (WM.uI (WM.uI hM)) ((WS.uI (WS.uI hW)).k6.1) ((WS.uI (WS.uI hW)).k6.2) 0 (by rw [(WS.uI (WS.uI hW)).n6]; decide)) rfl ⟨Nat.le_of_ble_eq_true rfl, Nat.le_of_ble_eq_true rfl⟩ (Nat.le_of_ble_eq_true rfl) ⟨Nat.zero_le _, Nat.zero_le _⟩ dX1_lay_15 rfl ?_
  have g1 := g_fill (S := uI (uI S 17 (K 2) a) 18 (K 2) b) (WS.uI (WS.uI hW)) (AW.uI (by decide) (by decide) (AW.uI (by decide) (by decide) hA)) (WM.uI (WM.uI hM)) ((WS.uI (WS.uI hW)).k6.1) ((WS.uI (WS.uI hW)).k6.2) 0
  exact j_vret M dX1_lay_18 (Nat.le_refl _) (Nat.le_refl _) ⟨rfl, (show m_fill K (uI (uI S 17 (K 2) a) 18 (K 2) b) (K 6) 0 = m_glay K S a b from rfl)⟩
theorem g_glay {K : Nat → Nat} {S : PS} (hW : WS K S) (hA : AW S) (hM : WM S) (a b : Int32) : GW K (m_glay K S a b) ∧ SS S (m_glay K S a b) := by
  have g := g_fill (S := uI (uI S 17 (K 2) a) 18 (K 2) b) (WS.uI (WS.uI hW)) (AW.uI (by decide) (by decide) (AW.uI (by decide) (by decide) hA)) (WM.uI (WM.uI hM)) hW.k6.1 hW.k6.2 0
  exact ⟨g.1, g.2⟩
theorem cf_X5_lay : CFv yX5_lay RX5 cX5_lay 3 none 2 := ⟨wC_X5_lay, wI_X5_lay, wV_X5_X5_lay, wN_X5, by decide +kernel⟩
set_option maxHeartbeats 4000000 in
set_option maxRecDepth 100000 in
theorem c_slay {l : Launch} {E : EV} {K : Nat → Nat} {S : PS} (hW : WS K S) (hA : AW S) (hM : WM S) (a : Int32) (b : Int32) (hLW : LW E K S) : CT l yX5_lay cX5_lay 3 none 2 45 0 0 E [.ref (K 1), .int a, .int b] S (fun v u => v = none ∧ laid K S a b u ∧ GW K u ∧ LW E K u) := by
  refine CT.of (by decide) (Nat.le_of_ble_eq_true rfl) ?_
  intro p e s m below meth c M hin
  have M : MC E p s m _ meth c cX5_lay RX5 3 none := M
  show J p l e _ s m _ below meth c _ E 3 0 [(0, .ref (K 1)), (1, .int a), (2, .int b)] [] S 0 0
  refine j_aload_n M dX5_lay_0 rfl ?_
  refine j_get (v := .ref (K 2)) M hW.k1.1 (pAt_5 E _ hW.k1.2) rfl inU_X5 0 (by decide) wF_X5_46 (fun _ h => h) (rfv hW.r32) dX5_lay_1 ?_
  refine j_iload_n M dX5_lay_4 rfl ?_
  refine j_iload_n M dX5_lay_5 rfl ?_
  refine j_callV0 (As := [.int a, .int b]) M cf_X1_lay wM_X5_59 (c_glay hW hA hM a b) hW.k2.1 (pAt_1 E _ hW.k2.2) rfl rfl ⟨Nat.le_of_ble_eq_true rfl, Nat.le_of_ble_eq_true rfl⟩ (Nat.le_of_ble_eq_true rfl) ⟨Nat.zero_le _, Nat.zero_le _⟩ dX5_lay_6 rfl ?_
  have g1 := g_glay hW hA hM a b
  refine j_aload_n M dX5_lay_9 rfl ?_
  refine j_get (v := .ref (K 11)) M g1.1.1.k1.1 (pAt_5 E _ g1.1.1.k1.2) rfl inU_X5 1 (by decide) wF_X5_12 (fun _ h => h) (rfv g1.1.1.r33) dX5_lay_10 ?_
  refine j_df M (fun hd hnd => ?_)
  refine j_gen (fun u0 e0 => ?_)
  have gu0 : GW K u0 := by rw [e0]; exact g1.1
  have Lu0 : LW E K u0 := by rw [e0]; exact hLW.ext (ES.ss g1.2) hd
  refine j_callV (As := []) M cf_clear wM_X5_65 (c_clear (S := u0) (Lu0.1 11 (by decide) (by decide))) gu0.1.l11.1.1 (pAt_8 E _ gu0.1.l11.1.2) rfl rfl ⟨Nat.le_of_ble_eq_true rfl, Nat.le_of_ble_eq_true rfl⟩ (Nat.le_of_ble_eq_true rfl) ⟨Nat.le_of_ble_eq_true rfl, Nat.le_of_ble_eq_true rfl⟩ dX5_lay_13 rfl (fun v u1 hu => ?_)
  obtain ⟨rfl, A11⟩ := hu
  have gu1 : GW K u1 := gw_clr gu0 Lu0.2 (by decide) (by decide) A11
  have Lu1 : LW E K u1 := Lu0.clr (by decide) (by decide) A11
  refine j_aload_n M dX5_lay_16 rfl ?_
  refine j_get (v := .ref (K 12)) M gu1.1.k1.1 (pAt_5 E _ gu1.1.k1.2) rfl inU_X5 2 (by decide) wF_X5_18 (fun _ h => h) (rfv gu1.1.r34) dX5_lay_17 ?_
  refine j_callV (As := []) M cf_clear wM_X5_65 (c_clear (S := u1) (Lu1.1 12 (by decide) (by decide))) gu1.1.l12.1.1 (pAt_8 E _ gu1.1.l12.1.2) rfl rfl ⟨Nat.le_of_ble_eq_true rfl, Nat.le_of_ble_eq_true rfl⟩ (Nat.le_of_ble_eq_true rfl) ⟨Nat.le_of_ble_eq_true rfl, Nat.le_of_ble_eq_true rfl⟩ dX5_lay_20 rfl (fun v u2 hu => ?_)
  obtain ⟨rfl, A12⟩ := hu
  have gu2 : GW K u2 := gw_clr gu1 Lu1.2 (by decide) (by decide) A12
  have Lu2 : LW E K u2 := Lu1.clr (by decide) (by decide) A12
  refine j_aload_n M dX5_lay_23 rfl ?_
  refine j_get (v := .ref (K 13)) M gu2.1.k1.1 (pAt_5 E _ gu2.1.k1.2) rfl inU_X5 3 (by decide) wF_X5_21 (fun _ h => h) (rfv gu2.1.r35) dX5_lay_24 ?_
  refine j_callV (As := []) M cf_clear wM_X5_65 (c_clear (S := u2) (Lu2.1 13 (by decide) (by decide))) gu2.1.l13.1.1 (pAt_8 E _ gu2.1.l13.1.2) rfl rfl ⟨Nat.le_of_ble_eq_true rfl, Nat.le_of_ble_eq_true rfl⟩ (Nat.le_of_ble_eq_true rfl) ⟨Nat.le_of_ble_eq_true rfl, Nat.le_of_ble_eq_true rfl⟩ dX5_lay_27 rfl (fun v u3 hu => ?_)
  obtain ⟨rfl, A13⟩ := hu
  have gu3 : GW K u3 := gw_clr gu2 Lu2.2 (by decide) (by decide) A13
  have Lu3 : LW E K u3 := Lu2.clr (by decide) (by decide) A13
  refine j_aload_n M dX5_lay_30 rfl ?_
  refine j_get (v := .ref (K 14)) M gu3.1.k1.1 (pAt_5 E _ gu3.1.k1.2) rfl inU_X5 4 (by decide) wF_X5_24 (fun _ h => h) (rfv gu3.1.r36) dX5_lay_31 ?_
  refine j_callV (As := []) M cf_clear wM_X5_65 (c_clear (S := u3) (Lu3.1 14 (by decide) (by decide))) gu3.1.l14.1.1 (pAt_8 E _ gu3.1.l14.1.2) rfl rfl ⟨Nat.le_of_ble_eq_true rfl, Nat.le_of_ble_eq_true rfl⟩ (Nat.le_of_ble_eq_true rfl) ⟨Nat.le_of_ble_eq_true rfl, Nat.le_of_ble_eq_true rfl⟩ dX5_lay_34 rfl (fun v u4 hu => ?_)
  obtain ⟨rfl, A14⟩ := hu
  have gu4 : GW K u4 := gw_clr gu3 Lu3.2 (by decide) (by decide) A14
  have Lu4 : LW E K u4 := Lu3.clr (by decide) (by decide) A14
  refine j_aload_n M dX5_lay_37 rfl ?_
  refine j_iconst (v := 0) M dX5_lay_38 (by decide) ?_
  refine j_put (host := "") (S2 := uI u4 39 (K 1) 0) M gu4.1.k1.1 (pAt_5 E _ gu4.1.k1.2) rfl inU_X5 7 (by decide) tyX5 tyX5_ok nmX5 wF_X5_36 (fun _ h => h) rfl (tyX5_ok 7 (by decide)) rfl rfl (Nat.le_of_ble_eq_true rfl) rfl (pUp_39 E u4 gu4.1.k1.2 _) dX5_lay_39 ?_
  refine j_aload_n M dX5_lay_42 rfl ?_
  refine j_iconst (v := 0) M dX5_lay_43 (by decide) ?_
  refine j_put (host := "") (S2 := uI (uI u4 39 (K 1) 0) 40 (K 1) 0) M ((WS.uI gu4.1).k1.1) (pAt_5 E _ ((WS.uI gu4.1).k1.2)) rfl inU_X5 8 (by decide) tyX5 tyX5_ok nmX5 wF_X5_40 (fun _ h => h) rfl (tyX5_ok 8 (by decide)) rfl rfl (Nat.le_of_ble_eq_true rfl) rfl (pUp_40 E (uI u4 39 (K 1) 0) ((WS.uI gu4.1).k1.2) _) dX5_lay_44 ?_
  refine j_aload_n M dX5_lay_47 rfl ?_
  refine j_iconst (v := 0) M dX5_lay_48 (by decide) ?_
  refine j_put (host := "") (S2 := uI (uI (uI u4 39 (K 1) 0) 40 (K 1) 0) 41 (K 1) 0) M ((WS.uI (WS.uI gu4.1)).k1.1) (pAt_5 E _ ((WS.uI (WS.uI gu4.1)).k1.2)) rfl inU_X5 9 (by decide) tyX5 tyX5_ok nmX5 wF_X5_43 (fun _ h => h) rfl (tyX5_ok 9 (by decide)) rfl rfl (Nat.le_of_ble_eq_true rfl) rfl (pUp_41 E (uI (uI u4 39 (K 1) 0) 40 (K 1) 0) ((WS.uI (WS.uI gu4.1)).k1.2) _) dX5_lay_49 ?_
  exact j_vret M dX5_lay_52 (Nat.le_refl _) (Nat.le_refl _) ⟨rfl, ⟨u1, u2, u3, u4, by rw [e0] at A11; exact A11, A12, A13, A14, rfl⟩, ⟨(WS.uI (WS.uI (WS.uI gu4.1))), (AW.uI (by decide) (by decide) (AW.uI (by decide) (by decide) (AW.uI (by decide) (by decide) gu4.2.1))), (WM.uI (WM.uI (WM.uI gu4.2.2)))⟩, Lu4⟩
theorem cf_X7_yard : CFv yX7_yard RX7 cX7_yard 3 (some .int) 2 := ⟨wC_X7_yard, wI_X7_yard, wV_X7_X7_yard, wN_X7, by decide +kernel⟩
set_option maxHeartbeats 4000000 in
set_option maxRecDepth 100000 in
theorem c_yard {l : Launch} {E : EV} {K : Nat → Nat} {S : PS} (hW : WS K S) (hA : AW S) (hM : WM S) (w : Int32) (h : Int32) (hLW : LW E K S) (hw : OKw w 6 14) (hh : OKw h 6 14) : CT l yX7_yard cX7_yard 3 (some .int) 3 67 0 0 E [.ref (K 0), .int w, .int h] S (fun v u => v = some (.int (m_cells K u)) ∧ laid K S w h u ∧ GW K u ∧ LW E K u) := by
  refine CT.of (by decide) (Nat.le_of_ble_eq_true rfl) ?_
  intro p e s m below meth c M hin
  have M : MC E p s m _ meth c cX7_yard RX7 3 (some .int) := M
  show J p l e _ s m _ below meth c _ E 3 0 [(0, .ref (K 0)), (1, .int w), (2, .int h)] [] S 0 0
  refine j_iload_n M dX7_yard_0 rfl ?_
  refine j_bipush (v := 6) M dX7_yard_1 (by decide) ?_
  refine j_bipush (v := 14) M dX7_yard_3 (by decide) ?_
  refine j_callS0 (As := [.int w, .int 6, .int 14]) M cf_X7_needWithin wM_X7_34 (c_needWithin hW w 6 14 hw.1 hw.2) rfl ⟨Nat.le_of_ble_eq_true rfl, Nat.le_of_ble_eq_true rfl⟩ (Nat.le_of_ble_eq_true rfl) ⟨Nat.zero_le _, Nat.zero_le _⟩ dX7_yard_5 rfl ?_
  refine j_iload_n M dX7_yard_8 rfl ?_
  refine j_bipush (v := 6) M dX7_yard_9 (by decide) ?_
  refine j_bipush (v := 14) M dX7_yard_11 (by decide) ?_
  refine j_callS0 (As := [.int h, .int 6, .int 14]) M cf_X7_needWithin wM_X7_34 (c_needWithin hW h 6 14 hh.1 hh.2) rfl ⟨Nat.le_of_ble_eq_true rfl, Nat.le_of_ble_eq_true rfl⟩ (Nat.le_of_ble_eq_true rfl) ⟨Nat.zero_le _, Nat.zero_le _⟩ dX7_yard_13 rfl ?_
  refine j_aload_n M dX7_yard_16 rfl ?_
  refine j_get (v := .ref (K 1)) M hW.k0.1 (pAt_7 E _ hW.k0.2) rfl inU_X7 0 (by decide) wF_X7_17 (fun _ h => h) (rfv hW.r48) dX7_yard_17 ?_
  refine j_iload_n M dX7_yard_20 rfl ?_
  refine j_iload_n M dX7_yard_21 rfl ?_
  refine j_callV (As := [.int w, .int h]) M cf_X5_lay wM_X7_38 (c_slay hW hA hM w h hLW) hW.k1.1 (pAt_5 E _ hW.k1.2) rfl rfl ⟨Nat.le_of_ble_eq_true rfl, Nat.le_of_ble_eq_true rfl⟩ (Nat.le_of_ble_eq_true rfl) ⟨Nat.le_of_ble_eq_true rfl, Nat.le_of_ble_eq_true rfl⟩ dX7_yard_22 rfl (fun v u hu => ?_)
  obtain ⟨rfl, hl, gu, Lu⟩ := hu
  refine j_aload_n M dX7_yard_25 rfl ?_
  refine j_get (v := .ref (K 1)) M gu.1.k0.1 (pAt_7 E _ gu.1.k0.2) rfl inU_X7 0 (by decide) wF_X7_17 (fun _ h => h) (rfv gu.1.r48) dX7_yard_26 ?_
  refine j_getN (v := .ref (K 2)) M gu.1.k1.1 (pAt_5 E _ gu.1.k1.2) rfl inU_X5 0 (by decide) nF_X7_42 (fun _ h => h) (rfv gu.1.r32) dX7_yard_29 ?_
  refine j_callV1 (As := []) M cf_X1_cells wM_X7_46 (c_cells (S := u) gu.1) gu.1.k2.1 (pAt_1 E _ gu.1.k2.2) rfl rfl ⟨Nat.le_of_ble_eq_true rfl, Nat.le_of_ble_eq_true rfl⟩ (Nat.le_of_ble_eq_true rfl) ⟨Nat.zero_le _, Nat.zero_le _⟩ dX7_yard_32 rfl ?_
  exact j_iret (v := (m_cells K u)) M dX7_yard_35 (Nat.le_refl _) (Nat.le_refl _) ⟨rfl, hl, gu, Lu⟩
