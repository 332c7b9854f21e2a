def exN (X : String) : Nat := if X = "java/lang/IndexOutOfBoundsException" then 1 else if X = "java/lang/IllegalArgumentException" then 2 else if X = "java/lang/IllegalStateException" then 3 else 0
/-- an answer (0, value, pool), or what was thrown (its number, 0, pool) -/
def pN (t : Nat × Int32 × PS) : Option Value → PS → Prop := fun v u => t.1 = 0 ∧ v = some (.int t.2.1) ∧ u = t.2.2
def xN (t : Nat × Int32 × PS) : String → PS → Prop := fun X u => t.1 = exN X ∧ ¬ t.1 = 0 ∧ u = t.2.2
theorem pN_mk {x : Int32} {S : PS} {t : Nat × Int32 × PS} (h : (0, x, S) = t) : pN t (some (.int x)) S := by subst h; exact ⟨rfl, rfl, rfl⟩
theorem xN_mk {k : Nat} {X : String} {S : PS} {t : Nat × Int32 × PS} (h : (k, 0, S) = t) (hk : k = exN X) (h0 : ¬ k = 0) : xN t X S := by subst h; exact ⟨hk, h0, rfl⟩
abbrev OKw (v a b : Int32) : Prop := ¬ v < a ∧ ¬ b < v
theorem cf_X7_needWithin : CFs yX7_needWithin cX7_needWithin 3 none 3 := ⟨wC_X7_needWithin, wS_X7_needWithin, wN_X7, by decide +kernel⟩
set_option maxHeartbeats 4000000 in
set_option maxRecDepth 100000 in
theorem c_needWithin {l : Launch} {E : EV} {K : Nat → Nat} {S : PS} (hW : WS K S) (v : Int32) (a : Int32) (b : Int32) (hv : ¬ v < a) (hv2 : ¬ b < v) : CT l yX7_needWithin cX7_needWithin 3 none 0 0 0 0 E [.int v, .int a, .int b] S (p0 S) := by
  refine CT.of (by decide) (Nat.le_of_ble_eq_true rfl) ?_
  intro p e s m below meth c M hin
  have M : MC E p s m _ meth c cX7_needWithin RX7 3 none := M
  show J p l e _ s m _ below meth c _ E 3 0 [(0, .int v), (1, .int a), (2, .int b)] [] S 0 0
  refine j_iload_n M dX7_needWithin_0 rfl ?_
  refine j_iload_n M dX7_needWithin_1 rfl ?_
  refine j_icmp_lt (tgt := 10) M dX7_needWithin_2 (by decide) (fun z => absurd z hv) (fun _ => ?_)
  refine j_iload_n M dX7_needWithin_5 rfl ?_
  refine j_iload_n M dX7_needWithin_6 rfl ?_
  refine j_icmp_le (tgt := 21) M dX7_needWithin_7 (by decide) (fun _ => ?_) (fun z => absurd (Int32.not_lt.mp hv2) z)
  exact j_vret M dX7_needWithin_21 (Nat.le_refl _) (Nat.le_refl _) ⟨rfl, rfl⟩
theorem cf_X7_needCell : CFv yX7_needCell RX7 cX7_needCell 2 none 1 := ⟨wC_X7_needCell, wI_X7_needCell, wV_X7_X7_needCell, wN_X7, by decide +kernel⟩
set_option maxHeartbeats 4000000 in
set_option maxRecDepth 100000 in
theorem c_needCell {l : Launch} {E : EV} {K : Nat → Nat} {S : PS} (hW : WS K S) (x : Int32) (hx : ¬ m_hasCell K S x = 0) : CT l yX7_needCell cX7_needCell 2 none 2 41 0 0 E [.ref (K 0), .int x] S (p0 S) := by
  refine CT.of (by decide) (Nat.le_of_ble_eq_true rfl) ?_
  intro p e s m below meth c M hin
  have M : MC E p s m _ meth c cX7_needCell RX7 2 none := M
  show J p l e _ s m _ below meth c _ E 2 0 [(0, .ref (K 0)), (1, .int x)] [] S 0 0
  refine j_aload_n M dX7_needCell_0 rfl ?_
  refine j_get (v := .ref (K 1)) M hW.k0.1 (pAt_7 E _ hW.k0.2) rfl inU_X7 0 (by decide) wF_X7_17 (fun _ h => h) (rfv hW.r48) dX7_needCell_1 ?_
  refine j_getN (v := .ref (K 2)) M hW.k1.1 (pAt_5 E _ hW.k1.2) rfl inU_X5 0 (by decide) nF_X7_42 (fun _ h => h) (rfv hW.r32) dX7_needCell_4 ?_
  refine j_iload_n M dX7_needCell_7 rfl ?_
  refine j_callV1 (As := [.int x]) M cf_X1_hasCell wM_X7_384 (c_hasCell hW x) hW.k2.1 (pAt_1 E _ hW.k2.2) rfl rfl ⟨Nat.le_of_ble_eq_true rfl, Nat.le_of_ble_eq_true rfl⟩ (Nat.le_of_ble_eq_true rfl) ⟨Nat.zero_le _, Nat.zero_le _⟩ dX7_needCell_8 rfl ?_
  refine j_if_ne (tgt := 25) M dX7_needCell_11 (by decide) (fun _ => ?_) (fun z => absurd z hx)
  exact j_vret M dX7_needCell_25 (Nat.le_refl _) (Nat.le_refl _) ⟨rfl, rfl⟩
theorem cf_X7_needCrane : CFv yX7_needCrane RX7 cX7_needCrane 2 (some (.object "Slewyard$Crane")) 1 := ⟨wC_X7_needCrane, wI_X7_needCrane, wV_X7_X7_needCrane, wN_X7, by decide +kernel⟩
set_option maxHeartbeats 4000000 in
set_option maxRecDepth 100000 in
theorem c_needCrane {l : Launch} {E : EV} {K : Nat → Nat} {S : PS} (hW : WS K S) {k : Nat} (hk : k < sZ S (K 13)) : CT l yX7_needCrane cX7_needCrane 2 (some (.object "Slewyard$Crane")) 3 64 0 0 E [.ref (K 0), .int (nI k)] S (pv (.ref (el S (K 13) k)) S) := by
  have hz13 := hW.l13.2.1
  refine CT.of (by decide) (Nat.le_of_ble_eq_true rfl) ?_
  intro p e s m below meth c M hin
  have M : MC E p s m _ meth c cX7_needCrane RX7 2 (some (.object "Slewyard$Crane")) := M
  show J p l e _ s m _ below meth c _ E 2 0 [(0, .ref (K 0)), (1, .int (nI k))] [] S 0 0
  refine j_iload_n M dX7_needCrane_0 rfl ?_
  refine j_if_lt (tgt := 18) M dX7_needCrane_1 (by decide) (fun z => absurd z (nI_pos (by omega))) (fun _ => ?_)
  refine j_iload_n M dX7_needCrane_4 rfl ?_
  refine j_aload_n M dX7_needCrane_5 rfl ?_
  refine j_get (v := .ref (K 1)) M hW.k0.1 (pAt_7 E _ hW.k0.2) rfl inU_X7 0 (by decide) wF_X7_17 (fun _ h => h) (rfv hW.r48) dX7_needCrane_6 ?_
  refine j_getN (v := .ref (K 13)) M hW.k1.1 (pAt_5 E _ hW.k1.2) rfl inU_X5 3 (by decide) nF_X7_124 (fun _ h => h) (rfv hW.r35) dX7_needCrane_9 ?_
  refine j_callV1 (As := []) (x := .int (nI (sZ S (K 13)))) M cf_size wM_X7_76 (c_size hW.l13) hW.l13.1.1 (pAt_8 E _ hW.l13.1.2) rfl rfl ⟨Nat.le_of_ble_eq_true rfl, Nat.le_of_ble_eq_true rfl⟩ (Nat.le_of_ble_eq_true rfl) ⟨Nat.zero_le _, Nat.zero_le _⟩ dX7_needCrane_12 rfl ?_
  refine j_icmp_lt (tgt := 29) M dX7_needCrane_15 (by decide) (fun _ => ?_) (fun z => absurd (nI_lt (by omega) (by omega)) z)
  refine j_aload_n M dX7_needCrane_29 rfl ?_
  refine j_get (v := .ref (K 1)) M hW.k0.1 (pAt_7 E _ hW.k0.2) rfl inU_X7 0 (by decide) wF_X7_17 (fun _ h => h) (rfv hW.r48) dX7_needCrane_30 ?_
  refine j_getN (v := .ref (K 13)) M hW.k1.1 (pAt_5 E _ hW.k1.2) rfl inU_X5 3 (by decide) nF_X7_124 (fun _ h => h) (rfv hW.r35) dX7_needCrane_33 ?_
  refine j_iload_n M dX7_needCrane_36 rfl ?_
  refine j_callV1 (As := [.int (nI k)]) (x := .ref (el S (K 13) k)) M cf_get wM_X7_263 (c_get hW.l13 (by decide) (show k < sZ S (K 13) by omega)) hW.l13.1.1 (pAt_8 E _ hW.l13.1.2) rfl rfl ⟨Nat.le_of_ble_eq_true rfl, Nat.le_of_ble_eq_true rfl⟩ (Nat.le_of_ble_eq_true rfl) ⟨Nat.zero_le _, Nat.zero_le _⟩ dX7_needCrane_37 rfl ?_
  refine j_cast M ((LSt.el hW.l13 (show k < sZ S (K 13) by omega)).1) (pAt_0 E _ ((LSt.el hW.l13 (show k < sZ S (K 13) by omega)).2)) rfl wL_X7_133 dX7_needCrane_40 ?_
  exact j_aret (v := .ref (el S (K 13) k)) M (Or.inl ⟨_, rfl⟩) (Or.inr ⟨_, rfl⟩) dX7_needCrane_43 (Nat.le_refl _) (Nat.le_refl _) ⟨rfl, rfl⟩
set_option maxHeartbeats 4000000 in
set_option maxRecDepth 100000 in
theorem cx_needWithin {l : Launch} (hlt : l.stackTraces = false) {E : EV} {K : Nat → Nat} {S : PS} (hW : WS K S) (v : Int32) (a : Int32) (b : Int32) : CX l yX7_needWithin cX7_needWithin 3 none 6 82 1 6 E [.int v, .int a, .int b] S (fun v2 u => OKw v a b ∧ v2 = none ∧ u = S) (fun X u => ¬ OKw v a b ∧ X = "java/lang/IllegalArgumentException" ∧ u = S) := by
  refine CX.of (by decide) (Nat.le_of_ble_eq_true rfl) ?_
  intro p e s m below meth c M ht
  have M : MC E p s m _ meth c cX7_needWithin RX7 3 none := M
  show J p l e _ s m _ below meth c _ E 3 0 [(0, .int v), (1, .int a), (2, .int b)] [] S 0 0
  refine j_iload_n M dX7_needWithin_0 rfl ?_
  refine j_iload_n M dX7_needWithin_1 rfl ?_
  refine j_icmp_lt (tgt := 10) M dX7_needWithin_2 (by decide) (fun c1 => ?_) (fun c1 => ?_)
  · exact jx_throwW M hlt (by decide +kernel) af_names wL_X7_201 wN_IllegalArgumentException nS_382 at_IAE ag_IAE dX7_needWithin_10 dX7_needWithin_13 dX7_needWithin_14 dX7_needWithin_17 dX7_needWithin_20 ht (Nat.le_of_ble_eq_true rfl) (Nat.le_of_ble_eq_true rfl) (Nat.le_of_ble_eq_true rfl) (Nat.le_of_ble_eq_true rfl) ⟨fun h => h.1 c1, rfl, rfl⟩ (Nat.le_of_ble_eq_true rfl) (Nat.le_of_ble_eq_true rfl)
  · refine j_iload_n M dX7_needWithin_5 rfl ?_
    refine j_iload_n M dX7_needWithin_6 rfl ?_
    refine j_icmp_le (tgt := 21) M dX7_needWithin_7 (by decide) (fun c2 => ?_) (fun c2 => ?_)
    · exact jx_ret (j_vret M dX7_needWithin_21 (Nat.le_of_ble_eq_true rfl) (Nat.le_of_ble_eq_true rfl) ⟨⟨c1, Int32.not_lt.mpr c2⟩, rfl, rfl⟩)
    · exact jx_throwW M hlt (by decide +kernel) af_names wL_X7_201 wN_IllegalArgumentException nS_382 at_IAE ag_IAE dX7_needWithin_10 dX7_needWithin_13 dX7_needWithin_14 dX7_needWithin_17 dX7_needWithin_20 ht (Nat.le_of_ble_eq_true rfl) (Nat.le_of_ble_eq_true rfl) (Nat.le_of_ble_eq_true rfl) (Nat.le_of_ble_eq_true rfl) ⟨fun h => h.2 (Int32.not_le.mp c2), rfl, rfl⟩ (Nat.le_of_ble_eq_true rfl) (Nat.le_of_ble_eq_true rfl)
set_option maxHeartbeats 4000000 in
set_option maxRecDepth 100000 in
theorem cx_needCell {l : Launch} (hlt : l.stackTraces = false) {E : EV} {K : Nat → Nat} {S : PS} (hW : WS K S) (x : Int32) : CX l yX7_needCell cX7_needCell 2 none 6 82 1 6 E [.ref (K 0), .int x] S (fun v2 u => ¬ m_hasCell K S x = 0 ∧ v2 = none ∧ u = S) (fun X u => m_hasCell K S x = 0 ∧ X = "java/lang/IndexOutOfBoundsException" ∧ u = S) := by
  refine CX.of (by decide) (Nat.le_of_ble_eq_true rfl) ?_
  intro p e s m below meth c M ht
  have M : MC E p s m _ meth c cX7_needCell RX7 2 none := M
  show J p l e _ s m _ below meth c _ E 2 0 [(0, .ref (K 0)), (1, .int x)] [] S 0 0
  refine j_aload_n M dX7_needCell_0 rfl ?_
  refine j_get (v := .ref (K 1)) M hW.k0.1 (pAt_7 E _ hW.k0.2) rfl inU_X7 0 (by decide) wF_X7_17 (fun _ h => h) (rfv hW.r48) dX7_needCell_1 ?_
  refine j_getN (v := .ref (K 2)) M hW.k1.1 (pAt_5 E _ hW.k1.2) rfl inU_X5 0 (by decide) nF_X7_42 (fun _ h => h) (rfv hW.r32) dX7_needCell_4 ?_
  refine j_iload_n M dX7_needCell_7 rfl ?_
  refine j_callV1 (As := [.int x]) M cf_X1_hasCell wM_X7_384 (c_hasCell hW x) hW.k2.1 (pAt_1 E _ hW.k2.2) rfl rfl ⟨Nat.le_of_ble_eq_true rfl, Nat.le_of_ble_eq_true rfl⟩ (Nat.le_of_ble_eq_true rfl) ⟨Nat.le_of_ble_eq_true rfl, Nat.le_of_ble_eq_true rfl⟩ dX7_needCell_8 rfl ?_
  refine j_if_ne (tgt := 25) M dX7_needCell_11 (by decide) (fun c1 => ?_) (fun c1 => ?_)
  · exact jx_ret (j_vret M dX7_needCell_25 (Nat.le_of_ble_eq_true rfl) (Nat.le_of_ble_eq_true rfl) ⟨c1, rfl, rfl⟩)
  · exact jx_throwW M hlt (by decide +kernel) af_names wL_X7_258 wN_IndexOutOfBoundsException nS_387 at_IOB ag_IOB dX7_needCell_14 dX7_needCell_17 dX7_needCell_18 dX7_needCell_21 dX7_needCell_24 ht (Nat.le_of_ble_eq_true rfl) (Nat.le_of_ble_eq_true rfl) (Nat.le_of_ble_eq_true rfl) (Nat.le_of_ble_eq_true rfl) ⟨c1, rfl, rfl⟩ (Nat.le_of_ble_eq_true rfl) (Nat.le_of_ble_eq_true rfl)
set_option maxHeartbeats 4000000 in
set_option maxRecDepth 100000 in
theorem cx_needCrane {l : Launch} (hlt : l.stackTraces = false) {E : EV} {K : Nat → Nat} {S : PS} (hW : WS K S) {k : Nat} (hk2 : k < 2 ^ 31) : CX l yX7_needCrane cX7_needCrane 2 (some (.object "Slewyard$Crane")) 6 82 1 6 E [.ref (K 0), .int (nI k)] S (fun v2 u => k < sZ S (K 13) ∧ v2 = some (.ref (el S (K 13) k)) ∧ u = S) (fun X u => ¬ k < sZ S (K 13) ∧ X = "java/lang/IndexOutOfBoundsException" ∧ u = S) := by
  have hz13 := hW.l13.2.1
  refine CX.of (by decide) (Nat.le_of_ble_eq_true rfl) ?_
  intro p e s m below meth c M ht
  have M : MC E p s m _ meth c cX7_needCrane RX7 2 (some (.object "Slewyard$Crane")) := M
  show J p l e _ s m _ below meth c _ E 2 0 [(0, .ref (K 0)), (1, .int (nI k))] [] S 0 0
  refine j_iload_n M dX7_needCrane_0 rfl ?_
  refine j_if_lt (tgt := 18) M dX7_needCrane_1 (by decide) (fun z => absurd z (nI_pos hk2)) (fun _ => ?_)
  refine j_iload_n M dX7_needCrane_4 rfl ?_
  refine j_aload_n M dX7_needCrane_5 rfl ?_
  refine j_get (v := .ref (K 1)) M hW.k0.1 (pAt_7 E _ hW.k0.2) rfl inU_X7 0 (by decide) wF_X7_17 (fun _ h => h) (rfv hW.r48) dX7_needCrane_6 ?_
  refine j_getN (v := .ref (K 13)) M hW.k1.1 (pAt_5 E _ hW.k1.2) rfl inU_X5 3 (by decide) nF_X7_124 (fun _ h => h) (rfv hW.r35) dX7_needCrane_9 ?_
  refine j_callV1 (As := []) (x := .int (nI (sZ S (K 13)))) M cf_size wM_X7_76 (c_size hW.l13) hW.l13.1.1 (pAt_8 E _ hW.l13.1.2) rfl rfl ⟨Nat.le_of_ble_eq_true rfl, Nat.le_of_ble_eq_true rfl⟩ (Nat.le_of_ble_eq_true rfl) ⟨Nat.le_of_ble_eq_true rfl, Nat.le_of_ble_eq_true rfl⟩ dX7_needCrane_12 rfl ?_
  refine j_icmp_lt (tgt := 29) M dX7_needCrane_15 (by decide) (fun c1 => ?_) (fun c1 => ?_)
  · have hk : k < sZ S (K 13) := (nI_ltI hk2 (by omega)).mp c1
    refine j_aload_n M dX7_needCrane_29 rfl ?_
    refine j_get (v := .ref (K 1)) M hW.k0.1 (pAt_7 E _ hW.k0.2) rfl inU_X7 0 (by decide) wF_X7_17 (fun _ h => h) (rfv hW.r48) dX7_needCrane_30 ?_
    refine j_getN (v := .ref (K 13)) M hW.k1.1 (pAt_5 E _ hW.k1.2) rfl inU_X5 3 (by decide) nF_X7_124 (fun _ h => h) (rfv hW.r35) dX7_needCrane_33 ?_
    refine j_iload_n M dX7_needCrane_36 rfl ?_
    refine j_callV1 (As := [.int (nI k)]) (x := .ref (el S (K 13) k)) M cf_get wM_X7_263 (c_get hW.l13 (by decide) (show k < sZ S (K 13) by omega)) hW.l13.1.1 (pAt_8 E _ hW.l13.1.2) rfl rfl ⟨Nat.le_of_ble_eq_true rfl, Nat.le_of_ble_eq_true rfl⟩ (Nat.le_of_ble_eq_true rfl) ⟨Nat.le_of_ble_eq_true rfl, Nat.le_of_ble_eq_true rfl⟩ dX7_needCrane_37 rfl ?_
    refine j_cast M ((LSt.el hW.l13 (show k < sZ S (K 13) by omega)).1) (pAt_0 E _ ((LSt.el hW.l13 (show k < sZ S (K 13) by omega)).2)) rfl wL_X7_133 dX7_needCrane_40 ?_
    exact jx_ret (j_aret (v := .ref (el S (K 13) k)) M (Or.inl ⟨_, rfl⟩) (Or.inr ⟨_, rfl⟩) dX7_needCrane_43 (Nat.le_of_ble_eq_true rfl) (Nat.le_of_ble_eq_true rfl) ⟨((nI_ltI hk2 (by omega)).mp c1), rfl, rfl⟩)
  · exact jx_throwW M hlt (by decide +kernel) af_names wL_X7_258 wN_IndexOutOfBoundsException nS_389 at_IOB ag_IOB dX7_needCrane_18 dX7_needCrane_21 dX7_needCrane_22 dX7_needCrane_25 dX7_needCrane_28 ht (Nat.le_of_ble_eq_true rfl) (Nat.le_of_ble_eq_true rfl) (Nat.le_of_ble_eq_true rfl) (Nat.le_of_ble_eq_true rfl) ⟨fun h => c1 (nI_lt h (by omega)), rfl, rfl⟩ (Nat.le_of_ble_eq_true rfl) (Nat.le_of_ble_eq_true rfl)
