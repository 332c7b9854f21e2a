/-! ArrayList's size and get, Arrays.fill: the library's own code, walked -/
section LR
variable {p : Program} {l : Launch} {e : Env} {R : Room} {s : State} {m : MethodId} {args : Array Value} {below : List Frame} {meth : Method} {c : Code} {Q : State → Prop} {E : EV} {nL pc : Nat} {lv lv' : List (Nat × Value)} {st st0 : List Value} {S S2 : PS} {cells slots : Nat} {cc : ByteArray} {own : String} {ret : Option FieldType}
theorem j_aald (M : MC E p s m args meth c cc own nL ret) {a : Nat} {i : Int32} (haL : a ∈ sL S) (hk : sK S a = 10) (hin : vp_in i (sN S a)) (hdg : decode cc pc = .ok (.aaload, 1)) (K : J p l e R s m args below meth c Q E nL (pc + 1) lv (va_rf (sO S a i.toNatClampNeg) :: st) S cells slots) : J p l e R s m args below meth c Q E nL pc lv (.int i :: .ref a :: st) S cells slots := by
  intro H locs ls hH hS hl
  obtain ⟨q0, hq⟩ := pGet (E := E) haL
  rw [pAt_10 E S hk] at hq
  exact va_aldq M.hx M.hb M.hK hH.2.1 q0 1 hq rfl hin hdg (K H locs ls hH hS hl)
end LR
theorem cf_J3_checkIndex : CFs yJ3_checkIndex_8e157 cJ3_checkIndex_8e157 3 (some .int) 3 := ⟨wC_J3_checkIndex_8e157, wS_J3_checkIndex_8e157, wN_J3, by decide +kernel⟩
theorem cf_J15_checkIndex : CFs yJ15_checkIndex_7cf53 cJ15_checkIndex_7cf53 2 (some .int) 2 := ⟨wC_J15_checkIndex_7cf53, wS_J15_checkIndex_7cf53, wN_J15, by decide +kernel⟩
theorem cf_elementData : CFv yJx4a65c_elementData_915e3 RJx4a65c cJx4a65c_elementData_915e3 2 (some (.object "java/lang/Object")) 1 := ⟨wC_Jx4a65c_elementData_915e3, wI_Jx4a65c_elementData_915e3, wV_Jx4a65c_Jx4a65c_elementData_915e3, wN_Jx4a65c, by decide +kernel⟩
theorem cf_get : CFv yJx4a65c_get_915e3 RJx4a65c cJx4a65c_get_915e3 2 (some (.object "java/lang/Object")) 1 := ⟨wC_Jx4a65c_get_915e3, wI_Jx4a65c_get_915e3, wV_Jx4a65c_Jx4a65c_get_915e3, wN_Jx4a65c, by decide +kernel⟩
theorem cf_size : CFv yJx4a65c_size_8abf5 RJx4a65c cJx4a65c_size_8abf5 1 (some .int) 0 := ⟨wC_Jx4a65c_size_8abf5, wI_Jx4a65c_size_8abf5, wV_Jx4a65c_Jx4a65c_size_8abf5, wN_Jx4a65c, by decide +kernel⟩
set_option maxRecDepth 100000 in
theorem c_J3_checkIndex {l : Launch} {E : EV} {S : PS} {j n : Nat} (hj : j < n) (hn : n < 2 ^ 31) : CT l yJ3_checkIndex_8e157 cJ3_checkIndex_8e157 3 (some .int) 0 0 0 0 E [.int (nI j), .int (nI n), .null] S (pv (.int (nI j)) S) := by
  refine CT.of (by decide) (Nat.le_of_ble_eq_true rfl) ?_
  intro p e s m below meth c M hin
  show J p l e _ s m _ below meth c _ E 3 0 [(0, .int (nI j)), (1, .int (nI n)), (2, .null)] [] S 0 0
  refine j_iload_n M dJ3_checkIndex_8e157_0 rfl ?_
  refine j_if_lt (tgt := 9) M dJ3_checkIndex_8e157_1 (by decide) (fun c1 => absurd c1 (nI_pos (by omega))) (fun c1 => ?_)
  refine j_iload_n M dJ3_checkIndex_8e157_4 rfl ?_
  refine j_iload_n M dJ3_checkIndex_8e157_5 rfl ?_
  refine j_icmp_lt (tgt := 16) M dJ3_checkIndex_8e157_6 (by decide) (fun c1 => ?_) (fun c1 => absurd (nI_lt hj (by omega)) c1)
  refine j_iload_n M dJ3_checkIndex_8e157_16 rfl ?_
  exact j_iret M dJ3_checkIndex_8e157_17 (Nat.le_refl _) (Nat.le_refl _) ⟨rfl, rfl⟩
set_option maxRecDepth 100000 in
theorem c_J15_checkIndex {l : Launch} {E : EV} {S : PS} {j n : Nat} (hj : j < n) (hn : n < 2 ^ 31) : CT l yJ15_checkIndex_7cf53 cJ15_checkIndex_7cf53 2 (some .int) 1 22 0 0 E [.int (nI j), .int (nI n)] S (pv (.int (nI j)) S) := by
  refine CT.of (by decide) (Nat.le_of_ble_eq_true rfl) ?_
  intro p e s m below meth c M hin
  have M : MC E p s m _ meth c cJ15_checkIndex_7cf53 RJ15 2 (some .int) := M
  show J p l e _ s m _ below meth c _ E 2 0 [(0, .int (nI j)), (1, .int (nI n))] [] S 0 0
  refine j_iload_n M dJ15_checkIndex_7cf53_0 rfl ?_
  refine j_iload_n M dJ15_checkIndex_7cf53_1 rfl ?_
  refine j_null M dJ15_checkIndex_7cf53_2 ?_
  refine j_callS1 (As := [.int (nI j), .int (nI n), .null]) M cf_J3_checkIndex wM_J15_105 (c_J3_checkIndex hj hn) rfl ⟨Nat.le_of_ble_eq_true rfl, Nat.le_of_ble_eq_true rfl⟩ (Nat.le_of_ble_eq_true rfl) ⟨Nat.le_refl _, Nat.le_refl _⟩ dJ15_checkIndex_7cf53_3 rfl ?_
  exact j_iret M dJ15_checkIndex_7cf53_6 (Nat.le_refl _) (Nat.le_refl _) ⟨rfl, rfl⟩
set_option maxRecDepth 100000 in
theorem c_size {l : Launch} {E : EV} {S : PS} {h k B : Nat} (hL : LSt S h k B) : CT l yJx4a65c_size_8abf5 cJx4a65c_size_8abf5 1 (some .int) 0 0 0 0 E [.ref h] S (pv (.int (nI (sZ S h))) S) := by
  refine CT.of (by decide) (Nat.le_of_ble_eq_true rfl) ?_
  intro p e s m below meth c M hin
  have M : MC E p s m _ meth c cJx4a65c_size_8abf5 RJx4a65c 1 (some .int) := M
  show J p l e _ s m _ below meth c _ E 1 0 [(0, .ref h)] [] S 0 0
  refine j_aload_n M dJx4a65c_size_8abf5_0 rfl ?_
  refine j_get (v := .int (nI (sZ S h))) M hL.1.1 (pAt_8 E S hL.1.2) rfl inU_Jx4a65c 2 (by decide) wF_Jx4a65c_48 (fun _ h => h) rfl dJx4a65c_size_8abf5_1 ?_
  exact j_iret M dJx4a65c_size_8abf5_4 (Nat.le_refl _) (Nat.le_refl _) ⟨rfl, rfl⟩
set_option maxRecDepth 100000 in
theorem c_elementData {l : Launch} {E : EV} {S : PS} {h k B j : Nat} (hL : LSt S h k B) (hj : j < sZ S h) : CT l yJx4a65c_elementData_915e3 cJx4a65c_elementData_915e3 2 (some (.object "java/lang/Object")) 0 0 0 0 E [.ref h, .int (nI j)] S (pv (.ref (el S h j)) S) := by
  obtain ⟨t, e1, e2, e3, e4, e5, e6⟩ := hL.2.2 j hj
  refine CT.of (by decide) (Nat.le_of_ble_eq_true rfl) ?_
  intro p e s m below meth c M hin
  have M : MC E p s m _ meth c cJx4a65c_elementData_915e3 RJx4a65c 2 (some (.object "java/lang/Object")) := M
  show J p l e _ s m _ below meth c _ E 2 0 [(0, .ref h), (1, .int (nI j))] [] S 0 0
  refine j_aload_n M dJx4a65c_elementData_915e3_0 rfl ?_
  refine j_get (v := .ref t) M hL.1.1 (pAt_8 E S hL.1.2) rfl inU_Jx4a65c 1 (by decide) wF_Jx4a65c_9 (fun _ h => h) (rfv e1) dJx4a65c_elementData_915e3_1 ?_
  refine j_iload_n M dJx4a65c_elementData_915e3_4 rfl ?_
  refine j_aald M e2.1 e2.2 (vp_in_nI e3 (by omega)) dJx4a65c_elementData_915e3_5 ?_
  have ev : va_rf (sO S t (nI j).toNatClampNeg) = .ref (el S h j) := by rw [nI_clamp (by omega), e5]; rfl
  rw [ev]
  exact j_aret M (Or.inl ⟨_, rfl⟩) (Or.inr ⟨_, rfl⟩) dJx4a65c_elementData_915e3_6 (Nat.le_refl _) (Nat.le_refl _) ⟨rfl, rfl⟩
set_option maxRecDepth 100000 in
theorem c_get {l : Launch} {E : EV} {S : PS} {h k B j : Nat} (hL : LSt S h k B) (hB : B < 2 ^ 31) (hj : j < sZ S h) : CT l yJx4a65c_get_915e3 cJx4a65c_get_915e3 2 (some (.object "java/lang/Object")) 2 43 0 0 E [.ref h, .int (nI j)] S (pv (.ref (el S h j)) S) := by
  have hz := hL.2.1
  refine CT.of (by decide) (Nat.le_of_ble_eq_true rfl) ?_
  intro p e s m below meth c M hin
  have M : MC E p s m _ meth c cJx4a65c_get_915e3 RJx4a65c 2 (some (.object "java/lang/Object")) := M
  show J p l e _ s m _ below meth c _ E 2 0 [(0, .ref h), (1, .int (nI j))] [] S 0 0
  refine j_iload_n M dJx4a65c_get_915e3_0 rfl ?_
  refine j_aload_n M dJx4a65c_get_915e3_1 rfl ?_
  refine j_get (v := .int (nI (sZ S h))) M hL.1.1 (pAt_8 E S hL.1.2) rfl inU_Jx4a65c 2 (by decide) wF_Jx4a65c_48 (fun _ h => h) rfl dJx4a65c_get_915e3_2 ?_
  refine j_callS1 (As := [.int (nI j), .int (nI (sZ S h))]) M cf_J15_checkIndex wM_Jx4a65c_118 (c_J15_checkIndex hj (by omega)) rfl ⟨Nat.le_of_ble_eq_true rfl, Nat.le_of_ble_eq_true rfl⟩ (Nat.le_of_ble_eq_true rfl) ⟨Nat.le_refl _, Nat.le_refl _⟩ dJx4a65c_get_915e3_5 rfl ?_
  refine j_pop M dJx4a65c_get_915e3_8 rfl ?_
  refine j_aload_n M dJx4a65c_get_915e3_9 rfl ?_
  refine j_iload_n M dJx4a65c_get_915e3_10 rfl ?_
  refine j_callV1 (As := [.int (nI j)]) M cf_elementData wM_Jx4a65c_123 (c_elementData hL hj) hL.1.1 (pAt_8 E S hL.1.2) rfl rfl ⟨Nat.le_of_ble_eq_true rfl, Nat.le_of_ble_eq_true rfl⟩ (Nat.le_of_ble_eq_true rfl) ⟨Nat.le_refl _, Nat.le_refl _⟩ dJx4a65c_get_915e3_11 rfl ?_
  exact j_aret M (Or.inl ⟨_, rfl⟩) (Or.inr ⟨_, rfl⟩) dJx4a65c_get_915e3_14 (Nat.le_refl _) (Nat.le_refl _) ⟨rfl, rfl⟩
