/-! ArrayList's constructor, add and clear: the library's own code, walked -/
section CI
variable {p : Program} {l : Launch} {e : Env} {R : Room} {s : State} {m : MethodId} {args : Array Value} {below : List Frame} {meth : Method} {c : Code} {Q : State → Prop} {E : EV} {nL pc : Nat} {lv lv' : List (Nat × Value)} {st st0 : List Value} {S S2 : PS} {cells slots : Nat} {cc : ByteArray} {own : String} {ret : Option FieldType}
theorem j_callI0 (M : MC E p s m args meth c cc own nL ret) {y : MethodName} {cb : ByteArray} {mxL n fr lo index b : Nat} {As : List Value} (F : CFi y cb mxL n) (hl' : Cond.methodLink own index y ∈ wsU)
    (hC : CT l y cb mxL none fr lo 0 0 E (.ref b :: As) S (p0 S2)) (hn : As.length = n) (hR : fr + 1 ≤ R.frames ∧ 8 + (mxL + 11) + lo ≤ R.locals) (hW : (st.map fun v => v.category).sum ≤ 8) (hcs : cells ≤ R.cells ∧ slots ≤ R.slots)
    (hdg : decode cc pc = .ok (.invokespecial index, 3)) (hst : st0 = As.reverse ++ .ref b :: st) (K : J p l e R s m args below meth c Q E nL (pc + 3) lv st S2 cells slots) : J p l e R s m args below meth c Q E nL pc lv st0 S cells slots :=
  j_callI M F hl' hC hn hR hW hcs hdg hst (fun v u h => by obtain ⟨rfl, rfl⟩ := h; exact K)
end CI
theorem cf_ACinit : CFi yJxa1e45_init_da8c8 cJxa1e45_init_da8c8 1 0 := ⟨wC_Jxa1e45_init_da8c8, wI_Jxa1e45_init_da8c8, wN_Jxa1e45, by decide +kernel⟩
theorem cf_ALinit : CFi yJxc12de_init_da8c8 cJxc12de_init_da8c8 1 0 := ⟨wC_Jxc12de_init_da8c8, wI_Jxc12de_init_da8c8, wN_Jxc12de, by decide +kernel⟩
theorem cf_Linit : CFi yJx4a65c_init_da8c8 cJx4a65c_init_da8c8 1 0 := ⟨wC_Jx4a65c_init_da8c8, wI_Jx4a65c_init_da8c8, wN_Jx4a65c, by decide +kernel⟩
theorem cf_newLen : CFs yJ8_newLength_cabcc cJ8_newLength_cabcc 4 (some .int) 3 := ⟨wC_J8_newLength_cabcc, wS_J8_newLength_cabcc, wN_J8, by decide +kernel⟩
theorem cf_copyOf2 : CFs yJ7_copyOf_1904c cJ7_copyOf_1904c 2 (some (.array (.object "java/lang/Object"))) 2 := ⟨wC_J7_copyOf_1904c, wS_J7_copyOf_1904c, wN_J7, by decide +kernel⟩
theorem cf_copyOf3 : CFs yJ7_copyOf_6403c cJ7_copyOf_6403c 4 (some (.array (.object "java/lang/Object"))) 3 := ⟨wC_J7_copyOf_6403c, wS_J7_copyOf_6403c, wN_J7, by decide +kernel⟩
theorem cf_grow1 : CFv yJx4a65c_grow_92f84 RJx4a65c cJx4a65c_grow_92f84 4 (some (.array (.object "java/lang/Object"))) 1 := ⟨wC_Jx4a65c_grow_92f84, wI_Jx4a65c_grow_92f84, wV_Jx4a65c_Jx4a65c_grow_92f84, wN_Jx4a65c, by decide +kernel⟩
theorem cf_grow0 : CFv yJx4a65c_grow_d5877 RJx4a65c cJx4a65c_grow_d5877 1 (some (.array (.object "java/lang/Object"))) 0 := ⟨wC_Jx4a65c_grow_d5877, wI_Jx4a65c_grow_d5877, wV_Jx4a65c_Jx4a65c_grow_d5877, wN_Jx4a65c, by decide +kernel⟩
theorem cf_addp : CFv yJx4a65c_add_72be8 RJx4a65c cJx4a65c_add_72be8 4 none 3 := ⟨wC_Jx4a65c_add_72be8, wI_Jx4a65c_add_72be8, wV_Jx4a65c_Jx4a65c_add_72be8, wN_Jx4a65c, by decide +kernel⟩
theorem cf_add : CFv yJx4a65c_add_9ea2d RJx4a65c cJx4a65c_add_9ea2d 2 (some .boolean) 1 := ⟨wC_Jx4a65c_add_9ea2d, wI_Jx4a65c_add_9ea2d, wV_Jx4a65c_Jx4a65c_add_9ea2d, wN_Jx4a65c, by decide +kernel⟩
theorem cf_clear : CFv yJx4a65c_clear_da8c8 RJx4a65c cJx4a65c_clear_da8c8 4 none 0 := ⟨wC_Jx4a65c_clear_da8c8, wI_Jx4a65c_clear_da8c8, wV_Jx4a65c_Jx4a65c_clear_da8c8, wN_Jx4a65c, by decide +kernel⟩
set_option maxRecDepth 100000 in
theorem c_ACinit {l : Launch} {E : EV} {S : PS} {h : Nat} : CT l yJxa1e45_init_da8c8 cJxa1e45_init_da8c8 1 none 1 12 0 0 E [.ref h] S (p0 S) := by
  refine CT.of (by decide) (Nat.le_of_ble_eq_true rfl) ?_
  intro p e s m below meth c M hin
  have M : MC E p s m _ meth c cJxa1e45_init_da8c8 RJxa1e45 1 none := M
  show J p l e _ s m _ below meth c _ E 1 0 [(0, .ref h)] [] S 0 0
  refine j_aload_n M dJxa1e45_init_da8c8_0 rfl ?_
  refine j_obj M wM_Jxa1e45_1 wI_objectInit wC_objectInit dJxa1e45_init_da8c8_1 (Nat.le_of_ble_eq_true rfl) (Nat.le_of_ble_eq_true rfl) ?_
  exact j_vret M dJxa1e45_init_da8c8_4 (Nat.le_refl _) (Nat.le_refl _) ⟨rfl, rfl⟩
set_option maxRecDepth 100000 in
theorem c_ALinit {l : Launch} {E : EV} {S : PS} {h : Nat} (hh : InK S h 8) : CT l yJxc12de_init_da8c8 cJxc12de_init_da8c8 1 none 2 32 0 0 E [.ref h] S (p0 (uI S 51 h 0)) := by
  refine CT.of (by decide) (Nat.le_of_ble_eq_true rfl) ?_
  intro p e s m below meth c M hin
  have M : MC E p s m _ meth c cJxc12de_init_da8c8 RJxc12de 1 none := M
  show J p l e _ s m _ below meth c _ E 1 0 [(0, .ref h)] [] S 0 0
  refine j_aload_n M dJxc12de_init_da8c8_0 rfl ?_
  refine j_callI0 (As := []) M cf_ACinit wM_Jxc12de_1 c_ACinit rfl ⟨Nat.le_of_ble_eq_true rfl, Nat.le_of_ble_eq_true rfl⟩ (Nat.le_of_ble_eq_true rfl) ⟨Nat.le_refl _, Nat.le_refl _⟩ dJxc12de_init_da8c8_1 rfl ?_
  refine j_aload_n M dJxc12de_init_da8c8_4 rfl ?_
  refine j_iconst (v := 0) M dJxc12de_init_da8c8_5 rfl ?_
  refine j_put (host := "") (S2 := uI S 51 h 0) M hh.1 (pAt_8 E S hh.2) rfl inU_Jx4a65c 0 (by decide) tyJx4a65c tyJx4a65c_ok nmJx4a65c wF_Jxc12de_7 (fun _ h => h) rfl (tyJx4a65c_ok 0 (by decide)) rfl rfl (Nat.le_of_ble_eq_true rfl) rfl (pUp_51 E S hh.2 _) dJxc12de_init_da8c8_6 ?_
  exact j_vret M dJxc12de_init_da8c8_9 (Nat.le_refl _) (Nat.le_refl _) ⟨rfl, rfl⟩
set_option maxRecDepth 100000 in
theorem c_Linit {l : Launch} {E : EV} {S : PS} {h : Nat} (hh : InK S h 8) : CT l yJx4a65c_init_da8c8 cJx4a65c_init_da8c8 1 none 3 52 0 0 E [.ref h] S (p0 (uE (uI S 51 h 0) h (some (eDF E)))) := by
  refine CT.of (by decide) (Nat.le_of_ble_eq_true rfl) ?_
  intro p e s m below meth c M hin
  have M : MC E p s m _ meth c cJx4a65c_init_da8c8 RJx4a65c 1 none := M
  show J p l e _ s m _ below meth c _ E 1 0 [(0, .ref h)] [] S 0 0
  refine j_aload_n M dJx4a65c_init_da8c8_0 rfl ?_
  refine j_callI0 (As := []) M cf_ALinit wM_Jx4a65c_1 (c_ALinit hh) rfl ⟨Nat.le_of_ble_eq_true rfl, Nat.le_of_ble_eq_true rfl⟩ (Nat.le_of_ble_eq_true rfl) ⟨Nat.le_refl _, Nat.le_refl _⟩ dJx4a65c_init_da8c8_1 rfl ?_
  refine j_aload_n M dJx4a65c_init_da8c8_4 rfl ?_
  refine j_dflt M wF_Jx4a65c_39 dJx4a65c_init_da8c8_5 ?_
  refine j_put (host := "") (S2 := uE (uI S 51 h 0) h (some (eDF E))) M hh.1 (pAt_8 E (uI S 51 h 0) hh.2) rfl inU_Jx4a65c 1 (by decide) tyJx4a65c tyJx4a65c_ok nmJx4a65c wF_Jx4a65c_9 (fun _ h => h) rfl (tyJx4a65c_ok 1 (by decide)) rfl rfl (Nat.le_of_ble_eq_true rfl) rfl (pUp_52 E (uI S 51 h 0) hh.2 (some (eDF E))) dJx4a65c_init_da8c8_8 ?_
  exact j_vret M dJx4a65c_init_da8c8_11 (Nat.le_refl _) (Nat.le_refl _) ⟨rfl, rfl⟩
set_option maxRecDepth 100000 in
theorem c_newLen {l : Launch} {E : EV} {S : PS} : CT l yJ8_newLength_cabcc cJ8_newLength_cabcc 4 (some .int) 1 14 0 0 E [.int 10, .int 1, .int 5] S (pv (.int 15) S) := by
  refine CT.of (by decide) (Nat.le_of_ble_eq_true rfl) ?_
  intro p e s m below meth c M hin
  have M : MC E p s m _ meth c cJ8_newLength_cabcc RJ8 4 (some .int) := M
  show J p l e _ s m _ below meth c _ E 4 0 [(0, .int 10), (1, .int 1), (2, .int 5)] [] S 0 0
  refine j_iload_n M dJ8_newLength_cabcc_0 rfl ?_
  refine j_iload_n M dJ8_newLength_cabcc_1 rfl ?_
  refine j_iload_n M dJ8_newLength_cabcc_2 rfl ?_
  refine j_max M wM_J8_194 dJ8_newLength_cabcc_3 (Nat.le_of_ble_eq_true rfl) (Nat.le_of_ble_eq_true rfl) ⟨Nat.le_refl _, Nat.le_refl _⟩ ?_
  refine j_iadd M dJ8_newLength_cabcc_6 ?_
  refine j_eq (st2 := [.int 15]) rfl (by decide +kernel) rfl ?_
  refine j_istore_n M dJ8_newLength_cabcc_7 rfl (by decide) rfl ?_
  refine j_iconst (v := 0) M dJ8_newLength_cabcc_8 rfl ?_
  refine j_iload_n M dJ8_newLength_cabcc_9 rfl ?_
  refine j_icmp_ge (tgt := 21) M dJ8_newLength_cabcc_10 (by decide) (fun c1 => absurd c1 (by decide)) (fun c1 => ?_)
  refine j_iload_n M dJ8_newLength_cabcc_13 rfl ?_
  refine j_ldc M wK_J8_200 dJ8_newLength_cabcc_14 ?_
  refine j_icmp_gt (tgt := 21) M dJ8_newLength_cabcc_16 (by decide) (fun c1 => absurd c1 (by decide)) (fun c1 => ?_)
  refine j_iload_n M dJ8_newLength_cabcc_19 rfl ?_
  exact j_iret M dJ8_newLength_cabcc_20 (Nat.le_refl _) (Nat.le_refl _) ⟨rfl, rfl⟩
/-- a new array with the old one's first ten -/
abbrev cpS (S : PS) (t q : Nat) : PS := uO (nwO S q 15 (fun _ => none)) q (va_cpy (sO (nwO S q 15 (fun _ => none)) t) (sO (nwO S q 15 (fun _ => none)) q) 0 0 10)
def cpP (S : PS) (t : Nat) : Option Value → PS → Prop := fun v u => ∃ q, q ∉ sL S ∧ v = some (.ref q) ∧ u = cpS S t q
theorem ne_in {S : PS} {a q : Nat} (ha : a ∈ sL S) (hq : q ∉ sL S) : a ≠ q := fun e => hq (e ▸ ha)
set_option maxRecDepth 100000 in
theorem c_copyOf3 {l : Launch} {E : EV} {S : PS} {t : Nat} (ht : InK S t 10) (hn : sN S t = 10) (hel : ∀ i : Nat, i < 10 → ∀ y : Nat, sO S t i = some y → y ∈ sL S ∧ oka (sK S y)) : CT l yJ7_copyOf_6403c cJ7_copyOf_6403c 4 (some (.array (.object "java/lang/Object"))) 1 18 1 15 E [.ref t, .int 15, .ref (eMI E)] S (cpP S t) := by
  refine CT.of (by decide) (Nat.le_of_ble_eq_true rfl) ?_
  intro p e s m below meth c M hin
  have M : MC E p s m _ meth c cJ7_copyOf_6403c RJ7 4 (some (.array (.object "java/lang/Object"))) := M
  show J p l e _ s m _ below meth c _ E 4 0 [(0, .ref t), (1, .int 15), (2, .ref (eMI E))] [] S 0 0
  refine j_aload_n M dJ7_copyOf_6403c_0 rfl ?_
  refine j_ldcM M wL_J7_110 dJ7_copyOf_6403c_1 ?_
  refine j_acmp_ne (tgt := 13) M dJ7_copyOf_6403c_3 (by decide) (fun c1 => absurd rfl c1) (fun _ => ?_)
  refine j_iload_n M dJ7_copyOf_6403c_6 rfl ?_
  refine j_newq M wL_J7_2 (by decide) (by decide) ⟨Nat.le_refl _, Nat.le_of_ble_eq_true rfl⟩ dJ7_copyOf_6403c_7 (fun q hq => ?_)
  have htq := ne_in ht.1 hq
  have a1 : t ∈ sL (nwO S q 15 (fun _ => none)) := List.mem_append_left _ ht.1
  have a2 : sK (nwO S q 15 (fun _ => none)) t = 10 := (va_up_ne _ _ htq).trans ht.2
  have a3 : q ∈ sL (nwO S q 15 (fun _ => none)) := List.mem_append_right _ (List.mem_singleton.mpr rfl)
  have a4 : sK (nwO S q 15 (fun _ => none)) q = 10 := va_up_self _ _ _
  have a5 : sN (nwO S q 15 (fun _ => none)) t = 10 := (va_up_ne _ _ htq).trans hn
  have a6 : sN (nwO S q 15 (fun _ => none)) q = 15 := va_up_self _ _ _
  show J p l e _ s m _ below meth c _ E 4 10 [(0, .ref t), (1, .int 15), (2, .ref (eMI E))] [.ref q] (nwO S q 15 (fun _ => none)) 1 15
  refine j_goto (tgt := 24) M dJ7_copyOf_6403c_10 (by decide) ?_
  refine j_astore_n M dJ7_copyOf_6403c_24 rfl (by decide) rfl ?_
  refine j_aload_n M dJ7_copyOf_6403c_25 rfl ?_
  refine j_iconst (v := 0) M dJ7_copyOf_6403c_26 rfl ?_
  refine j_aload_n M dJ7_copyOf_6403c_27 rfl ?_
  refine j_iconst (v := 0) M dJ7_copyOf_6403c_28 rfl ?_
  refine j_aload_n M dJ7_copyOf_6403c_29 rfl ?_
  refine j_alenq M a1 a2 dJ7_copyOf_6403c_30 ?_
  rw [a5]
  refine j_iload_n M dJ7_copyOf_6403c_31 rfl ?_
  refine j_min M wM_J7_304 dJ7_copyOf_6403c_32 (Nat.le_of_ble_eq_true rfl) (Nat.le_of_ble_eq_true rfl) ⟨Nat.le_refl _, Nat.le_refl _⟩ ?_
  refine j_eq (st2 := [.int 10, .int 0, .ref q, .int 0, .ref t]) rfl (congrArg (fun x => Value.int x :: _) (by decide +kernel)) rfl ?_
  refine j_copy M wM_J7_150 a1 a2 a3 a4 (by decide) (by rw [a5]; decide) (by rw [a6]; decide) (fun i hi y hy => ?_) (Nat.le_of_ble_eq_true rfl) (Nat.le_of_ble_eq_true rfl) dJ7_copyOf_6403c_35 ?_
  · have hy2 : sO S t i = some y := by
      have e9 : sO (nwO S q 15 (fun _ => none)) t = sO S t := va_up_ne _ _ htq
      rw [e9] at hy
      exact hy
    obtain ⟨y1, y2⟩ := hel i hi y hy2
    have yq := ne_in y1 hq
    have e8 : sK (nwO S q 15 (fun _ => none)) y = sK S y := va_up_ne _ _ yq
    exact ⟨List.mem_append_left _ y1, by rw [e8]; exact y2⟩
  · refine j_aload_n M dJ7_copyOf_6403c_38 rfl ?_
    exact j_aret M (Or.inr ⟨_, rfl⟩) (Or.inr ⟨_, rfl⟩) dJ7_copyOf_6403c_39 (Nat.le_refl _) (Nat.le_refl _) ⟨q, hq, rfl, rfl⟩
set_option maxRecDepth 100000 in
theorem c_copyOf2 {l : Launch} {E : EV} {S : PS} {t : Nat} (ht : InK S t 10) (hn : sN S t = 10) (hel : ∀ i : Nat, i < 10 → ∀ y : Nat, sO S t i = some y → y ∈ sL S ∧ oka (sK S y)) : CT l yJ7_copyOf_1904c cJ7_copyOf_1904c 2 (some (.array (.object "java/lang/Object"))) 2 41 1 15 E [.ref t, .int 15] S (cpP S t) := by
  refine CT.of (by decide) (Nat.le_of_ble_eq_true rfl) ?_
  intro p e s m below meth c M hin
  have M : MC E p s m _ meth c cJ7_copyOf_1904c RJ7 2 (some (.array (.object "java/lang/Object"))) := M
  show J p l e _ s m _ below meth c _ E 2 0 [(0, .ref t), (1, .int 15)] [] S 0 0
  refine j_aload_n M dJ7_copyOf_1904c_0 rfl ?_
  refine j_iload_n M dJ7_copyOf_1904c_1 rfl ?_
  refine j_aload_n M dJ7_copyOf_1904c_2 rfl ?_
  refine j_getC M wM_J7_86 ht.1 ht.2 (Nat.le_of_ble_eq_true rfl) (Nat.le_of_ble_eq_true rfl) dJ7_copyOf_1904c_3 ?_
  refine j_callS (As := [.ref t, .int 15, .ref (eMI E)]) M cf_copyOf3 wM_J7_300 (c_copyOf3 ht hn hel) rfl ⟨Nat.le_of_ble_eq_true rfl, Nat.le_of_ble_eq_true rfl⟩ (Nat.le_of_ble_eq_true rfl) ⟨Nat.le_refl _, Nat.le_refl _⟩ dJ7_copyOf_1904c_6 rfl (fun v u hu => ?_)
  obtain ⟨q, hq, rfl, rfl⟩ := hu
  show J p l e _ s m _ below meth c _ E 2 9 [(0, .ref t), (1, .int 15)] [.ref q] (cpS S t q) (0 + 1) (0 + 15)
  exact j_aret M (Or.inr ⟨_, rfl⟩) (Or.inr ⟨_, rfl⟩) dJ7_copyOf_1904c_9 (Nat.le_refl _) (Nat.le_refl _) ⟨q, hq, rfl, rfl⟩
