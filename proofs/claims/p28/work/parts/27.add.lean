/-! ArrayList.add, with what it grows; clear -/
/-- the pool after growing the list h: one array more -/
def GRow (S : PS) (h q : Nat) (u : PS) : Prop := (q ∉ sL S ∧ sL u = sL S ++ [q]) ∧ ((∀ a, a ≠ q → sK u a = sK S a) ∧ sK u q = 10) ∧ (sI u = sI S ∧ sR u = sR S ∧ sM u = sM S ∧ sZ u = sZ S ∧ sA u = sA S) ∧ ((∀ a, a ≠ h → sE u a = sE S a) ∧ sE u h = some q) ∧ ((∀ a, a ≠ q → sN u a = sN S a) ∧ sZ S h < sN u q ∧ (sN u q = 10 ∨ sN u q = 15)) ∧ (∀ a, a ≠ q → sO u a = sO S a) ∧ ∀ i, i < sZ S h → sO u q i = sO S ((sE S h).getD 0) i
def GPo (S : PS) (h : Nat) : Option Value → PS → Prop := fun v u => ∃ q, v = some (.ref q) ∧ GRow S h q u
/-- what a list may be when it is added to -/
def LC (E : EV) (S : PS) (h : Nat) : Prop := InK S h 8 ∧ sZ S h ≤ 14 ∧ ((sE S h = some (eDF E) ∧ sZ S h = 0) ∨ ∃ t, sE S h = some t ∧ InK S t 10 ∧ (sN S t = 10 ∨ sN S t = 15) ∧ sZ S h ≤ sN S t ∧ ∀ i, i < sZ S h → ∀ y, sO S t i = some y → y ∈ sL S ∧ oka (sK S y))
theorem grA {S : PS} {h q : Nat} (hq : q ∉ sL S) (hz : sZ S h = 0) : GRow S h q (uE (nwO S q 10 (fun _ => none)) h (some q)) :=
  ⟨⟨hq, rfl⟩, ⟨fun _ ha => va_up_ne _ _ ha, va_up_self _ _ _⟩, ⟨rfl, rfl, rfl, rfl, rfl⟩, ⟨fun _ ha => va_up_ne _ _ ha, va_up_self _ _ _⟩, ⟨fun _ ha => va_up_ne _ _ ha, by
    have e : sN (uE (nwO S q 10 (fun _ => none)) h (some q)) q = 10 := va_up_self _ _ _
    rw [e, hz]
    exact ⟨by decide, Or.inl rfl⟩⟩, fun _ ha => va_up_ne _ _ ha, fun i hi => absurd hi (by rw [hz]; exact Nat.not_lt_zero i)⟩
theorem grB {S : PS} {h q t : Nat} (hq : q ∉ sL S) (he : sE S h = some t) (ht : t ∈ sL S) (hz : sZ S h = 10) : GRow S h q (uE (cpS S t q) h (some q)) := by
  have htq := ne_in ht hq
  refine ⟨⟨hq, rfl⟩, ⟨fun _ ha => va_up_ne _ _ ha, va_up_self _ _ _⟩, ⟨rfl, rfl, rfl, rfl, rfl⟩, ⟨fun _ ha => va_up_ne _ _ ha, va_up_self _ _ _⟩, ⟨fun _ ha => va_up_ne _ _ ha, ?_⟩, fun a ha => ?_, fun i hi => ?_⟩
  · have e : sN (uE (cpS S t q) h (some q)) q = 15 := va_up_self _ _ _
    rw [e, hz]
    exact ⟨by decide, Or.inr rfl⟩
  · exact (va_up_ne _ _ ha).trans (va_up_ne _ _ ha)
  · rw [hz] at hi
    have e1 : sO (uE (cpS S t q) h (some q)) q = va_cpy (sO (nwO S q 15 (fun _ => none)) t) (sO (nwO S q 15 (fun _ => none)) q) 0 0 10 := va_up_self _ _ _
    have e2 : sO (nwO S q 15 (fun _ => none)) t = sO S t := va_up_ne _ _ htq
    rw [e1, e2, he]
    show (if 0 ≤ i ∧ i < 0 + 10 then sO S t (0 + (i - 0)) else _) = sO S t i
    rw [if_pos ⟨Nat.zero_le i, by omega⟩]
    congr 1
    omega
set_option maxRecDepth 100000 in
theorem c_grow1A {l : Launch} {E : EV} {S : PS} {h : Nat} (hh : InK S h 8) (he : sE S h = some (eDF E)) (hz : sZ S h = 0) : CT l yJx4a65c_grow_92f84 cJx4a65c_grow_92f84 4 (some (.array (.object "java/lang/Object"))) 3 62 1 15 E [.ref h, .int 1] S (GPo S h) := by
  refine CT.of (by decide) (Nat.le_of_ble_eq_true rfl) ?_
  intro p e s m below meth c M hin
  have M : MC E p s m _ meth c cJx4a65c_grow_92f84 RJx4a65c 4 (some (.array (.object "java/lang/Object"))) := M
  show J p l e _ s m _ below meth c _ E 4 0 [(0, .ref h), (1, .int 1)] [] S 0 0
  refine j_aload_n M dJx4a65c_grow_92f84_0 rfl ?_
  refine j_get (v := .ref (eDF E)) M hh.1 (pAt_8 E S hh.2) rfl inU_Jx4a65c 1 (by decide) wF_Jx4a65c_9 (fun _ h => h) (rfv he) dJx4a65c_grow_92f84_1 ?_
  refine j_alenD M dJx4a65c_grow_92f84_4 ?_
  refine j_istore_n M dJx4a65c_grow_92f84_5 rfl (by decide) rfl ?_
  refine j_iload_n M dJx4a65c_grow_92f84_6 rfl ?_
  refine j_if_gt (tgt := 20) M dJx4a65c_grow_92f84_7 (by decide) (fun c1 => absurd c1 (by decide)) (fun c1 => ?_)
  refine j_aload_n M dJx4a65c_grow_92f84_10 rfl ?_
  refine j_get (v := .ref (eDF E)) M hh.1 (pAt_8 E S hh.2) rfl inU_Jx4a65c 1 (by decide) wF_Jx4a65c_9 (fun _ h => h) (rfv he) dJx4a65c_grow_92f84_11 ?_
  refine j_dflt M wF_Jx4a65c_39 dJx4a65c_grow_92f84_14 ?_
  refine j_acmp_eq (tgt := 45) M dJx4a65c_grow_92f84_17 (by decide) (fun _ => ?_) (fun c1 => absurd rfl c1)
  refine j_aload_n M dJx4a65c_grow_92f84_45 rfl ?_
  refine j_bipush (v := 10) M dJx4a65c_grow_92f84_46 (by decide +kernel) ?_
  refine j_iload_n M dJx4a65c_grow_92f84_48 rfl ?_
  refine j_max M wM_Jx4a65c_79 dJx4a65c_grow_92f84_49 (Nat.le_of_ble_eq_true rfl) (Nat.le_of_ble_eq_true rfl) ⟨Nat.le_of_ble_eq_true rfl, Nat.le_of_ble_eq_true rfl⟩ ?_
  refine j_eq (st2 := [.int 10, .ref h]) rfl (congrArg (fun x => Value.int x :: _) (by decide +kernel)) rfl ?_
  refine j_newq M wL_Jx4a65c_7 (by decide) (by decide) ⟨Nat.le_refl _, Nat.le_of_ble_eq_true rfl⟩ dJx4a65c_grow_92f84_52 (fun q hq => ?_)
  have hhq := ne_in hh.1 hq
  have b1 : h ∈ sL (nwO S q 10 (fun _ => none)) := List.mem_append_left _ hh.1
  have b2 : sK (nwO S q 10 (fun _ => none)) h = 8 := (va_up_ne _ _ hhq).trans hh.2
  show J p l e _ s m _ below meth c _ E 4 55 [(2, .int 0), (0, .ref h), (1, .int 1)] [.ref q, .ref h] (nwO S q 10 (fun _ => none)) 1 10
  refine j_dup_x1 M dJx4a65c_grow_92f84_55 rfl rfl ?_
  refine j_put (host := "") (S2 := uE (nwO S q 10 (fun _ => none)) h (some q)) M b1 (pAt_8 E (nwO S q 10 (fun _ => none)) b2) rfl inU_Jx4a65c 1 (by decide) tyJx4a65c tyJx4a65c_ok nmJx4a65c wF_Jx4a65c_9 (fun _ h => h) rfl (tyJx4a65c_ok 1 (by decide)) rfl rfl (Nat.le_of_ble_eq_true rfl) rfl (pUp_52 E (nwO S q 10 (fun _ => none)) b2 (some q)) dJx4a65c_grow_92f84_56 ?_
  exact j_aret M (Or.inr ⟨_, rfl⟩) (Or.inr ⟨_, rfl⟩) dJx4a65c_grow_92f84_59 (Nat.le_refl _) (Nat.le_of_ble_eq_true rfl) ⟨q, rfl, grA hq hz⟩
set_option maxRecDepth 100000 in
theorem c_grow1B {l : Launch} {E : EV} {S : PS} {h t : Nat} (hh : InK S h 8) (he : sE S h = some t) (ht : InK S t 10) (hn : sN S t = 10) (hz : sZ S h = 10) (hel : ∀ i : Nat, i < 10 → ∀ y : Nat, sO S t i = some y → y ∈ sL S ∧ oka (sK S y)) : CT l yJx4a65c_grow_92f84 cJx4a65c_grow_92f84 4 (some (.array (.object "java/lang/Object"))) 3 62 1 15 E [.ref h, .int 11] S (GPo S h) := by
  refine CT.of (by decide) (Nat.le_of_ble_eq_true rfl) ?_
  intro p e s m below meth c M hin
  have M : MC E p s m _ meth c cJx4a65c_grow_92f84 RJx4a65c 4 (some (.array (.object "java/lang/Object"))) := M
  show J p l e _ s m _ below meth c _ E 4 0 [(0, .ref h), (1, .int 11)] [] S 0 0
  refine j_aload_n M dJx4a65c_grow_92f84_0 rfl ?_
  refine j_get (v := .ref t) M hh.1 (pAt_8 E S hh.2) rfl inU_Jx4a65c 1 (by decide) wF_Jx4a65c_9 (fun _ h => h) (rfv he) dJx4a65c_grow_92f84_1 ?_
  refine j_alenq M ht.1 ht.2 dJx4a65c_grow_92f84_4 ?_
  rw [hn]
  refine j_istore_n (x := 10) M dJx4a65c_grow_92f84_5 rfl (by decide) rfl ?_
  refine j_iload_n M dJx4a65c_grow_92f84_6 rfl ?_
  refine j_if_gt (tgt := 20) M dJx4a65c_grow_92f84_7 (by decide) (fun _ => ?_) (fun c1 => absurd (by decide) c1)
  refine j_iload_n M dJx4a65c_grow_92f84_20 rfl ?_
  refine j_iload_n M dJx4a65c_grow_92f84_21 rfl ?_
  refine j_iload_n M dJx4a65c_grow_92f84_22 rfl ?_
  refine j_isub M dJx4a65c_grow_92f84_23 ?_
  refine j_iload_n M dJx4a65c_grow_92f84_24 rfl ?_
  refine j_iconst (v := 1) M dJx4a65c_grow_92f84_25 rfl ?_
  refine j_ishr M dJx4a65c_grow_92f84_26 ?_
  refine j_eq (st2 := [.int 5, .int 1, .int 10]) rfl (by decide +kernel) rfl ?_
  refine j_callS1 (As := [.int 10, .int 1, .int 5]) M cf_newLen wM_Jx4a65c_73 c_newLen rfl ⟨Nat.le_of_ble_eq_true rfl, Nat.le_of_ble_eq_true rfl⟩ (Nat.le_of_ble_eq_true rfl) ⟨Nat.le_of_ble_eq_true rfl, Nat.le_of_ble_eq_true rfl⟩ dJx4a65c_grow_92f84_27 rfl ?_
  refine j_istore_n M dJx4a65c_grow_92f84_30 rfl (by decide) rfl ?_
  refine j_aload_n M dJx4a65c_grow_92f84_31 rfl ?_
  refine j_aload_n M dJx4a65c_grow_92f84_32 rfl ?_
  refine j_get (v := .ref t) M hh.1 (pAt_8 E S hh.2) rfl inU_Jx4a65c 1 (by decide) wF_Jx4a65c_9 (fun _ h => h) (rfv he) dJx4a65c_grow_92f84_33 ?_
  refine j_iload_n M dJx4a65c_grow_92f84_36 rfl ?_
  refine j_callS (As := [.ref t, .int 15]) M cf_copyOf2 wM_Jx4a65c_66 (c_copyOf2 ht hn hel) rfl ⟨Nat.le_of_ble_eq_true rfl, Nat.le_of_ble_eq_true rfl⟩ (Nat.le_of_ble_eq_true rfl) ⟨Nat.le_refl _, Nat.le_refl _⟩ dJx4a65c_grow_92f84_37 rfl (fun v u hu => ?_)
  obtain ⟨q, hq, rfl, rfl⟩ := hu
  have hhq := ne_in hh.1 hq
  have b1 : h ∈ sL (cpS S t q) := List.mem_append_left _ hh.1
  have b2 : sK (cpS S t q) h = 8 := (va_up_ne _ _ hhq).trans hh.2
  show J p l e _ s m _ below meth c _ E 4 40 [(3, .int 15), (2, .int 10), (0, .ref h), (1, .int 11)] [.ref q, .ref h] (cpS S t q) 1 15
  refine j_dup_x1 M dJx4a65c_grow_92f84_40 rfl rfl ?_
  refine j_put (host := "") (S2 := uE (cpS S t q) h (some q)) M b1 (pAt_8 E (cpS S t q) b2) rfl inU_Jx4a65c 1 (by decide) tyJx4a65c tyJx4a65c_ok nmJx4a65c wF_Jx4a65c_9 (fun _ h => h) rfl (tyJx4a65c_ok 1 (by decide)) rfl rfl (Nat.le_of_ble_eq_true rfl) rfl (pUp_52 E (cpS S t q) b2 (some q)) dJx4a65c_grow_92f84_41 ?_
  exact j_aret M (Or.inr ⟨_, rfl⟩) (Or.inr ⟨_, rfl⟩) dJx4a65c_grow_92f84_44 (Nat.le_refl _) (Nat.le_refl _) ⟨q, rfl, grB hq he ht.1 hz⟩

theorem GRow.old {S u : PS} {h q a : Nat} (g : GRow S h q u) (ha : a ∈ sL S) : a ∈ sL u ∧ sK u a = sK S a ∧ a ≠ q := ⟨by rw [g.1.2]; exact List.mem_append_left _ ha, g.2.1.1 a (ne_in ha g.1.1), ne_in ha g.1.1⟩
theorem GRow.new {S u : PS} {h q : Nat} (g : GRow S h q u) : InK u q 10 := ⟨by rw [g.1.2]; exact List.mem_append_right _ (List.mem_singleton.mpr rfl), g.2.1.2⟩
def GC (E : EV) (S : PS) (h : Nat) : Prop := InK S h 8 ∧ ((sE S h = some (eDF E) ∧ sZ S h = 0) ∨ ∃ t, sE S h = some t ∧ InK S t 10 ∧ sN S t = 10 ∧ sZ S h = 10 ∧ ∀ i, i < 10 → ∀ y, sO S t i = some y → y ∈ sL S ∧ oka (sK S y))
set_option maxRecDepth 100000 in
theorem c_grow0 {l : Launch} {E : EV} {S : PS} {h : Nat} (hG : GC E S h) : CT l yJx4a65c_grow_d5877 cJx4a65c_grow_d5877 1 (some (.array (.object "java/lang/Object"))) 4 85 1 15 E [.ref h] S (GPo S h) := by
  have hh := hG.1
  refine CT.of (by decide) (Nat.le_of_ble_eq_true rfl) ?_
  intro p e s m below meth c M hin
  have M : MC E p s m _ meth c cJx4a65c_grow_d5877 RJx4a65c 1 (some (.array (.object "java/lang/Object"))) := M
  show J p l e _ s m _ below meth c _ E 1 0 [(0, .ref h)] [] S 0 0
  refine j_aload_n M dJx4a65c_grow_d5877_0 rfl ?_
  refine j_aload_n M dJx4a65c_grow_d5877_1 rfl ?_
  refine j_get (v := .int (nI (sZ S h))) M hh.1 (pAt_8 E S hh.2) rfl inU_Jx4a65c 2 (by decide) wF_Jx4a65c_48 (fun _ h => h) rfl dJx4a65c_grow_d5877_2 ?_
  refine j_iconst (v := 1) M dJx4a65c_grow_d5877_5 rfl ?_
  refine j_iadd M dJx4a65c_grow_d5877_6 ?_
  have tail : ∀ (v : Option Value) (u : PS), GPo S h v u → J p l e { frames := 4, cells := 1, slots := 15, locals := 85 } s m #[.ref h] below meth c (MQ below (QC E (GPo S h)) #[.ref h] s 1 15 (AE E)) E 1 10 [(0, .ref h)] (v.toList ++ []) u (0 + 1) (0 + 15) := by
    intro v u hu
    obtain ⟨q, rfl, hg⟩ := hu
    exact j_aret M (Or.inr ⟨_, rfl⟩) (Or.inr ⟨_, rfl⟩) dJx4a65c_grow_d5877_10 (Nat.le_refl _) (Nat.le_refl _) ⟨q, rfl, hg⟩
  rcases hG.2 with ⟨e1, e2⟩ | ⟨t, e1, ht, hn, hz, hel⟩
  · rw [e2]
    exact j_callV (As := [.int 1]) M cf_grow1 wM_Jx4a65c_69 (c_grow1A hh e1 e2) hh.1 (pAt_8 E S hh.2) rfl rfl ⟨Nat.le_of_ble_eq_true rfl, Nat.le_of_ble_eq_true rfl⟩ (Nat.le_of_ble_eq_true rfl) ⟨Nat.le_refl _, Nat.le_refl _⟩ dJx4a65c_grow_d5877_7 rfl tail
  · rw [hz]
    exact j_callV (As := [.int 11]) M cf_grow1 wM_Jx4a65c_69 (c_grow1B hh e1 ht hn hz hel) hh.1 (pAt_8 E S hh.2) rfl rfl ⟨Nat.le_of_ble_eq_true rfl, Nat.le_of_ble_eq_true rfl⟩ (Nat.le_of_ble_eq_true rfl) ⟨Nat.le_refl _, Nat.le_refl _⟩ dJx4a65c_grow_d5877_7 rfl tail
theorem addp_tail {p : Program} {l : Launch} {e : Env} {R : Room} {s : State} {m : MethodId} {args : Array Value} {below : List Frame} {meth : Method} {c : Code} {E : EV} {post : Option Value → PS → Prop} (M : MC E p s m args meth c cJx4a65c_add_72be8 RJx4a65c 4 none) {T : PS} {h x q z cells slots : Nat} {lv : List (Nat × Value)} (hh : InK T h 8) (hq : InK T q 10) (hx : x ∈ sL T) (hk : oka (sK T x)) (hz : z < sN T q) (hn : sN T q < 2 ^ 31)
    (l0 : lvg lv 0 = some (.ref h)) (l1 : lvg lv 1 = some (.ref x)) (l2 : lvg lv 2 = some (.ref q)) (l3 : lvg lv 3 = some (.int (nI z))) (hc : cells ≤ 1) (hs : slots ≤ 15) (hp : post none (uZ (uO T q (va_up (sO T q) z (some x))) h (z + 1))) : J p l e R s m args below meth c (MQ below (QC E post) args s 1 15 (AE E)) E 4 11 lv [] T cells slots := by
  refine j_aload_n M dJx4a65c_add_72be8_11 l2 ?_
  refine j_iload_n M dJx4a65c_add_72be8_12 l3 ?_
  refine j_aload_n M dJx4a65c_add_72be8_13 l1 ?_
  refine j_aast M hq.1 hq.2 hx hk (vp_in_nI hz hn) dJx4a65c_add_72be8_14 ?_
  rw [nI_clamp (Nat.lt_trans hz hn)]
  refine j_aload_n M dJx4a65c_add_72be8_15 l0 ?_
  refine j_iload_n M dJx4a65c_add_72be8_16 l3 ?_
  refine j_iconst (v := 1) M dJx4a65c_add_72be8_17 rfl ?_
  refine j_iadd M dJx4a65c_add_72be8_18 ?_
  rw [nI_1]
  refine j_put (host := "") (S2 := uZ (uO T q (va_up (sO T q) z (some x))) h (z + 1)) M hh.1 (pAt_8 E (uO T q (va_up (sO T q) z (some x))) hh.2) rfl inU_Jx4a65c 2 (by decide) tyJx4a65c tyJx4a65c_ok nmJx4a65c wF_Jx4a65c_48 (fun _ h => h) rfl (tyJx4a65c_ok 2 (by decide)) rfl rfl (Nat.le_of_ble_eq_true rfl) rfl (pUp_53 E (uO T q (va_up (sO T q) z (some x))) hh.2 _) dJx4a65c_add_72be8_19 ?_
  exact j_vret M dJx4a65c_add_72be8_22 hc hs hp
/-- the pool after adding x at the end of the list h -/
def Add0 (S : PS) (h x : Nat) (u : PS) : Prop := ∃ q T, ((T = S ∧ sE S h = some q ∧ sZ S h < sN S q ∧ InK S q 10 ∧ (sN S q = 10 ∨ sN S q = 15)) ∨ GRow S h q T) ∧ u = uZ (uO T q (va_up (sO T q) (sZ S h) (some x))) h (sZ S h + 1)
set_option maxRecDepth 100000 in
theorem c_addp {l : Launch} {E : EV} {S : PS} {h x t : Nat} (hL : LC E S h) (he : sE S h = some t) (hx : x ∈ sL S) (hk : oka (sK S x)) : CT l yJx4a65c_add_72be8 cJx4a65c_add_72be8 4 none 5 105 1 15 E [.ref h, .ref x, .ref t, .int (nI (sZ S h))] S (fun v u => v = none ∧ Add0 S h x u) := by
  obtain ⟨hh, hz14, hcase⟩ := hL
  refine CT.of (by decide) (Nat.le_of_ble_eq_true rfl) ?_
  intro p e s m below meth c M hin
  have M : MC E p s m _ meth c cJx4a65c_add_72be8 RJx4a65c 4 none := M
  show J p l e _ s m _ below meth c _ E 4 0 [(0, .ref h), (1, .ref x), (2, .ref t), (3, .int (nI (sZ S h)))] [] S 0 0
  have grown : GC E S h → J p l e { frames := 5, cells := 1, slots := 15, locals := 105 } s m #[.ref h, .ref x, .ref t, .int (nI (sZ S h))] below meth c (MQ below (QC E (fun v u => v = none ∧ Add0 S h x u)) #[.ref h, .ref x, .ref t, .int (nI (sZ S h))] s 1 15 (AE E)) E 4 6 [(0, .ref h), (1, .ref x), (2, .ref t), (3, .int (nI (sZ S h)))] [] S 0 0 := by
    intro hG
    refine j_aload_n M dJx4a65c_add_72be8_6 rfl ?_
    refine j_callV (As := []) M cf_grow0 wM_Jx4a65c_129 (c_grow0 hG) hh.1 (pAt_8 E S hh.2) rfl rfl ⟨Nat.le_of_ble_eq_true rfl, Nat.le_of_ble_eq_true rfl⟩ (Nat.le_of_ble_eq_true rfl) ⟨Nat.le_refl _, Nat.le_refl _⟩ dJx4a65c_add_72be8_7 rfl (fun v u hu => ?_)
    obtain ⟨q, rfl, g⟩ := hu
    obtain ⟨h1, h2, h3⟩ := g.old hh.1
    obtain ⟨x1, x2, x3⟩ := g.old hx
    show J p l e _ s m _ below meth c _ E 4 10 [(0, .ref h), (1, .ref x), (2, .ref t), (3, .int (nI (sZ S h)))] [.ref q] u (0 + 1) (0 + 15)
    refine j_astore_n M dJx4a65c_add_72be8_10 rfl (by decide) rfl ?_
    exact addp_tail M (h := h) (x := x) (q := q) (z := sZ S h) ⟨h1, h2.trans hh.2⟩ g.new x1 (by rw [x2]; exact hk) g.2.2.2.2.1.2.1 (by rcases g.2.2.2.2.1.2.2 with h | h <;> rw [h] <;> decide) rfl rfl rfl rfl (Nat.le_refl _) (Nat.le_refl _) ⟨rfl, q, u, Or.inr g, rfl⟩
  refine j_iload_n M dJx4a65c_add_72be8_0 rfl ?_
  refine j_aload_n M dJx4a65c_add_72be8_1 rfl ?_
  rcases hcase with ⟨e1, e2⟩ | ⟨t', e1, ht, hn, hzn, hel⟩
  · have et : t = eDF E := Option.some.inj (he.symm.trans e1)
    subst et
    refine j_alenD M dJx4a65c_add_72be8_2 ?_
    refine j_icmp_ne (tgt := 11) M dJx4a65c_add_72be8_3 (by decide) (fun c1 => absurd (by rw [e2]; exact nI_0) c1) (fun _ => ?_)
    exact grown ⟨hh, Or.inl ⟨e1, e2⟩⟩
  · have et : t' = t := Option.some.inj (e1.symm.trans he)
    rw [et] at e1 ht hn hzn hel
    have hn31 : sN S t < 2 ^ 31 := by rcases hn with h | h <;> rw [h] <;> decide
    refine j_alenq M ht.1 ht.2 dJx4a65c_add_72be8_2 ?_
    refine j_icmp_ne (tgt := 11) M dJx4a65c_add_72be8_3 (by decide) (fun c1 => ?_) (fun c1 => ?_)
    · have hlt : sZ S h < sN S t := Nat.lt_of_le_of_ne hzn (fun e => c1 (by rw [e]))
      exact addp_tail M (h := h) (x := x) (q := t) (z := sZ S h) hh ht hx hk hlt hn31 rfl rfl rfl rfl (Nat.zero_le _) (Nat.zero_le _) ⟨rfl, t, S, Or.inl ⟨rfl, he, hlt, ht, hn⟩, rfl⟩
    · have e9 : sZ S h = sN S t := (nI_eq (by omega) hn31).mp c1
      have e10 : sN S t = 10 := by rcases hn with h | h <;> omega
      exact grown ⟨hh, Or.inr ⟨t, e1, ht, e10, e9.trans e10, fun i hi y hy => hel i (by omega) y hy⟩⟩
set_option maxRecDepth 100000 in
theorem c_add {l : Launch} {E : EV} {S : PS} {h x : Nat} (hL : LC E S h) (hx : x ∈ sL S) (hk : oka (sK S x)) : CT l yJx4a65c_add_9ea2d cJx4a65c_add_9ea2d 2 (some .boolean) 6 128 1 15 E [.ref h, .ref x] S (fun v u => v = some (.int 1) ∧ Add0 (uI S 51 h (sI S 51 h + 1)) h x u) := by
  have hL2 : LC E (uI S 51 h (sI S 51 h + 1)) h := hL
  have hh : InK S h 8 := hL.1
  obtain ⟨t, he⟩ : ∃ t, sE S h = some t := by
    rcases hL.2.2 with ⟨e1, e2⟩ | ⟨t', e1, ht⟩
    · exact ⟨_, e1⟩
    · exact ⟨_, e1⟩
  refine CT.of (by decide) (Nat.le_of_ble_eq_true rfl) ?_
  intro p e s m below meth c M hin
  have M : MC E p s m _ meth c cJx4a65c_add_9ea2d RJx4a65c 2 (some .boolean) := M
  show J p l e _ s m _ below meth c _ E 2 0 [(0, .ref h), (1, .ref x)] [] S 0 0
  refine j_aload_n M dJx4a65c_add_9ea2d_0 rfl ?_
  refine j_dup M dJx4a65c_add_9ea2d_1 rfl ?_
  refine j_get (v := .int (sI S 51 h)) M hh.1 (pAt_8 E S hh.2) rfl inU_Jx4a65c 0 (by decide) wF_Jx4a65c_63 (fun x h => u_same (M.hts _ wSF) x h) rfl dJx4a65c_add_9ea2d_2 ?_
  refine j_iconst (v := 1) M dJx4a65c_add_9ea2d_5 rfl ?_
  refine j_iadd M dJx4a65c_add_9ea2d_6 ?_
  refine j_put (host := "") (S2 := uI S 51 h (sI S 51 h + 1)) M hh.1 (pAt_8 E S hh.2) rfl inU_Jx4a65c 0 (by decide) tyJx4a65c tyJx4a65c_ok nmJx4a65c wF_Jx4a65c_63 (fun x h => u_same (M.hts _ wSF) x h) rfl (tyJx4a65c_ok 0 (by decide)) rfl rfl (Nat.le_of_ble_eq_true rfl) rfl (pUp_51 E S hh.2 _) dJx4a65c_add_9ea2d_7 ?_
  have hh2 : InK (uI S 51 h (sI S 51 h + 1)) h 8 := hh
  refine j_aload_n M dJx4a65c_add_9ea2d_10 rfl ?_
  refine j_aload_n M dJx4a65c_add_9ea2d_11 rfl ?_
  refine j_aload_n M dJx4a65c_add_9ea2d_12 rfl ?_
  refine j_get (v := .ref t) M hh2.1 (pAt_8 E _ hh2.2) rfl inU_Jx4a65c 1 (by decide) wF_Jx4a65c_9 (fun _ h => h) (rfv he) dJx4a65c_add_9ea2d_13 ?_
  refine j_aload_n M dJx4a65c_add_9ea2d_16 rfl ?_
  refine j_get (v := .int (nI (sZ S h))) M hh2.1 (pAt_8 E _ hh2.2) rfl inU_Jx4a65c 2 (by decide) wF_Jx4a65c_48 (fun _ h => h) rfl dJx4a65c_add_9ea2d_17 ?_
  refine j_callV (As := [.ref x, .ref t, .int (nI (sZ S h))]) M cf_addp wM_Jx4a65c_131 (c_addp (S := uI S 51 h (sI S 51 h + 1)) hL2 he hx hk) hh2.1 (pAt_8 E _ hh2.2) rfl rfl ⟨Nat.le_of_ble_eq_true rfl, Nat.le_of_ble_eq_true rfl⟩ (Nat.le_of_ble_eq_true rfl) ⟨Nat.le_refl _, Nat.le_refl _⟩ dJx4a65c_add_9ea2d_20 rfl (fun v u hu => ?_)
  obtain ⟨rfl, hu⟩ := hu
  show J p l e _ s m _ below meth c _ E 2 23 [(0, .ref h), (1, .ref x)] [] u (0 + 1) (0 + 15)
  refine j_iconst (v := 1) M dJx4a65c_add_9ea2d_23 rfl ?_
  exact j_zret M dJx4a65c_add_9ea2d_24 (Nat.le_refl _) (Nat.le_refl _) (by decide +kernel) ⟨rfl, hu⟩
/-- clear: the array's cells may be anything after it -/
abbrev wO (S : PS) (o : Nat → Nat → Option Nat) : PS := (sL S, sK S, sI S, sR S, sM S, sE S, sZ S, sN S, sA S, o)
def Clr (S : PS) (h : Nat) (u : PS) : Prop := ∃ o, (∀ a, sE S h ≠ some a → o a = sO S a) ∧ u = wO (uZ (uI S 51 h (sI S 51 h + 1)) h 0) o
theorem clear_loop {p : Program} {l : Launch} {e : Env} {R : Room} {s : State} {m : MethodId} {args : Array Value} {below : List Frame} {meth : Method} {c : Code} {E : EV} {post : Option Value → PS → Prop} (M : MC E p s m args meth c cJx4a65c_clear_da8c8 RJx4a65c 4 none) {S1 : PS} {h t n : Nat} {o0 : Nat → Nat → Option Nat} (ht : 0 < n → InK S1 t 10 ∧ n ≤ sN S1 t ∧ sN S1 t < 2 ^ 31) (hn : n < 2 ^ 31)
    (hp : ∀ o, (∀ a, a ≠ t → o a = o0 a) → post none (wO S1 o)) : ∀ (k i : Nat) (o : Nat → Nat → Option Nat), n = i + k → (∀ a, a ≠ t → o a = o0 a) → J p l e R s m args below meth c (MQ below (QC E post) args s 0 0 (AE E)) E 4 27 [(3, .int (nI i)), (2, .int (nI n)), (1, .ref t), (0, .ref h)] [] (wO S1 o) 0 0 := by
  intro k
  induction k with
  | zero =>
    intro i o hi ho
    refine j_iload_n M dJx4a65c_clear_da8c8_27 rfl ?_
    refine j_iload_n M dJx4a65c_clear_da8c8_28 rfl ?_
    refine j_icmp_ge (tgt := 42) M dJx4a65c_clear_da8c8_29 (by decide) (fun _ => ?_) (fun c1 => absurd (nI_le (by omega) (by omega)) c1)
    exact j_vret M dJx4a65c_clear_da8c8_42 (Nat.le_refl _) (Nat.le_refl _) (hp o ho)
  | succ k ih =>
    intro i o hi ho
    obtain ⟨h1, h2, h3⟩ := ht (by omega)
    refine j_iload_n M dJx4a65c_clear_da8c8_27 rfl ?_
    refine j_iload_n M dJx4a65c_clear_da8c8_28 rfl ?_
    refine j_icmp_ge (tgt := 42) M dJx4a65c_clear_da8c8_29 (by decide) (fun c1 => absurd c1 (nI_ge (by omega) hn)) (fun _ => ?_)
    refine j_aload_n M dJx4a65c_clear_da8c8_32 rfl ?_
    refine j_iload_n M dJx4a65c_clear_da8c8_33 rfl ?_
    refine j_null M dJx4a65c_clear_da8c8_34 ?_
    refine j_aastN (S := wO S1 o) M h1.1 h1.2 (vp_in_nI (by show i < sN S1 t; omega) h3) dJx4a65c_clear_da8c8_35 ?_
    refine j_iinc (v := nI (i + 1)) M dJx4a65c_clear_da8c8_36 rfl (nI_1 i) (by decide) rfl ?_
    refine j_goto (tgt := 27) M dJx4a65c_clear_da8c8_39 (by decide) ?_
    exact ih (i + 1) (va_up o t (va_up (o t) (nI i).toNatClampNeg none)) (by omega) (fun a ha => (va_up_ne _ _ ha).trans (ho a ha))
set_option maxRecDepth 100000 in
theorem c_clear {l : Launch} {E : EV} {S : PS} {h : Nat} (hL : LC E S h) : CT l yJx4a65c_clear_da8c8 cJx4a65c_clear_da8c8 4 none 0 0 0 0 E [.ref h] S (fun v u => v = none ∧ Clr S h u) := by
  have hh : InK S h 8 := hL.1
  obtain ⟨t, he, hts⟩ : ∃ t, sE S h = some t ∧ (0 < sZ S h → InK S t 10 ∧ sZ S h ≤ sN S t ∧ sN S t < 2 ^ 31) := by
    rcases hL.2.2 with ⟨e1, e2⟩ | ⟨t', e1, ht, hn, hz, -⟩
    · exact ⟨_, e1, fun h => by omega⟩
    · exact ⟨_, e1, fun _ => ⟨ht, hz, by rcases hn with h | h <;> rw [h] <;> decide⟩⟩
  have hz14 := hL.2.1
  refine CT.of (by decide) (Nat.le_of_ble_eq_true rfl) ?_
  intro p e s m below meth c M hin
  have M : MC E p s m _ meth c cJx4a65c_clear_da8c8 RJx4a65c 4 none := M
  show J p l e _ s m _ below meth c _ E 4 0 [(0, .ref h)] [] S 0 0
  refine j_aload_n M dJx4a65c_clear_da8c8_0 rfl ?_
  refine j_dup M dJx4a65c_clear_da8c8_1 rfl ?_
  refine j_get (v := .int (sI S 51 h)) M hh.1 (pAt_8 E S hh.2) rfl inU_Jx4a65c 0 (by decide) wF_Jx4a65c_63 (fun x h => u_same (M.hts _ wSF) x h) rfl dJx4a65c_clear_da8c8_2 ?_
  refine j_iconst (v := 1) M dJx4a65c_clear_da8c8_5 rfl ?_
  refine j_iadd M dJx4a65c_clear_da8c8_6 ?_
  refine j_put (host := "") (S2 := uI S 51 h (sI S 51 h + 1)) M hh.1 (pAt_8 E S hh.2) rfl inU_Jx4a65c 0 (by decide) tyJx4a65c tyJx4a65c_ok nmJx4a65c wF_Jx4a65c_63 (fun x h => u_same (M.hts _ wSF) x h) rfl (tyJx4a65c_ok 0 (by decide)) rfl rfl (Nat.le_of_ble_eq_true rfl) rfl (pUp_51 E S hh.2 _) dJx4a65c_clear_da8c8_7 ?_
  have hh2 : InK (uI S 51 h (sI S 51 h + 1)) h 8 := hh
  refine j_aload_n M dJx4a65c_clear_da8c8_10 rfl ?_
  refine j_get (v := .ref t) M hh2.1 (pAt_8 E _ hh2.2) rfl inU_Jx4a65c 1 (by decide) wF_Jx4a65c_9 (fun _ h => h) (rfv he) dJx4a65c_clear_da8c8_11 ?_
  refine j_astore_n M dJx4a65c_clear_da8c8_14 rfl (by decide) rfl ?_
  refine j_aload_n M dJx4a65c_clear_da8c8_15 rfl ?_
  refine j_get (v := .int (nI (sZ S h))) M hh2.1 (pAt_8 E _ hh2.2) rfl inU_Jx4a65c 2 (by decide) wF_Jx4a65c_48 (fun _ h => h) rfl dJx4a65c_clear_da8c8_16 ?_
  refine j_istore_n M dJx4a65c_clear_da8c8_19 rfl (by decide) rfl ?_
  refine j_aload_n M dJx4a65c_clear_da8c8_20 rfl ?_
  refine j_iconst (v := 0) M dJx4a65c_clear_da8c8_21 rfl ?_
  refine j_dup_x1 M dJx4a65c_clear_da8c8_22 rfl rfl ?_
  refine j_put (host := "") (S2 := uZ (uI S 51 h (sI S 51 h + 1)) h 0) M hh2.1 (pAt_8 E _ hh2.2) rfl inU_Jx4a65c 2 (by decide) tyJx4a65c tyJx4a65c_ok nmJx4a65c wF_Jx4a65c_48 (fun _ h => h) rfl (tyJx4a65c_ok 2 (by decide)) rfl rfl (Nat.le_of_ble_eq_true rfl) rfl (pUp_53 E (uI S 51 h (sI S 51 h + 1)) hh2.2 0) dJx4a65c_clear_da8c8_23 ?_
  refine j_istore_n (x := nI 0) M dJx4a65c_clear_da8c8_26 rfl (by decide) rfl ?_
  exact clear_loop (S1 := uZ (uI S 51 h (sI S 51 h + 1)) h 0) (o0 := sO S) M hts (by omega) (fun o ho => ⟨rfl, o, fun a ha => ho a (fun e => ha (by rw [e]; exact he)), rfl⟩) (sZ S h) 0 (sO S) (by omega) (fun _ _ => rfl)
