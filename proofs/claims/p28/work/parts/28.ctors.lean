/-! constructors -/
theorem j_gen {p : Program} {l : Launch} {e : Env} {R : Room} {s : State} {m : MethodId} {args : Array Value} {below : List Frame} {meth : Method} {c : Code} {Q : State → Prop} {E : EV} {nL pc : Nat} {lv : List (Nat × Value)} {st : List Value} {S : PS} {cells slots : Nat} (K : ∀ T : PS, T = S → J p l e R s m args below meth c Q E nL pc lv st T cells slots) : J p l e R s m args below meth c Q E nL pc lv st S cells slots := K S rfl
theorem ink_nw {S : PS} {a k q k2 : Nat} (h : InK S a k) (hq : q ∉ sL S) : InK (nw S q k2) a k := ⟨List.mem_append_left _ h.1, (va_up_ne _ _ (ne_in h.1 hq)).trans h.2⟩
theorem ink_nwA {S : PS} {a k q n : Nat} {r : Nat → Int32} (h : InK S a k) (hq : q ∉ sL S) : InK (nwA S q n r) a k := ⟨List.mem_append_left _ h.1, (va_up_ne _ _ (ne_in h.1 hq)).trans h.2⟩
theorem nel {L : List Nat} {o q : Nat} (h : o ∈ L) (hq : q ∉ L) : o ≠ q := fun e => hq (e ▸ h)
theorem ink_n {S : PS} {q k : Nat} : InK (nw S q k) q k := ⟨List.mem_append_right _ (List.mem_singleton.mpr rfl), va_up_self _ _ _⟩
theorem ink_nA {S : PS} {q n : Nat} {r : Nat → Int32} : InK (nwA S q n r) q 9 := ⟨List.mem_append_right _ (List.mem_singleton.mpr rfl), va_up_self _ _ _⟩
abbrev n_list (d : Nat) (S : PS) (h : Nat) : PS := uE (uI S 51 h 0) h (some d)
def m_rowOf0 (S : PS) (g : Nat) (x : Int32) : Int32 :=
  if (sI S 17 g) ≤ 0 then
    0
  else
    x / (sI S 17 g)
set_option maxHeartbeats 4000000 in
set_option maxRecDepth 100000 in
theorem c_rowOf0 {l : Launch} {E : EV} {S : PS} {g : Nat} (hg : InK S g 1) (x : Int32) : CT l yX1_rowOf cX1_rowOf 2 (some .int) 0 0 0 0 E [.ref g, .int x] S (pv (.int (m_rowOf0 S g x)) S) := by
  refine CT.of (by decide) (Nat.le_of_ble_eq_true rfl) ?_
  intro p e s m below meth c M hin
  have M : MC E p s m _ meth c cX1_rowOf RX1 2 (some .int) := M
  show J p l e _ s m _ below meth c _ E 2 0 [(0, .ref g), (1, .int x)] [] S 0 0
  refine j_aload_n M dX1_rowOf_0 rfl ?_
  refine j_get (v := .int (sI S 17 g)) M hg.1 (pAt_1 E _ hg.2) rfl inU_X1 1 (by decide) wF_X1_15 (fun _ h => h) rfl dX1_rowOf_1 ?_
  refine j_if_le (tgt := 16) M dX1_rowOf_4 (by decide) (fun c1 => ?_) (fun c1 => ?_)
  · refine j_iconst (v := 0) M dX1_rowOf_16 (by decide) ?_
    exact j_iret (v := 0) M dX1_rowOf_17 (Nat.le_refl _) (Nat.le_refl _) ⟨congrArg (fun z => some (Value.int z)) (show 0 = m_rowOf0 S g x from (by unfold m_rowOf0; rw [if_pos c1])), rfl⟩
  · refine j_iload_n M dX1_rowOf_7 rfl ?_
    refine j_aload_n M dX1_rowOf_8 rfl ?_
    refine j_get (v := .int (sI S 17 g)) M hg.1 (pAt_1 E _ hg.2) rfl inU_X1 1 (by decide) wF_X1_15 (fun _ h => h) rfl dX1_rowOf_9 ?_
    refine j_idiv M dX1_rowOf_12 (ne0_of c1) ?_
    refine j_goto (tgt := 17) M dX1_rowOf_13 (by decide) ?_
    exact j_iret (v := (x / (sI S 17 g))) M dX1_rowOf_17 (Nat.le_refl _) (Nat.le_refl _) ⟨congrArg (fun z => some (Value.int z)) (show (x / (sI S 17 g)) = m_rowOf0 S g x from (by unfold m_rowOf0; rw [if_neg c1])), rfl⟩
def m_columnOf0 (S : PS) (g : Nat) (x : Int32) : Int32 :=
  if (sI S 17 g) ≤ 0 then
    0
  else
    x - x / (sI S 17 g) * (sI S 17 g)
set_option maxHeartbeats 4000000 in
set_option maxRecDepth 100000 in
theorem c_columnOf0 {l : Launch} {E : EV} {S : PS} {g : Nat} (hg : InK S g 1) (x : Int32) : CT l yX1_columnOf cX1_columnOf 2 (some .int) 0 0 0 0 E [.ref g, .int x] S (pv (.int (m_columnOf0 S g x)) S) := by
  refine CT.of (by decide) (Nat.le_of_ble_eq_true rfl) ?_
  intro p e s m below meth c M hin
  have M : MC E p s m _ meth c cX1_columnOf RX1 2 (some .int) := M
  show J p l e _ s m _ below meth c _ E 2 0 [(0, .ref g), (1, .int x)] [] S 0 0
  refine j_aload_n M dX1_columnOf_0 rfl ?_
  refine j_get (v := .int (sI S 17 g)) M hg.1 (pAt_1 E _ hg.2) rfl inU_X1 1 (by decide) wF_X1_15 (fun _ h => h) rfl dX1_columnOf_1 ?_
  refine j_if_le (tgt := 16) M dX1_columnOf_4 (by decide) (fun c1 => ?_) (fun c1 => ?_)
  · refine j_iconst (v := 0) M dX1_columnOf_16 (by decide) ?_
    exact j_iret (v := 0) M dX1_columnOf_17 (Nat.le_refl _) (Nat.le_refl _) ⟨congrArg (fun z => some (Value.int z)) (show 0 = m_columnOf0 S g x from (by unfold m_columnOf0; rw [if_pos c1])), rfl⟩
  · refine j_iload_n M dX1_columnOf_7 rfl ?_
    refine j_aload_n M dX1_columnOf_8 rfl ?_
    refine j_get (v := .int (sI S 17 g)) M hg.1 (pAt_1 E _ hg.2) rfl inU_X1 1 (by decide) wF_X1_15 (fun _ h => h) rfl dX1_columnOf_9 ?_
    refine j_irem M dX1_columnOf_12 (ne0_of c1) ?_
    refine j_goto (tgt := 17) M dX1_columnOf_13 (by decide) ?_
    exact j_iret (v := (x - x / (sI S 17 g) * (sI S 17 g))) M dX1_columnOf_17 (Nat.le_refl _) (Nat.le_refl _) ⟨congrArg (fun z => some (Value.int z)) (show (x - x / (sI S 17 g) * (sI S 17 g)) = m_columnOf0 S g x from (by unfold m_columnOf0; rw [if_neg c1])), rfl⟩
abbrev n_Report (S : PS) (a : Nat) (t : Int32) (f : Int32) (b : Int32) : PS := uI (uI (uI S 29 a t) 30 a f) 31 a b
theorem cf_X4_init : CFi yX4_init cX4_init 4 3 := ⟨wC_X4_init, wI_X4_init, wN_X4, by decide +kernel⟩
set_option maxHeartbeats 4000000 in
set_option maxRecDepth 100000 in
theorem ci_Report {l : Launch} {E : EV} {S : PS} {a : Nat} (ha : InK S a 4) (t : Int32) (f : Int32) (b : Int32) : CT l yX4_init cX4_init 4 none 1 12 0 0 E [.ref a, .int t, .int f, .int b] S (p0 (n_Report S a t f b)) := by
  refine CT.of (by decide) (Nat.le_of_ble_eq_true rfl) ?_
  intro p e s m below meth c M hin
  have M : MC E p s m _ meth c cX4_init RX4 4 none := M
  show J p l e _ s m _ below meth c _ E 4 0 [(0, .ref a), (1, .int t), (2, .int f), (3, .int b)] [] S 0 0
  refine j_aload_n M dX4_init_0 rfl ?_
  refine j_obj M wM_X4_1 wI_objectInit wC_objectInit dX4_init_1 (Nat.le_of_ble_eq_true rfl) (Nat.le_of_ble_eq_true rfl) ?_
  refine j_aload_n M dX4_init_4 rfl ?_
  refine j_iload_n M dX4_init_5 rfl ?_
  refine j_putF (host := "") (S2 := uI S 29 a t) M ha.1 (pAt_4 E _ ha.2) rfl inU_X4 0 (by decide) tyX4 tyX4_ok nmX4 wF_X4_7 (fun _ h => h) rfl hin rfl (tyX4_ok 0 (by decide)) rfl rfl (Nat.le_of_ble_eq_true rfl) rfl (pUp_29 E S ha.2 t) dX4_init_6 ?_
  refine j_aload_n M dX4_init_9 rfl ?_
  refine j_iload_n M dX4_init_10 rfl ?_
  refine j_putF (host := "") (S2 := uI (uI S 29 a t) 30 a f) M ha.1 (pAt_4 E _ ha.2) rfl inU_X4 1 (by decide) tyX4 tyX4_ok nmX4 wF_X4_13 (fun _ h => h) rfl hin rfl (tyX4_ok 1 (by decide)) rfl rfl (Nat.le_of_ble_eq_true rfl) rfl (pUp_30 E (uI S 29 a t) ha.2 f) dX4_init_11 ?_
  refine j_aload_n M dX4_init_14 rfl ?_
  refine j_iload_n M dX4_init_15 rfl ?_
  refine j_putF (host := "") (S2 := uI (uI (uI S 29 a t) 30 a f) 31 a b) M ha.1 (pAt_4 E _ ha.2) rfl inU_X4 2 (by decide) tyX4 tyX4_ok nmX4 wF_X4_16 (fun _ h => h) rfl hin rfl (tyX4_ok 2 (by decide)) rfl rfl (Nat.le_of_ble_eq_true rfl) rfl (pUp_31 E (uI (uI S 29 a t) 30 a f) ha.2 b) dX4_init_16 ?_
  exact j_vret M dX4_init_19 (Nat.le_refl _) (Nat.le_refl _) ⟨rfl, rfl⟩
abbrev n_Load (S : PS) (a : Nat) (n : Int32) (c1 : Int32) (w : Int32) : PS := uI (uI (uI (uM S 22 a none) 19 a n) 21 a c1) 20 a w
theorem cf_X2_init : CFi yX2_init cX2_init 4 3 := ⟨wC_X2_init, wI_X2_init, wN_X2, by decide +kernel⟩
set_option maxHeartbeats 4000000 in
set_option maxRecDepth 100000 in
theorem ci_Load {l : Launch} {E : EV} {S : PS} {a : Nat} (ha : InK S a 2) (n : Int32) (c1 : Int32) (w : Int32) : CT l yX2_init cX2_init 4 none 1 12 0 0 E [.ref a, .int n, .int c1, .int w] S (p0 (n_Load S a n c1 w)) := by
  refine CT.of (by decide) (Nat.le_of_ble_eq_true rfl) ?_
  intro p e s m below meth c M hin
  have M : MC E p s m _ meth c cX2_init RX2 4 none := M
  show J p l e _ s m _ below meth c _ E 4 0 [(0, .ref a), (1, .int n), (2, .int c1), (3, .int w)] [] S 0 0
  refine j_aload_n M dX2_init_0 rfl ?_
  refine j_obj M wM_X2_1 wI_objectInit wC_objectInit dX2_init_1 (Nat.le_of_ble_eq_true rfl) (Nat.le_of_ble_eq_true rfl) ?_
  refine j_aload_n M dX2_init_4 rfl ?_
  refine j_null M dX2_init_5 ?_
  refine j_put (host := "") (S2 := uM S 22 a none) M ha.1 (pAt_2 E _ ha.2) rfl inU_X2 3 (by decide) tyX2 tyX2_ok nmX2 wF_X2_7 (fun _ h => h) rfl (tyX2_ok 3 (by decide)) rfl rfl (Nat.le_of_ble_eq_true rfl) rfl (pUp_22 E S ha.2 none) dX2_init_6 ?_
  refine j_aload_n M dX2_init_9 rfl ?_
  refine j_iload_n M dX2_init_10 rfl ?_
  refine j_putF (host := "") (S2 := uI (uM S 22 a none) 19 a n) M ha.1 (pAt_2 E _ ha.2) rfl inU_X2 0 (by decide) tyX2 tyX2_ok nmX2 wF_X2_13 (fun _ h => h) rfl hin rfl (tyX2_ok 0 (by decide)) rfl rfl (Nat.le_of_ble_eq_true rfl) rfl (pUp_19 E (uM S 22 a none) ha.2 n) dX2_init_11 ?_
  refine j_aload_n M dX2_init_14 rfl ?_
  refine j_iload_n M dX2_init_15 rfl ?_
  refine j_put (host := "") (S2 := uI (uI (uM S 22 a none) 19 a n) 21 a c1) M ha.1 (pAt_2 E _ ha.2) rfl inU_X2 2 (by decide) tyX2 tyX2_ok nmX2 wF_X2_17 (fun _ h => h) rfl (tyX2_ok 2 (by decide)) rfl rfl (Nat.le_of_ble_eq_true rfl) rfl (pUp_21 E (uI (uM S 22 a none) 19 a n) ha.2 c1) dX2_init_16 ?_
  refine j_aload_n M dX2_init_19 rfl ?_
  refine j_iload_n M dX2_init_20 rfl ?_
  refine j_putF (host := "") (S2 := uI (uI (uI (uM S 22 a none) 19 a n) 21 a c1) 20 a w) M ha.1 (pAt_2 E _ ha.2) rfl inU_X2 1 (by decide) tyX2 tyX2_ok nmX2 wF_X2_20 (fun _ h => h) rfl hin rfl (tyX2_ok 1 (by decide)) rfl rfl (Nat.le_of_ble_eq_true rfl) rfl (pUp_20 E (uI (uI (uM S 22 a none) 19 a n) 21 a c1) ha.2 w) dX2_init_21 ?_
  exact j_vret M dX2_init_24 (Nat.le_refl _) (Nat.le_refl _) ⟨rfl, rfl⟩
abbrev n_Zone (S : PS) (a : Nat) (t : Int32) (l1 : Int32) (b : Int32) (r : Int32) (f : Int32) (u1 : Int32) : PS := uI (uI (uI (uI (uI (uI S 42 a t) 43 a l1) 44 a b) 45 a r) 46 a f) 47 a u1
theorem cf_X6_init : CFi yX6_init cX6_init 7 6 := ⟨wC_X6_init, wI_X6_init, wN_X6, by decide +kernel⟩
set_option maxHeartbeats 4000000 in
set_option maxRecDepth 100000 in
theorem ci_Zone {l : Launch} {E : EV} {S : PS} {a : Nat} (ha : InK S a 6) (t : Int32) (l1 : Int32) (b : Int32) (r : Int32) (f : Int32) (u1 : Int32) : CT l yX6_init cX6_init 7 none 1 12 0 0 E [.ref a, .int t, .int l1, .int b, .int r, .int f, .int u1] S (p0 (n_Zone S a t l1 b r f u1)) := by
  refine CT.of (by decide) (Nat.le_of_ble_eq_true rfl) ?_
  intro p e s m below meth c M hin
  have M : MC E p s m _ meth c cX6_init RX6 7 none := M
  show J p l e _ s m _ below meth c _ E 7 0 [(0, .ref a), (1, .int t), (2, .int l1), (3, .int b), (4, .int r), (5, .int f), (6, .int u1)] [] S 0 0
  refine j_aload_n M dX6_init_0 rfl ?_
  refine j_obj M wM_X6_1 wI_objectInit wC_objectInit dX6_init_1 (Nat.le_of_ble_eq_true rfl) (Nat.le_of_ble_eq_true rfl) ?_
  refine j_aload_n M dX6_init_4 rfl ?_
  refine j_iload_n M dX6_init_5 rfl ?_
  refine j_putF (host := "") (S2 := uI S 42 a t) M ha.1 (pAt_6 E _ ha.2) rfl inU_X6 0 (by decide) tyX6 tyX6_ok nmX6 wF_X6_7 (fun _ h => h) rfl hin rfl (tyX6_ok 0 (by decide)) rfl rfl (Nat.le_of_ble_eq_true rfl) rfl (pUp_42 E S ha.2 t) dX6_init_6 ?_
  refine j_aload_n M dX6_init_9 rfl ?_
  refine j_iload_n M dX6_init_10 rfl ?_
  refine j_putF (host := "") (S2 := uI (uI S 42 a t) 43 a l1) M ha.1 (pAt_6 E _ ha.2) rfl inU_X6 1 (by decide) tyX6 tyX6_ok nmX6 wF_X6_13 (fun _ h => h) rfl hin rfl (tyX6_ok 1 (by decide)) rfl rfl (Nat.le_of_ble_eq_true rfl) rfl (pUp_43 E (uI S 42 a t) ha.2 l1) dX6_init_11 ?_
  refine j_aload_n M dX6_init_14 rfl ?_
  refine j_iload_n M dX6_init_15 rfl ?_
  refine j_putF (host := "") (S2 := uI (uI (uI S 42 a t) 43 a l1) 44 a b) M ha.1 (pAt_6 E _ ha.2) rfl inU_X6 2 (by decide) tyX6 tyX6_ok nmX6 wF_X6_16 (fun _ h => h) rfl hin rfl (tyX6_ok 2 (by decide)) rfl rfl (Nat.le_of_ble_eq_true rfl) rfl (pUp_44 E (uI (uI S 42 a t) 43 a l1) ha.2 b) dX6_init_16 ?_
  refine j_aload_n M dX6_init_19 rfl ?_
  refine j_iload M dX6_init_20 rfl ?_
  refine j_putF (host := "") (S2 := uI (uI (uI (uI S 42 a t) 43 a l1) 44 a b) 45 a r) M ha.1 (pAt_6 E _ ha.2) rfl inU_X6 3 (by decide) tyX6 tyX6_ok nmX6 wF_X6_19 (fun _ h => h) rfl hin rfl (tyX6_ok 3 (by decide)) rfl rfl (Nat.le_of_ble_eq_true rfl) rfl (pUp_45 E (uI (uI (uI S 42 a t) 43 a l1) 44 a b) ha.2 r) dX6_init_22 ?_
  refine j_aload_n M dX6_init_25 rfl ?_
  refine j_iload M dX6_init_26 rfl ?_
  refine j_putF (host := "") (S2 := uI (uI (uI (uI (uI S 42 a t) 43 a l1) 44 a b) 45 a r) 46 a f) M ha.1 (pAt_6 E _ ha.2) rfl inU_X6 4 (by decide) tyX6 tyX6_ok nmX6 wF_X6_22 (fun _ h => h) rfl hin rfl (tyX6_ok 4 (by decide)) rfl rfl (Nat.le_of_ble_eq_true rfl) rfl (pUp_46 E (uI (uI (uI (uI S 42 a t) 43 a l1) 44 a b) 45 a r) ha.2 f) dX6_init_28 ?_
  refine j_aload_n M dX6_init_31 rfl ?_
  refine j_iload M dX6_init_32 rfl ?_
  refine j_putF (host := "") (S2 := uI (uI (uI (uI (uI (uI S 42 a t) 43 a l1) 44 a b) 45 a r) 46 a f) 47 a u1) M ha.1 (pAt_6 E _ ha.2) rfl inU_X6 5 (by decide) tyX6 tyX6_ok nmX6 wF_X6_25 (fun _ h => h) rfl hin rfl (tyX6_ok 5 (by decide)) rfl rfl (Nat.le_of_ble_eq_true rfl) rfl (pUp_47 E (uI (uI (uI (uI (uI S 42 a t) 43 a l1) 44 a b) 45 a r) 46 a f) ha.2 u1) dX6_init_34 ?_
  exact j_vret M dX6_init_37 (Nat.le_refl _) (Nat.le_refl _) ⟨rfl, rfl⟩
abbrev n_Crane (S : PS) (a g : Nat) (n : Int32) (t : Int32) (m1 : Int32) (r : Int32) (o : Int32) : PS := uI (uI (uI (uI (uI (uI (uI (uI (uR (uI (uM (uI (uI (uI (uI (uI S 8 a 0) 9 a 0) 10 a 1) 12 a 0) 13 a 0) 14 a none) 15 a 0) 0 a (some g)) 1 a n) 2 a t) 3 a (m_rowOf0 (uI (uI (uR (uI (uM (uI (uI (uI (uI (uI S 8 a 0) 9 a 0) 10 a 1) 12 a 0) 13 a 0) 14 a none) 15 a 0) 0 a (some g)) 1 a n) 2 a t) g t)) 4 a (m_columnOf0 (uI (uI (uI (uR (uI (uM (uI (uI (uI (uI (uI S 8 a 0) 9 a 0) 10 a 1) 12 a 0) 13 a 0) 14 a none) 15 a 0) 0 a (some g)) 1 a n) 2 a t) 3 a (m_rowOf0 (uI (uI (uR (uI (uM (uI (uI (uI (uI (uI S 8 a 0) 9 a 0) 10 a 1) 12 a 0) 13 a 0) 14 a none) 15 a 0) 0 a (some g)) 1 a n) 2 a t) g t)) g t)) 5 a m1) 6 a r) 7 a o) 11 a (m1 - 1)
theorem cf_X0_init : CFi yX0_init cX0_init 7 6 := ⟨wC_X0_init, wI_X0_init, wN_X0, by decide +kernel⟩
set_option maxHeartbeats 4000000 in
set_option maxRecDepth 100000 in
theorem ci_Crane {l : Launch} {E : EV} {S : PS} {a : Nat} (ha : InK S a 0) {g : Nat} (hg : InK S g 1) (n : Int32) (t : Int32) (m1 : Int32) (r : Int32) (o : Int32) : CT l yX0_init cX0_init 7 none 1 21 0 0 E [.ref a, .ref g, .int n, .int t, .int m1, .int r, .int o] S (p0 (n_Crane S a g n t m1 r o)) := by
  refine CT.of (by decide) (Nat.le_of_ble_eq_true rfl) ?_
  intro p e s m below meth c M hin
  have M : MC E p s m _ meth c cX0_init RX0 7 none := M
  show J p l e _ s m _ below meth c _ E 7 0 [(0, .ref a), (1, .ref g), (2, .int n), (3, .int t), (4, .int m1), (5, .int r), (6, .int o)] [] S 0 0
  refine j_aload_n M dX0_init_0 rfl ?_
  refine j_obj M wM_X0_3 wI_objectInit wC_objectInit dX0_init_1 (Nat.le_of_ble_eq_true rfl) (Nat.le_of_ble_eq_true rfl) ?_
  refine j_aload_n M dX0_init_4 rfl ?_
  refine j_iconst (v := 0) M dX0_init_5 (by decide +kernel) ?_
  refine j_put (host := "") (S2 := uI S 8 a 0) M ha.1 (pAt_0 E _ ha.2) rfl inU_X0 8 (by decide) tyX0 tyX0_ok nmX0 wF_X0_9 (fun _ h => h) rfl (tyX0_ok 8 (by decide)) rfl rfl (Nat.le_of_ble_eq_true rfl) rfl (pUp_8 E S ha.2 0) dX0_init_6 ?_
  refine j_aload_n M dX0_init_9 rfl ?_
  refine j_iconst (v := 0) M dX0_init_10 (by decide +kernel) ?_
  refine j_put (host := "") (S2 := uI (uI S 8 a 0) 9 a 0) M ha.1 (pAt_0 E _ ha.2) rfl inU_X0 9 (by decide) tyX0 tyX0_ok nmX0 wF_X0_15 (fun _ h => h) rfl (tyX0_ok 9 (by decide)) rfl rfl (Nat.le_of_ble_eq_true rfl) rfl (pUp_9 E (uI S 8 a 0) ha.2 0) dX0_init_11 ?_
  refine j_aload_n M dX0_init_14 rfl ?_
  refine j_iconst (v := 1) M dX0_init_15 (by decide +kernel) ?_
  refine j_put (host := "") (S2 := uI (uI (uI S 8 a 0) 9 a 0) 10 a 1) M ha.1 (pAt_0 E _ ha.2) rfl inU_X0 10 (by decide) tyX0 tyX0_ok nmX0 wF_X0_18 (fun _ h => h) rfl (tyX0_ok 10 (by decide)) rfl rfl (Nat.le_of_ble_eq_true rfl) rfl (pUp_10 E (uI (uI S 8 a 0) 9 a 0) ha.2 1) dX0_init_16 ?_
  refine j_aload_n M dX0_init_19 rfl ?_
  refine j_iconst (v := 0) M dX0_init_20 (by decide +kernel) ?_
  refine j_put (host := "") (S2 := uI (uI (uI (uI S 8 a 0) 9 a 0) 10 a 1) 12 a 0) M ha.1 (pAt_0 E _ ha.2) rfl inU_X0 12 (by decide) tyX0 tyX0_ok nmX0 wF_X0_21 (fun _ h => h) rfl (tyX0_ok 12 (by decide)) rfl rfl (Nat.le_of_ble_eq_true rfl) rfl (pUp_12 E (uI (uI (uI S 8 a 0) 9 a 0) 10 a 1) ha.2 0) dX0_init_21 ?_
  refine j_aload_n M dX0_init_24 rfl ?_
  refine j_iconst (v := 0) M dX0_init_25 (by decide +kernel) ?_
  refine j_put (host := "") (S2 := uI (uI (uI (uI (uI S 8 a 0) 9 a 0) 10 a 1) 12 a 0) 13 a 0) M ha.1 (pAt_0 E _ ha.2) rfl inU_X0 13 (by decide) tyX0 tyX0_ok nmX0 wF_X0_24 (fun _ h => h) rfl (tyX0_ok 13 (by decide)) rfl rfl (Nat.le_of_ble_eq_true rfl) rfl (pUp_13 E (uI (uI (uI (uI S 8 a 0) 9 a 0) 10 a 1) 12 a 0) ha.2 0) dX0_init_26 ?_
  refine j_aload_n M dX0_init_29 rfl ?_
  refine j_null M dX0_init_30 ?_
  refine j_put (host := "") (S2 := uM (uI (uI (uI (uI (uI S 8 a 0) 9 a 0) 10 a 1) 12 a 0) 13 a 0) 14 a none) M ha.1 (pAt_0 E _ ha.2) rfl inU_X0 14 (by decide) tyX0 tyX0_ok nmX0 wF_X0_27 (fun _ h => h) rfl (tyX0_ok 14 (by decide)) rfl rfl (Nat.le_of_ble_eq_true rfl) rfl (pUp_14 E (uI (uI (uI (uI (uI S 8 a 0) 9 a 0) 10 a 1) 12 a 0) 13 a 0) ha.2 none) dX0_init_31 ?_
  refine j_aload_n M dX0_init_34 rfl ?_
  refine j_iconst (v := 0) M dX0_init_35 (by decide +kernel) ?_
  refine j_put (host := "") (S2 := uI (uM (uI (uI (uI (uI (uI S 8 a 0) 9 a 0) 10 a 1) 12 a 0) 13 a 0) 14 a none) 15 a 0) M ha.1 (pAt_0 E _ ha.2) rfl inU_X0 15 (by decide) tyX0 tyX0_ok nmX0 wF_X0_31 (fun _ h => h) rfl (tyX0_ok 15 (by decide)) rfl rfl (Nat.le_of_ble_eq_true rfl) rfl (pUp_15 E (uM (uI (uI (uI (uI (uI S 8 a 0) 9 a 0) 10 a 1) 12 a 0) 13 a 0) 14 a none) ha.2 0) dX0_init_36 ?_
  refine j_aload_n M dX0_init_39 rfl ?_
  refine j_aload_n M dX0_init_40 rfl ?_
  refine j_putF (host := "") (S2 := uR (uI (uM (uI (uI (uI (uI (uI S 8 a 0) 9 a 0) 10 a 1) 12 a 0) 13 a 0) 14 a none) 15 a 0) 0 a (some g)) M ha.1 (pAt_0 E _ ha.2) rfl inU_X0 0 (by decide) tyX0 tyX0_ok nmX0 wF_X0_34 (fun _ h => h) rfl hin rfl (tyX0_ok 0 (by decide)) rfl rfl (Nat.le_of_ble_eq_true rfl) rfl (pUp_0 E (uI (uM (uI (uI (uI (uI (uI S 8 a 0) 9 a 0) 10 a 1) 12 a 0) 13 a 0) 14 a none) 15 a 0) ha.2 (some g)) dX0_init_41 ?_
  refine j_aload_n M dX0_init_44 rfl ?_
  refine j_iload_n M dX0_init_45 rfl ?_
  refine j_put (host := "") (S2 := uI (uR (uI (uM (uI (uI (uI (uI (uI S 8 a 0) 9 a 0) 10 a 1) 12 a 0) 13 a 0) 14 a none) 15 a 0) 0 a (some g)) 1 a n) M ha.1 (pAt_0 E _ ha.2) rfl inU_X0 1 (by decide) tyX0 tyX0_ok nmX0 wF_X0_38 (fun _ h => h) rfl (tyX0_ok 1 (by decide)) rfl rfl (Nat.le_of_ble_eq_true rfl) rfl (pUp_1 E (uR (uI (uM (uI (uI (uI (uI (uI S 8 a 0) 9 a 0) 10 a 1) 12 a 0) 13 a 0) 14 a none) 15 a 0) 0 a (some g)) ha.2 n) dX0_init_46 ?_
  refine j_aload_n M dX0_init_49 rfl ?_
  refine j_iload_n M dX0_init_50 rfl ?_
  refine j_put (host := "") (S2 := uI (uI (uR (uI (uM (uI (uI (uI (uI (uI S 8 a 0) 9 a 0) 10 a 1) 12 a 0) 13 a 0) 14 a none) 15 a 0) 0 a (some g)) 1 a n) 2 a t) M ha.1 (pAt_0 E _ ha.2) rfl inU_X0 2 (by decide) tyX0 tyX0_ok nmX0 wF_X0_41 (fun _ h => h) rfl (tyX0_ok 2 (by decide)) rfl rfl (Nat.le_of_ble_eq_true rfl) rfl (pUp_2 E (uI (uR (uI (uM (uI (uI (uI (uI (uI S 8 a 0) 9 a 0) 10 a 1) 12 a 0) 13 a 0) 14 a none) 15 a 0) 0 a (some g)) 1 a n) ha.2 t) dX0_init_51 ?_
  refine j_aload_n M dX0_init_54 rfl ?_
  refine j_aload_n M dX0_init_55 rfl ?_
  refine j_iload_n M dX0_init_56 rfl ?_
  refine j_callV1 (As := [.int t]) M cf_X1_rowOf wM_X0_44 (c_rowOf0 (S := uI (uI (uR (uI (uM (uI (uI (uI (uI (uI S 8 a 0) 9 a 0) 10 a 1) 12 a 0) 13 a 0) 14 a none) 15 a 0) 0 a (some g)) 1 a n) 2 a t) hg t) hg.1 (pAt_1 E _ hg.2) rfl rfl ⟨Nat.le_of_ble_eq_true rfl, Nat.le_of_ble_eq_true rfl⟩ (Nat.le_of_ble_eq_true rfl) ⟨Nat.le_of_ble_eq_true rfl, Nat.le_of_ble_eq_true rfl⟩ dX0_init_57 rfl ?_
  refine j_put (host := "") (S2 := uI (uI (uI (uR (uI (uM (uI (uI (uI (uI (uI S 8 a 0) 9 a 0) 10 a 1) 12 a 0) 13 a 0) 14 a none) 15 a 0) 0 a (some g)) 1 a n) 2 a t) 3 a (m_rowOf0 (uI (uI (uR (uI (uM (uI (uI (uI (uI (uI S 8 a 0) 9 a 0) 10 a 1) 12 a 0) 13 a 0) 14 a none) 15 a 0) 0 a (some g)) 1 a n) 2 a t) g t)) M ha.1 (pAt_0 E _ ha.2) rfl inU_X0 3 (by decide) tyX0 tyX0_ok nmX0 wF_X0_50 (fun _ h => h) rfl (tyX0_ok 3 (by decide)) rfl rfl (Nat.le_of_ble_eq_true rfl) rfl (pUp_3 E (uI (uI (uR (uI (uM (uI (uI (uI (uI (uI S 8 a 0) 9 a 0) 10 a 1) 12 a 0) 13 a 0) 14 a none) 15 a 0) 0 a (some g)) 1 a n) 2 a t) ha.2 (m_rowOf0 (uI (uI (uR (uI (uM (uI (uI (uI (uI (uI S 8 a 0) 9 a 0) 10 a 1) 12 a 0) 13 a 0) 14 a none) 15 a 0) 0 a (some g)) 1 a n) 2 a t) g t)) dX0_init_60 ?_
  refine j_aload_n M dX0_init_63 rfl ?_
  refine j_aload_n M dX0_init_64 rfl ?_
  refine j_iload_n M dX0_init_65 rfl ?_
  refine j_callV1 (As := [.int t]) M cf_X1_columnOf wM_X0_53 (c_columnOf0 (S := uI (uI (uI (uR (uI (uM (uI (uI (uI (uI (uI S 8 a 0) 9 a 0) 10 a 1) 12 a 0) 13 a 0) 14 a none) 15 a 0) 0 a (some g)) 1 a n) 2 a t) 3 a (m_rowOf0 (uI (uI (uR (uI (uM (uI (uI (uI (uI (uI S 8 a 0) 9 a 0) 10 a 1) 12 a 0) 13 a 0) 14 a none) 15 a 0) 0 a (some g)) 1 a n) 2 a t) g t)) hg t) hg.1 (pAt_1 E _ hg.2) rfl rfl ⟨Nat.le_of_ble_eq_true rfl, Nat.le_of_ble_eq_true rfl⟩ (Nat.le_of_ble_eq_true rfl) ⟨Nat.le_of_ble_eq_true rfl, Nat.le_of_ble_eq_true rfl⟩ dX0_init_66 rfl ?_
  refine j_put (host := "") (S2 := uI (uI (uI (uI (uR (uI (uM (uI (uI (uI (uI (uI S 8 a 0) 9 a 0) 10 a 1) 12 a 0) 13 a 0) 14 a none) 15 a 0) 0 a (some g)) 1 a n) 2 a t) 3 a (m_rowOf0 (uI (uI (uR (uI (uM (uI (uI (uI (uI (uI S 8 a 0) 9 a 0) 10 a 1) 12 a 0) 13 a 0) 14 a none) 15 a 0) 0 a (some g)) 1 a n) 2 a t) g t)) 4 a (m_columnOf0 (uI (uI (uI (uR (uI (uM (uI (uI (uI (uI (uI S 8 a 0) 9 a 0) 10 a 1) 12 a 0) 13 a 0) 14 a none) 15 a 0) 0 a (some g)) 1 a n) 2 a t) 3 a (m_rowOf0 (uI (uI (uR (uI (uM (uI (uI (uI (uI (uI S 8 a 0) 9 a 0) 10 a 1) 12 a 0) 13 a 0) 14 a none) 15 a 0) 0 a (some g)) 1 a n) 2 a t) g t)) g t)) M ha.1 (pAt_0 E _ ha.2) rfl inU_X0 4 (by decide) tyX0 tyX0_ok nmX0 wF_X0_56 (fun _ h => h) rfl (tyX0_ok 4 (by decide)) rfl rfl (Nat.le_of_ble_eq_true rfl) rfl (pUp_4 E (uI (uI (uI (uR (uI (uM (uI (uI (uI (uI (uI S 8 a 0) 9 a 0) 10 a 1) 12 a 0) 13 a 0) 14 a none) 15 a 0) 0 a (some g)) 1 a n) 2 a t) 3 a (m_rowOf0 (uI (uI (uR (uI (uM (uI (uI (uI (uI (uI S 8 a 0) 9 a 0) 10 a 1) 12 a 0) 13 a 0) 14 a none) 15 a 0) 0 a (some g)) 1 a n) 2 a t) g t)) ha.2 (m_columnOf0 (uI (uI (uI (uR (uI (uM (uI (uI (uI (uI (uI S 8 a 0) 9 a 0) 10 a 1) 12 a 0) 13 a 0) 14 a none) 15 a 0) 0 a (some g)) 1 a n) 2 a t) 3 a (m_rowOf0 (uI (uI (uR (uI (uM (uI (uI (uI (uI (uI S 8 a 0) 9 a 0) 10 a 1) 12 a 0) 13 a 0) 14 a none) 15 a 0) 0 a (some g)) 1 a n) 2 a t) g t)) g t)) dX0_init_69 ?_
  refine j_aload_n M dX0_init_72 rfl ?_
  refine j_iload M dX0_init_73 rfl ?_
  refine j_put (host := "") (S2 := uI (uI (uI (uI (uI (uR (uI (uM (uI (uI (uI (uI (uI S 8 a 0) 9 a 0) 10 a 1) 12 a 0) 13 a 0) 14 a none) 15 a 0) 0 a (some g)) 1 a n) 2 a t) 3 a (m_rowOf0 (uI (uI (uR (uI (uM (uI (uI (uI (uI (uI S 8 a 0) 9 a 0) 10 a 1) 12 a 0) 13 a 0) 14 a none) 15 a 0) 0 a (some g)) 1 a n) 2 a t) g t)) 4 a (m_columnOf0 (uI (uI (uI (uR (uI (uM (uI (uI (uI (uI (uI S 8 a 0) 9 a 0) 10 a 1) 12 a 0) 13 a 0) 14 a none) 15 a 0) 0 a (some g)) 1 a n) 2 a t) 3 a (m_rowOf0 (uI (uI (uR (uI (uM (uI (uI (uI (uI (uI S 8 a 0) 9 a 0) 10 a 1) 12 a 0) 13 a 0) 14 a none) 15 a 0) 0 a (some g)) 1 a n) 2 a t) g t)) g t)) 5 a m1) M ha.1 (pAt_0 E _ ha.2) rfl inU_X0 5 (by decide) tyX0 tyX0_ok nmX0 wF_X0_59 (fun _ h => h) rfl (tyX0_ok 5 (by decide)) rfl rfl (Nat.le_of_ble_eq_true rfl) rfl (pUp_5 E (uI (uI (uI (uI (uR (uI (uM (uI (uI (uI (uI (uI S 8 a 0) 9 a 0) 10 a 1) 12 a 0) 13 a 0) 14 a none) 15 a 0) 0 a (some g)) 1 a n) 2 a t) 3 a (m_rowOf0 (uI (uI (uR (uI (uM (uI (uI (uI (uI (uI S 8 a 0) 9 a 0) 10 a 1) 12 a 0) 13 a 0) 14 a none) 15 a 0) 0 a (some g)) 1 a n) 2 a t) g t)) 4 a (m_columnOf0 (uI (uI (uI (uR (uI (uM (uI (uI (uI (uI (uI S 8 a 0) 9 a 0) 10 a 1) 12 a 0) 13 a 0) 14 a none) 15 a 0) 0 a (some g)) 1 a n) 2 a t) 3 a (m_rowOf0 (uI (uI (uR (uI (uM (uI (uI (uI (uI (uI S 8 a 0) 9 a 0) 10 a 1) 12 a 0) 13 a 0) 14 a none) 15 a 0) 0 a (some g)) 1 a n) 2 a t) g t)) g t)) ha.2 m1) dX0_init_75 ?_
  refine j_aload_n M dX0_init_78 rfl ?_
  refine j_iload M dX0_init_79 rfl ?_
  refine j_put (host := "") (S2 := uI (uI (uI (uI (uI (uI (uR (uI (uM (uI (uI (uI (uI (uI S 8 a 0) 9 a 0) 10 a 1) 12 a 0) 13 a 0) 14 a none) 15 a 0) 0 a (some g)) 1 a n) 2 a t) 3 a (m_rowOf0 (uI (uI (uR (uI (uM (uI (uI (uI (uI (uI S 8 a 0) 9 a 0) 10 a 1) 12 a 0) 13 a 0) 14 a none) 15 a 0) 0 a (some g)) 1 a n) 2 a t) g t)) 4 a (m_columnOf0 (uI (uI (uI (uR (uI (uM (uI (uI (uI (uI (uI S 8 a 0) 9 a 0) 10 a 1) 12 a 0) 13 a 0) 14 a none) 15 a 0) 0 a (some g)) 1 a n) 2 a t) 3 a (m_rowOf0 (uI (uI (uR (uI (uM (uI (uI (uI (uI (uI S 8 a 0) 9 a 0) 10 a 1) 12 a 0) 13 a 0) 14 a none) 15 a 0) 0 a (some g)) 1 a n) 2 a t) g t)) g t)) 5 a m1) 6 a r) M ha.1 (pAt_0 E _ ha.2) rfl inU_X0 6 (by decide) tyX0 tyX0_ok nmX0 wF_X0_62 (fun _ h => h) rfl (tyX0_ok 6 (by decide)) rfl rfl (Nat.le_of_ble_eq_true rfl) rfl (pUp_6 E (uI (uI (uI (uI (uI (uR (uI (uM (uI (uI (uI (uI (uI S 8 a 0) 9 a 0) 10 a 1) 12 a 0) 13 a 0) 14 a none) 15 a 0) 0 a (some g)) 1 a n) 2 a t) 3 a (m_rowOf0 (uI (uI (uR (uI (uM (uI (uI (uI (uI (uI S 8 a 0) 9 a 0) 10 a 1) 12 a 0) 13 a 0) 14 a none) 15 a 0) 0 a (some g)) 1 a n) 2 a t) g t)) 4 a (m_columnOf0 (uI (uI (uI (uR (uI (uM (uI (uI (uI (uI (uI S 8 a 0) 9 a 0) 10 a 1) 12 a 0) 13 a 0) 14 a none) 15 a 0) 0 a (some g)) 1 a n) 2 a t) 3 a (m_rowOf0 (uI (uI (uR (uI (uM (uI (uI (uI (uI (uI S 8 a 0) 9 a 0) 10 a 1) 12 a 0) 13 a 0) 14 a none) 15 a 0) 0 a (some g)) 1 a n) 2 a t) g t)) g t)) 5 a m1) ha.2 r) dX0_init_81 ?_
  refine j_aload_n M dX0_init_84 rfl ?_
  refine j_iload M dX0_init_85 rfl ?_
  refine j_put (host := "") (S2 := uI (uI (uI (uI (uI (uI (uI (uR (uI (uM (uI (uI (uI (uI (uI S 8 a 0) 9 a 0) 10 a 1) 12 a 0) 13 a 0) 14 a none) 15 a 0) 0 a (some g)) 1 a n) 2 a t) 3 a (m_rowOf0 (uI (uI (uR (uI (uM (uI (uI (uI (uI (uI S 8 a 0) 9 a 0) 10 a 1) 12 a 0) 13 a 0) 14 a none) 15 a 0) 0 a (some g)) 1 a n) 2 a t) g t)) 4 a (m_columnOf0 (uI (uI (uI (uR (uI (uM (uI (uI (uI (uI (uI S 8 a 0) 9 a 0) 10 a 1) 12 a 0) 13 a 0) 14 a none) 15 a 0) 0 a (some g)) 1 a n) 2 a t) 3 a (m_rowOf0 (uI (uI (uR (uI (uM (uI (uI (uI (uI (uI S 8 a 0) 9 a 0) 10 a 1) 12 a 0) 13 a 0) 14 a none) 15 a 0) 0 a (some g)) 1 a n) 2 a t) g t)) g t)) 5 a m1) 6 a r) 7 a o) M ha.1 (pAt_0 E _ ha.2) rfl inU_X0 7 (by decide) tyX0 tyX0_ok nmX0 wF_X0_65 (fun _ h => h) rfl (tyX0_ok 7 (by decide)) rfl rfl (Nat.le_of_ble_eq_true rfl) rfl (pUp_7 E (uI (uI (uI (uI (uI (uI (uR (uI (uM (uI (uI (uI (uI (uI S 8 a 0) 9 a 0) 10 a 1) 12 a 0) 13 a 0) 14 a none) 15 a 0) 0 a (some g)) 1 a n) 2 a t) 3 a (m_rowOf0 (uI (uI (uR (uI (uM (uI (uI (uI (uI (uI S 8 a 0) 9 a 0) 10 a 1) 12 a 0) 13 a 0) 14 a none) 15 a 0) 0 a (some g)) 1 a n) 2 a t) g t)) 4 a (m_columnOf0 (uI (uI (uI (uR (uI (uM (uI (uI (uI (uI (uI S 8 a 0) 9 a 0) 10 a 1) 12 a 0) 13 a 0) 14 a none) 15 a 0) 0 a (some g)) 1 a n) 2 a t) 3 a (m_rowOf0 (uI (uI (uR (uI (uM (uI (uI (uI (uI (uI S 8 a 0) 9 a 0) 10 a 1) 12 a 0) 13 a 0) 14 a none) 15 a 0) 0 a (some g)) 1 a n) 2 a t) g t)) g t)) 5 a m1) 6 a r) ha.2 o) dX0_init_87 ?_
  refine j_aload_n M dX0_init_90 rfl ?_
  refine j_iload M dX0_init_91 rfl ?_
  refine j_iconst (v := 1) M dX0_init_93 (by decide +kernel) ?_
  refine j_isub M dX0_init_94 ?_
  refine j_put (host := "") (S2 := uI (uI (uI (uI (uI (uI (uI (uI (uR (uI (uM (uI (uI (uI (uI (uI S 8 a 0) 9 a 0) 10 a 1) 12 a 0) 13 a 0) 14 a none) 15 a 0) 0 a (some g)) 1 a n) 2 a t) 3 a (m_rowOf0 (uI (uI (uR (uI (uM (uI (uI (uI (uI (uI S 8 a 0) 9 a 0) 10 a 1) 12 a 0) 13 a 0) 14 a none) 15 a 0) 0 a (some g)) 1 a n) 2 a t) g t)) 4 a (m_columnOf0 (uI (uI (uI (uR (uI (uM (uI (uI (uI (uI (uI S 8 a 0) 9 a 0) 10 a 1) 12 a 0) 13 a 0) 14 a none) 15 a 0) 0 a (some g)) 1 a n) 2 a t) 3 a (m_rowOf0 (uI (uI (uR (uI (uM (uI (uI (uI (uI (uI S 8 a 0) 9 a 0) 10 a 1) 12 a 0) 13 a 0) 14 a none) 15 a 0) 0 a (some g)) 1 a n) 2 a t) g t)) g t)) 5 a m1) 6 a r) 7 a o) 11 a (m1 - 1)) M ha.1 (pAt_0 E _ ha.2) rfl inU_X0 11 (by decide) tyX0 tyX0_ok nmX0 wF_X0_68 (fun _ h => h) rfl (tyX0_ok 11 (by decide)) rfl rfl (Nat.le_of_ble_eq_true rfl) rfl (pUp_11 E (uI (uI (uI (uI (uI (uI (uI (uR (uI (uM (uI (uI (uI (uI (uI S 8 a 0) 9 a 0) 10 a 1) 12 a 0) 13 a 0) 14 a none) 15 a 0) 0 a (some g)) 1 a n) 2 a t) 3 a (m_rowOf0 (uI (uI (uR (uI (uM (uI (uI (uI (uI (uI S 8 a 0) 9 a 0) 10 a 1) 12 a 0) 13 a 0) 14 a none) 15 a 0) 0 a (some g)) 1 a n) 2 a t) g t)) 4 a (m_columnOf0 (uI (uI (uI (uR (uI (uM (uI (uI (uI (uI (uI S 8 a 0) 9 a 0) 10 a 1) 12 a 0) 13 a 0) 14 a none) 15 a 0) 0 a (some g)) 1 a n) 2 a t) 3 a (m_rowOf0 (uI (uI (uR (uI (uM (uI (uI (uI (uI (uI S 8 a 0) 9 a 0) 10 a 1) 12 a 0) 13 a 0) 14 a none) 15 a 0) 0 a (some g)) 1 a n) 2 a t) g t)) g t)) 5 a m1) 6 a r) 7 a o) ha.2 (m1 - 1)) dX0_init_95 ?_
  exact j_vret M dX0_init_98 (Nat.le_refl _) (Nat.le_refl _) ⟨rfl, rfl⟩
abbrev n_Ground (S : PS) (a q1 : Nat) : PS := uI (uI (uR (nwA S q1 196 (fun _ => 0)) 16 a (some q1)) 17 a 0) 18 a 0
theorem keep_Ground {d : Nat} {S : PS} {a q1 : Nat} {o k : Nat} (h : InK S o k) (hq1 : q1 ∉ sL S) : InK (n_Ground S a q1) o k := ⟨(List.mem_append_left _ h.1), ((va_up_ne _ _ (nel h.1 hq1)).trans h.2)⟩
theorem cf_X1_init : CFi yX1_init cX1_init 1 0 := ⟨wC_X1_init, wI_X1_init, wN_X1, by decide +kernel⟩
set_option maxHeartbeats 4000000 in
set_option maxRecDepth 100000 in
theorem ci_Ground {l : Launch} {E : EV} {S : PS} {a : Nat} (ha : InK S a 1) : CT l yX1_init cX1_init 1 none 1 12 1 196 E [.ref a] S (fun v u => v = none ∧ ∃ q1 : Nat, q1 ∉ sL S ∧ u = n_Ground S a q1) := by
  refine CT.of (by decide) (Nat.le_of_ble_eq_true rfl) ?_
  intro p e s m below meth c M hin
  have M : MC E p s m _ meth c cX1_init RX1 1 none := M
  show J p l e _ s m _ below meth c _ E 1 0 [(0, .ref a)] [] S 0 0
  refine j_aload_n M dX1_init_0 rfl ?_
  refine j_obj M wM_X1_3 wI_objectInit wC_objectInit dX1_init_1 (Nat.le_of_ble_eq_true rfl) (Nat.le_of_ble_eq_true rfl) ?_
  refine j_aload_n M dX1_init_4 rfl ?_
  refine j_sipush (v := 196) M dX1_init_5 (by decide +kernel) ?_
  refine j_newi M (by decide) (by decide) ⟨Nat.le_of_ble_eq_true rfl, Nat.le_of_ble_eq_true rfl⟩ dX1_init_8 (fun q1 hq1 => ?_)
  have ha_5 := ink_nwA (n := 196) (r := fun _ => 0) ha hq1
  have hn_q1 := ink_nA (S := S) (q := q1) (n := 196) (r := fun _ => 0)
  show J p l e _ s m _ below meth c _ E 1 10 [(0, .ref a)] [.ref q1, .ref a] (nwA S q1 196 (fun _ => 0)) 1 196
  refine j_putF (host := "") (S2 := uR (nwA S q1 196 (fun _ => 0)) 16 a (some q1)) M ha_5.1 (pAt_1 E _ ha_5.2) rfl inU_X1 0 (by decide) tyX1 tyX1_ok nmX1 wF_X1_9 (fun _ h => h) rfl hin rfl (tyX1_ok 0 (by decide)) rfl rfl (Nat.le_of_ble_eq_true rfl) rfl (pUp_16 E (nwA S q1 196 (fun _ => 0)) ha_5.2 (some q1)) dX1_init_10 ?_
  refine j_aload_n M dX1_init_13 rfl ?_
  refine j_iconst (v := 0) M dX1_init_14 (by decide +kernel) ?_
  refine j_put (host := "") (S2 := uI (uR (nwA S q1 196 (fun _ => 0)) 16 a (some q1)) 17 a 0) M ha_5.1 (pAt_1 E _ ha_5.2) rfl inU_X1 1 (by decide) tyX1 tyX1_ok nmX1 wF_X1_15 (fun _ h => h) rfl (tyX1_ok 1 (by decide)) rfl rfl (Nat.le_of_ble_eq_true rfl) rfl (pUp_17 E (uR (nwA S q1 196 (fun _ => 0)) 16 a (some q1)) ha_5.2 0) dX1_init_15 ?_
  refine j_aload_n M dX1_init_18 rfl ?_
  refine j_iconst (v := 0) M dX1_init_19 (by decide +kernel) ?_
  refine j_put (host := "") (S2 := uI (uI (uR (nwA S q1 196 (fun _ => 0)) 16 a (some q1)) 17 a 0) 18 a 0) M ha_5.1 (pAt_1 E _ ha_5.2) rfl inU_X1 2 (by decide) tyX1 tyX1_ok nmX1 wF_X1_19 (fun _ h => h) rfl (tyX1_ok 2 (by decide)) rfl rfl (Nat.le_of_ble_eq_true rfl) rfl (pUp_18 E (uI (uR (nwA S q1 196 (fun _ => 0)) 16 a (some q1)) 17 a 0) ha_5.2 0) dX1_init_20 ?_
  exact j_vret M dX1_init_23 (Nat.le_refl _) (Nat.le_refl _) ⟨rfl, q1, hq1, rfl⟩
abbrev n_Plans (S : PS) (a site tr q1 q2 q3 q4 : Nat) : PS := uR (uR (uR (nwA (uR (nwA (uR (nwA (uR (nwA S q1 196 (fun _ => 0)) 25 a (some q1)) q2 72 (fun _ => 0)) 26 a (some q2)) q3 4 (fun _ => 0)) 27 a (some q3)) q4 4 (fun _ => 0)) 28 a (some q4)) 23 a (some site)) 24 a (some tr)
theorem keep_Plans {d : Nat} {S : PS} {a site tr q1 q2 q3 q4 : Nat} {o k : Nat} (h : InK S o k) (hq1 : q1 ∉ sL S) (hq2 : q2 ∉ (sL S ++ [q1])) (hq3 : q3 ∉ ((sL S ++ [q1]) ++ [q2])) (hq4 : q4 ∉ (((sL S ++ [q1]) ++ [q2]) ++ [q3])) : InK (n_Plans S a site tr q1 q2 q3 q4) o k := ⟨(List.mem_append_left _ (List.mem_append_left _ (List.mem_append_left _ (List.mem_append_left _ h.1)))), ((va_up_ne _ _ (nel (List.mem_append_left _ (List.mem_append_left _ (List.mem_append_left _ h.1))) hq4)).trans ((va_up_ne _ _ (nel (List.mem_append_left _ (List.mem_append_left _ h.1)) hq3)).trans ((va_up_ne _ _ (nel (List.mem_append_left _ h.1) hq2)).trans ((va_up_ne _ _ (nel h.1 hq1)).trans h.2))))⟩
theorem cf_X3_init : CFi yX3_init cX3_init 2 1 := ⟨wC_X3_init, wI_X3_init, wN_X3, by decide +kernel⟩
set_option maxHeartbeats 4000000 in
set_option maxRecDepth 100000 in
theorem ci_Plans {l : Launch} {E : EV} {S : PS} {a : Nat} (ha : InK S a 3) {site : Nat} (hsite : InK S site 5) {tr : Nat} (htr : sR S 38 site = some tr) : CT l yX3_init cX3_init 2 none 1 12 4 276 E [.ref a, .ref site] S (fun v u => v = none ∧ ∃ q1 : Nat, q1 ∉ sL S ∧ ∃ q2 : Nat, q2 ∉ (sL S ++ [q1]) ∧ ∃ q3 : Nat, q3 ∉ ((sL S ++ [q1]) ++ [q2]) ∧ ∃ q4 : Nat, q4 ∉ (((sL S ++ [q1]) ++ [q2]) ++ [q3]) ∧ u = n_Plans S a site tr q1 q2 q3 q4) := by
  refine CT.of (by decide) (Nat.le_of_ble_eq_true rfl) ?_
  intro p e s m below meth c M hin
  have M : MC E p s m _ meth c cX3_init RX3 2 none := M
  show J p l e _ s m _ below meth c _ E 2 0 [(0, .ref a), (1, .ref site)] [] S 0 0
  refine j_aload_n M dX3_init_0 rfl ?_
  refine j_obj M wM_X3_3 wI_objectInit wC_objectInit dX3_init_1 (Nat.le_of_ble_eq_true rfl) (Nat.le_of_ble_eq_true rfl) ?_
  refine j_aload_n M dX3_init_4 rfl ?_
  refine j_sipush (v := 196) M dX3_init_5 (by decide +kernel) ?_
  refine j_newi M (by decide) (by decide) ⟨Nat.le_of_ble_eq_true rfl, Nat.le_of_ble_eq_true rfl⟩ dX3_init_8 (fun q1 hq1 => ?_)
  have ha_5 := ink_nwA (n := 196) (r := fun _ => 0) ha hq1
  have hsite_6 := ink_nwA (n := 196) (r := fun _ => 0) hsite hq1
  have hn_q1 := ink_nA (S := S) (q := q1) (n := 196) (r := fun _ => 0)
  show J p l e _ s m _ below meth c _ E 2 10 [(0, .ref a), (1, .ref site)] [.ref q1, .ref a] (nwA S q1 196 (fun _ => 0)) 1 196
  refine j_putF (host := "") (S2 := uR (nwA S q1 196 (fun _ => 0)) 25 a (some q1)) M ha_5.1 (pAt_3 E _ ha_5.2) rfl inU_X3 2 (by decide) tyX3 tyX3_ok nmX3 wF_X3_9 (fun _ h => h) rfl hin rfl (tyX3_ok 2 (by decide)) rfl rfl (Nat.le_of_ble_eq_true rfl) rfl (pUp_25 E (nwA S q1 196 (fun _ => 0)) ha_5.2 (some q1)) dX3_init_10 ?_
  refine j_aload_n M dX3_init_13 rfl ?_
  refine j_bipush (v := 72) M dX3_init_14 (by decide +kernel) ?_
  refine j_newi M (by decide) (by decide) ⟨Nat.le_of_ble_eq_true rfl, Nat.le_of_ble_eq_true rfl⟩ dX3_init_16 (fun q2 hq2 => ?_)
  have ha_13 := ink_nwA (n := 72) (r := fun _ => 0) ha_5 hq2
  have hsite_14 := ink_nwA (n := 72) (r := fun _ => 0) hsite_6 hq2
  have hn_15 := ink_nwA (n := 72) (r := fun _ => 0) hn_q1 hq2
  have hn_q2 := ink_nA (S := uR (nwA S q1 196 (fun _ => 0)) 25 a (some q1)) (q := q2) (n := 72) (r := fun _ => 0)
  show J p l e _ s m _ below meth c _ E 2 18 [(0, .ref a), (1, .ref site)] [.ref q2, .ref a] (nwA (uR (nwA S q1 196 (fun _ => 0)) 25 a (some q1)) q2 72 (fun _ => 0)) 2 268
  refine j_putF (host := "") (S2 := uR (nwA (uR (nwA S q1 196 (fun _ => 0)) 25 a (some q1)) q2 72 (fun _ => 0)) 26 a (some q2)) M ha_13.1 (pAt_3 E _ ha_13.2) rfl inU_X3 3 (by decide) tyX3 tyX3_ok nmX3 wF_X3_15 (fun _ h => h) rfl hin rfl (tyX3_ok 3 (by decide)) rfl rfl (Nat.le_of_ble_eq_true rfl) rfl (pUp_26 E (nwA (uR (nwA S q1 196 (fun _ => 0)) 25 a (some q1)) q2 72 (fun _ => 0)) ha_13.2 (some q2)) dX3_init_18 ?_
  refine j_aload_n M dX3_init_21 rfl ?_
  refine j_iconst (v := 4) M dX3_init_22 (by decide +kernel) ?_
  refine j_newi M (by decide) (by decide) ⟨Nat.le_of_ble_eq_true rfl, Nat.le_of_ble_eq_true rfl⟩ dX3_init_23 (fun q3 hq3 => ?_)
  have ha_22 := ink_nwA (n := 4) (r := fun _ => 0) ha_13 hq3
  have hsite_23 := ink_nwA (n := 4) (r := fun _ => 0) hsite_14 hq3
  have hn_24 := ink_nwA (n := 4) (r := fun _ => 0) hn_15 hq3
  have hn_25 := ink_nwA (n := 4) (r := fun _ => 0) hn_q2 hq3
  have hn_q3 := ink_nA (S := uR (nwA (uR (nwA S q1 196 (fun _ => 0)) 25 a (some q1)) q2 72 (fun _ => 0)) 26 a (some q2)) (q := q3) (n := 4) (r := fun _ => 0)
  show J p l e _ s m _ below meth c _ E 2 25 [(0, .ref a), (1, .ref site)] [.ref q3, .ref a] (nwA (uR (nwA (uR (nwA S q1 196 (fun _ => 0)) 25 a (some q1)) q2 72 (fun _ => 0)) 26 a (some q2)) q3 4 (fun _ => 0)) 3 272
  refine j_putF (host := "") (S2 := uR (nwA (uR (nwA (uR (nwA S q1 196 (fun _ => 0)) 25 a (some q1)) q2 72 (fun _ => 0)) 26 a (some q2)) q3 4 (fun _ => 0)) 27 a (some q3)) M ha_22.1 (pAt_3 E _ ha_22.2) rfl inU_X3 4 (by decide) tyX3 tyX3_ok nmX3 wF_X3_18 (fun _ h => h) rfl hin rfl (tyX3_ok 4 (by decide)) rfl rfl (Nat.le_of_ble_eq_true rfl) rfl (pUp_27 E (nwA (uR (nwA (uR (nwA S q1 196 (fun _ => 0)) 25 a (some q1)) q2 72 (fun _ => 0)) 26 a (some q2)) q3 4 (fun _ => 0)) ha_22.2 (some q3)) dX3_init_25 ?_
  refine j_aload_n M dX3_init_28 rfl ?_
  refine j_iconst (v := 4) M dX3_init_29 (by decide +kernel) ?_
  refine j_newi M (by decide) (by decide) ⟨Nat.le_of_ble_eq_true rfl, Nat.le_of_ble_eq_true rfl⟩ dX3_init_30 (fun q4 hq4 => ?_)
  have ha_32 := ink_nwA (n := 4) (r := fun _ => 0) ha_22 hq4
  have hsite_33 := ink_nwA (n := 4) (r := fun _ => 0) hsite_23 hq4
  have hn_34 := ink_nwA (n := 4) (r := fun _ => 0) hn_24 hq4
  have hn_35 := ink_nwA (n := 4) (r := fun _ => 0) hn_25 hq4
  have hn_36 := ink_nwA (n := 4) (r := fun _ => 0) hn_q3 hq4
  have hn_q4 := ink_nA (S := uR (nwA (uR (nwA (uR (nwA S q1 196 (fun _ => 0)) 25 a (some q1)) q2 72 (fun _ => 0)) 26 a (some q2)) q3 4 (fun _ => 0)) 27 a (some q3)) (q := q4) (n := 4) (r := fun _ => 0)
  show J p l e _ s m _ below meth c _ E 2 32 [(0, .ref a), (1, .ref site)] [.ref q4, .ref a] (nwA (uR (nwA (uR (nwA (uR (nwA S q1 196 (fun _ => 0)) 25 a (some q1)) q2 72 (fun _ => 0)) 26 a (some q2)) q3 4 (fun _ => 0)) 27 a (some q3)) q4 4 (fun _ => 0)) 4 276
  refine j_putF (host := "") (S2 := uR (nwA (uR (nwA (uR (nwA (uR (nwA S q1 196 (fun _ => 0)) 25 a (some q1)) q2 72 (fun _ => 0)) 26 a (some q2)) q3 4 (fun _ => 0)) 27 a (some q3)) q4 4 (fun _ => 0)) 28 a (some q4)) M ha_32.1 (pAt_3 E _ ha_32.2) rfl inU_X3 5 (by decide) tyX3 tyX3_ok nmX3 wF_X3_21 (fun _ h => h) rfl hin rfl (tyX3_ok 5 (by decide)) rfl rfl (Nat.le_of_ble_eq_true rfl) rfl (pUp_28 E (nwA (uR (nwA (uR (nwA (uR (nwA S q1 196 (fun _ => 0)) 25 a (some q1)) q2 72 (fun _ => 0)) 26 a (some q2)) q3 4 (fun _ => 0)) 27 a (some q3)) q4 4 (fun _ => 0)) ha_32.2 (some q4)) dX3_init_32 ?_
  refine j_aload_n M dX3_init_35 rfl ?_
  refine j_aload_n M dX3_init_36 rfl ?_
  refine j_putF (host := "") (S2 := uR (uR (nwA (uR (nwA (uR (nwA (uR (nwA S q1 196 (fun _ => 0)) 25 a (some q1)) q2 72 (fun _ => 0)) 26 a (some q2)) q3 4 (fun _ => 0)) 27 a (some q3)) q4 4 (fun _ => 0)) 28 a (some q4)) 23 a (some site)) M ha_32.1 (pAt_3 E _ ha_32.2) rfl inU_X3 0 (by decide) tyX3 tyX3_ok nmX3 wF_X3_24 (fun _ h => h) rfl hin rfl (tyX3_ok 0 (by decide)) rfl rfl (Nat.le_of_ble_eq_true rfl) rfl (pUp_23 E (uR (nwA (uR (nwA (uR (nwA (uR (nwA S q1 196 (fun _ => 0)) 25 a (some q1)) q2 72 (fun _ => 0)) 26 a (some q2)) q3 4 (fun _ => 0)) 27 a (some q3)) q4 4 (fun _ => 0)) 28 a (some q4)) ha_32.2 (some site)) dX3_init_37 ?_
  refine j_aload_n M dX3_init_40 rfl ?_
  refine j_aload_n M dX3_init_41 rfl ?_
  refine j_getN (v := .ref tr) M hsite_33.1 (pAt_5 E _ hsite_33.2) rfl inU_X5 6 (by decide) nF_X3_28 (fun _ h => h) (rfv htr) dX3_init_42 ?_
  refine j_putF (host := "") (S2 := uR (uR (uR (nwA (uR (nwA (uR (nwA (uR (nwA S q1 196 (fun _ => 0)) 25 a (some q1)) q2 72 (fun _ => 0)) 26 a (some q2)) q3 4 (fun _ => 0)) 27 a (some q3)) q4 4 (fun _ => 0)) 28 a (some q4)) 23 a (some site)) 24 a (some tr)) M ha_32.1 (pAt_3 E _ ha_32.2) rfl inU_X3 1 (by decide) tyX3 tyX3_ok nmX3 wF_X3_34 (fun _ h => h) rfl hin rfl (tyX3_ok 1 (by decide)) rfl rfl (Nat.le_of_ble_eq_true rfl) rfl (pUp_24 E (uR (uR (nwA (uR (nwA (uR (nwA (uR (nwA S q1 196 (fun _ => 0)) 25 a (some q1)) q2 72 (fun _ => 0)) 26 a (some q2)) q3 4 (fun _ => 0)) 27 a (some q3)) q4 4 (fun _ => 0)) 28 a (some q4)) 23 a (some site)) ha_32.2 (some tr)) dX3_init_45 ?_
  exact j_vret M dX3_init_48 (Nat.le_refl _) (Nat.le_refl _) ⟨rfl, q1, hq1, q2, hq2, q3, hq3, q4, hq4, rfl⟩
abbrev n_Site (d : Nat) (S : PS) (a g q1 q2 q3 q4 q5 q6 : Nat) : PS := (uR (n_Crane (nw (uR (uI (uI (uI (uR (n_Report (nw (uR (n_list d (nw (uR (n_list d (nw (uR (n_list d (nw (uR (n_list d (nw S q1 8) q1) 33 a (some q1)) q2 8) q2) 34 a (some q2)) q3 8) q3) 35 a (some q3)) q4 8) q4) 36 a (some q4)) q5 4) q5 0 0 0) 37 a (some q5)) 39 a 0) 40 a 0) 41 a 0) 32 a (some g)) q6 0) q6 g ((-1)) 0 3 2 5) 38 a (some q6))
theorem keep_Site {d : Nat} {S : PS} {a g q1 q2 q3 q4 q5 q6 : Nat} {o k : Nat} (h : InK S o k) (hq1 : q1 ∉ sL S) (hq2 : q2 ∉ (sL S ++ [q1])) (hq3 : q3 ∉ ((sL S ++ [q1]) ++ [q2])) (hq4 : q4 ∉ (((sL S ++ [q1]) ++ [q2]) ++ [q3])) (hq5 : q5 ∉ ((((sL S ++ [q1]) ++ [q2]) ++ [q3]) ++ [q4])) (hq6 : q6 ∉ (((((sL S ++ [q1]) ++ [q2]) ++ [q3]) ++ [q4]) ++ [q5])) : InK (n_Site d S a g q1 q2 q3 q4 q5 q6) o k := ⟨(List.mem_append_left _ (List.mem_append_left _ (List.mem_append_left _ (List.mem_append_left _ (List.mem_append_left _ (List.mem_append_left _ h.1)))))), ((va_up_ne _ _ (nel (List.mem_append_left _ (List.mem_append_left _ (List.mem_append_left _ (List.mem_append_left _ (List.mem_append_left _ h.1))))) hq6)).trans ((va_up_ne _ _ (nel (List.mem_append_left _ (List.mem_append_left _ (List.mem_append_left _ (List.mem_append_left _ h.1)))) hq5)).trans ((va_up_ne _ _ (nel (List.mem_append_left _ (List.mem_append_left _ (List.mem_append_left _ h.1))) hq4)).trans ((va_up_ne _ _ (nel (List.mem_append_left _ (List.mem_append_left _ h.1)) hq3)).trans ((va_up_ne _ _ (nel (List.mem_append_left _ h.1) hq2)).trans ((va_up_ne _ _ (nel h.1 hq1)).trans h.2))))))⟩
theorem cf_X5_init : CFi yX5_init cX5_init 2 1 := ⟨wC_X5_init, wI_X5_init, wN_X5, by decide +kernel⟩
set_option maxHeartbeats 4000000 in
set_option maxRecDepth 100000 in
theorem ci_Site {l : Launch} {E : EV} {S : PS} {a : Nat} (ha : InK S a 5) {g : Nat} (hg : InK S g 1) : CT l yX5_init cX5_init 2 none 4 72 6 31 E [.ref a, .ref g] S (fun v u => v = none ∧ ∃ q1 : Nat, q1 ∉ sL S ∧ ∃ q2 : Nat, q2 ∉ (sL S ++ [q1]) ∧ ∃ q3 : Nat, q3 ∉ ((sL S ++ [q1]) ++ [q2]) ∧ ∃ q4 : Nat, q4 ∉ (((sL S ++ [q1]) ++ [q2]) ++ [q3]) ∧ ∃ q5 : Nat, q5 ∉ ((((sL S ++ [q1]) ++ [q2]) ++ [q3]) ++ [q4]) ∧ ∃ q6 : Nat, q6 ∉ (((((sL S ++ [q1]) ++ [q2]) ++ [q3]) ++ [q4]) ++ [q5]) ∧ u = n_Site (eDF E) S a g q1 q2 q3 q4 q5 q6) := by
  refine CT.of (by decide) (Nat.le_of_ble_eq_true rfl) ?_
  intro p e s m below meth c M hin
  have M : MC E p s m _ meth c cX5_init RX5 2 none := M
  show J p l e _ s m _ below meth c _ E 2 0 [(0, .ref a), (1, .ref g)] [] S 0 0
  refine j_aload_n M dX5_init_0 rfl ?_
  refine j_obj M wM_X5_3 wI_objectInit wC_objectInit dX5_init_1 (Nat.le_of_ble_eq_true rfl) (Nat.le_of_ble_eq_true rfl) ?_
  refine j_aload_n M dX5_init_4 rfl ?_
  refine j_new (k := 8) M rfl inU_Jx4a65c tyJx4a65c tyJx4a65c_ok wL_X5_9 wX_Jx4a65c wN_Jx4a65c (fun j hj => match j, hj with | 0, _ => rfl | 1, _ => rfl | 2, _ => rfl | _ + 3, h => absurd h (by omega)) (fun q b => pNw_8 E _ q b) ⟨Nat.le_of_ble_eq_true rfl, Nat.le_of_ble_eq_true rfl⟩ dX5_init_5 (fun q1 hq1 => ?_)
  refine j_gen (fun S1 e1 => ?_)
  have f1_a : InK S1 a 5 := by rw [e1]; exact ink_nw ha hq1
  have f1_g : InK S1 g 1 := by rw [e1]; exact ink_nw hg hq1
  have f1_q1 : InK S1 q1 8 := by rw [e1]; exact ink_n
  refine j_dup M dX5_init_8 rfl ?_
  refine j_callI0 (As := []) M cf_Linit wM_X5_11 (c_Linit (S := S1) f1_q1) rfl ⟨Nat.le_of_ble_eq_true rfl, Nat.le_of_ble_eq_true rfl⟩ (Nat.le_of_ble_eq_true rfl) ⟨Nat.le_of_ble_eq_true rfl, Nat.le_of_ble_eq_true rfl⟩ dX5_init_9 rfl ?_
  refine j_gen (fun S2 e2 => ?_)
  have f2_a : InK S2 a 5 := by rw [e2]; exact f1_a
  have f2_g : InK S2 g 1 := by rw [e2]; exact f1_g
  have f2_q1 : InK S2 q1 8 := by rw [e2]; exact f1_q1
  refine j_putF (host := "") (S2 := uR S2 33 a (some q1)) M f2_a.1 (pAt_5 E _ f2_a.2) rfl inU_X5 1 (by decide) tyX5 tyX5_ok nmX5 wF_X5_12 (fun _ h => h) rfl hin rfl (tyX5_ok 1 (by decide)) rfl rfl (Nat.le_of_ble_eq_true rfl) rfl (pUp_33 E S2 f2_a.2 (some q1)) dX5_init_12 ?_
  refine j_gen (fun S3 e3 => ?_)
  have f3_a : InK S3 a 5 := by rw [e3]; exact f2_a
  have f3_g : InK S3 g 1 := by rw [e3]; exact f2_g
  have f3_q1 : InK S3 q1 8 := by rw [e3]; exact f2_q1
  refine j_aload_n M dX5_init_15 rfl ?_
  refine j_new (k := 8) M rfl inU_Jx4a65c tyJx4a65c tyJx4a65c_ok wL_X5_9 wX_Jx4a65c wN_Jx4a65c (fun j hj => match j, hj with | 0, _ => rfl | 1, _ => rfl | 2, _ => rfl | _ + 3, h => absurd h (by omega)) (fun q b => pNw_8 E _ q b) ⟨Nat.le_of_ble_eq_true rfl, Nat.le_of_ble_eq_true rfl⟩ dX5_init_16 (fun q2 hq2 => ?_)
  refine j_gen (fun S4 e4 => ?_)
  have f4_a : InK S4 a 5 := by rw [e4]; exact ink_nw f3_a hq2
  have f4_g : InK S4 g 1 := by rw [e4]; exact ink_nw f3_g hq2
  have f4_q1 : InK S4 q1 8 := by rw [e4]; exact ink_nw f3_q1 hq2
  have f4_q2 : InK S4 q2 8 := by rw [e4]; exact ink_n
  refine j_dup M dX5_init_19 rfl ?_
  refine j_callI0 (As := []) M cf_Linit wM_X5_11 (c_Linit (S := S4) f4_q2) rfl ⟨Nat.le_of_ble_eq_true rfl, Nat.le_of_ble_eq_true rfl⟩ (Nat.le_of_ble_eq_true rfl) ⟨Nat.le_of_ble_eq_true rfl, Nat.le_of_ble_eq_true rfl⟩ dX5_init_20 rfl ?_
  refine j_gen (fun S5 e5 => ?_)
  have f5_a : InK S5 a 5 := by rw [e5]; exact f4_a
  have f5_g : InK S5 g 1 := by rw [e5]; exact f4_g
  have f5_q1 : InK S5 q1 8 := by rw [e5]; exact f4_q1
  have f5_q2 : InK S5 q2 8 := by rw [e5]; exact f4_q2
  refine j_putF (host := "") (S2 := uR S5 34 a (some q2)) M f5_a.1 (pAt_5 E _ f5_a.2) rfl inU_X5 2 (by decide) tyX5 tyX5_ok nmX5 wF_X5_18 (fun _ h => h) rfl hin rfl (tyX5_ok 2 (by decide)) rfl rfl (Nat.le_of_ble_eq_true rfl) rfl (pUp_34 E S5 f5_a.2 (some q2)) dX5_init_23 ?_
  refine j_gen (fun S6 e6 => ?_)
  have f6_a : InK S6 a 5 := by rw [e6]; exact f5_a
  have f6_g : InK S6 g 1 := by rw [e6]; exact f5_g
  have f6_q1 : InK S6 q1 8 := by rw [e6]; exact f5_q1
  have f6_q2 : InK S6 q2 8 := by rw [e6]; exact f5_q2
  refine j_aload_n M dX5_init_26 rfl ?_
  refine j_new (k := 8) M rfl inU_Jx4a65c tyJx4a65c tyJx4a65c_ok wL_X5_9 wX_Jx4a65c wN_Jx4a65c (fun j hj => match j, hj with | 0, _ => rfl | 1, _ => rfl | 2, _ => rfl | _ + 3, h => absurd h (by omega)) (fun q b => pNw_8 E _ q b) ⟨Nat.le_of_ble_eq_true rfl, Nat.le_of_ble_eq_true rfl⟩ dX5_init_27 (fun q3 hq3 => ?_)
  refine j_gen (fun S7 e7 => ?_)
  have f7_a : InK S7 a 5 := by rw [e7]; exact ink_nw f6_a hq3
  have f7_g : InK S7 g 1 := by rw [e7]; exact ink_nw f6_g hq3
  have f7_q1 : InK S7 q1 8 := by rw [e7]; exact ink_nw f6_q1 hq3
  have f7_q2 : InK S7 q2 8 := by rw [e7]; exact ink_nw f6_q2 hq3
  have f7_q3 : InK S7 q3 8 := by rw [e7]; exact ink_n
  refine j_dup M dX5_init_30 rfl ?_
  refine j_callI0 (As := []) M cf_Linit wM_X5_11 (c_Linit (S := S7) f7_q3) rfl ⟨Nat.le_of_ble_eq_true rfl, Nat.le_of_ble_eq_true rfl⟩ (Nat.le_of_ble_eq_true rfl) ⟨Nat.le_of_ble_eq_true rfl, Nat.le_of_ble_eq_true rfl⟩ dX5_init_31 rfl ?_
  refine j_gen (fun S8 e8 => ?_)
  have f8_a : InK S8 a 5 := by rw [e8]; exact f7_a
  have f8_g : InK S8 g 1 := by rw [e8]; exact f7_g
  have f8_q1 : InK S8 q1 8 := by rw [e8]; exact f7_q1
  have f8_q2 : InK S8 q2 8 := by rw [e8]; exact f7_q2
  have f8_q3 : InK S8 q3 8 := by rw [e8]; exact f7_q3
  refine j_putF (host := "") (S2 := uR S8 35 a (some q3)) M f8_a.1 (pAt_5 E _ f8_a.2) rfl inU_X5 3 (by decide) tyX5 tyX5_ok nmX5 wF_X5_21 (fun _ h => h) rfl hin rfl (tyX5_ok 3 (by decide)) rfl rfl (Nat.le_of_ble_eq_true rfl) rfl (pUp_35 E S8 f8_a.2 (some q3)) dX5_init_34 ?_
  refine j_gen (fun S9 e9 => ?_)
  have f9_a : InK S9 a 5 := by rw [e9]; exact f8_a
  have f9_g : InK S9 g 1 := by rw [e9]; exact f8_g
  have f9_q1 : InK S9 q1 8 := by rw [e9]; exact f8_q1
  have f9_q2 : InK S9 q2 8 := by rw [e9]; exact f8_q2
  have f9_q3 : InK S9 q3 8 := by rw [e9]; exact f8_q3
  refine j_aload_n M dX5_init_37 rfl ?_
  refine j_new (k := 8) M rfl inU_Jx4a65c tyJx4a65c tyJx4a65c_ok wL_X5_9 wX_Jx4a65c wN_Jx4a65c (fun j hj => match j, hj with | 0, _ => rfl | 1, _ => rfl | 2, _ => rfl | _ + 3, h => absurd h (by omega)) (fun q b => pNw_8 E _ q b) ⟨Nat.le_of_ble_eq_true rfl, Nat.le_of_ble_eq_true rfl⟩ dX5_init_38 (fun q4 hq4 => ?_)
  refine j_gen (fun S10 e10 => ?_)
  have f10_a : InK S10 a 5 := by rw [e10]; exact ink_nw f9_a hq4
  have f10_g : InK S10 g 1 := by rw [e10]; exact ink_nw f9_g hq4
  have f10_q1 : InK S10 q1 8 := by rw [e10]; exact ink_nw f9_q1 hq4
  have f10_q2 : InK S10 q2 8 := by rw [e10]; exact ink_nw f9_q2 hq4
  have f10_q3 : InK S10 q3 8 := by rw [e10]; exact ink_nw f9_q3 hq4
  have f10_q4 : InK S10 q4 8 := by rw [e10]; exact ink_n
  refine j_dup M dX5_init_41 rfl ?_
  refine j_callI0 (As := []) M cf_Linit wM_X5_11 (c_Linit (S := S10) f10_q4) rfl ⟨Nat.le_of_ble_eq_true rfl, Nat.le_of_ble_eq_true rfl⟩ (Nat.le_of_ble_eq_true rfl) ⟨Nat.le_of_ble_eq_true rfl, Nat.le_of_ble_eq_true rfl⟩ dX5_init_42 rfl ?_
  refine j_gen (fun S11 e11 => ?_)
  have f11_a : InK S11 a 5 := by rw [e11]; exact f10_a
  have f11_g : InK S11 g 1 := by rw [e11]; exact f10_g
  have f11_q1 : InK S11 q1 8 := by rw [e11]; exact f10_q1
  have f11_q2 : InK S11 q2 8 := by rw [e11]; exact f10_q2
  have f11_q3 : InK S11 q3 8 := by rw [e11]; exact f10_q3
  have f11_q4 : InK S11 q4 8 := by rw [e11]; exact f10_q4
  refine j_putF (host := "") (S2 := uR S11 36 a (some q4)) M f11_a.1 (pAt_5 E _ f11_a.2) rfl inU_X5 4 (by decide) tyX5 tyX5_ok nmX5 wF_X5_24 (fun _ h => h) rfl hin rfl (tyX5_ok 4 (by decide)) rfl rfl (Nat.le_of_ble_eq_true rfl) rfl (pUp_36 E S11 f11_a.2 (some q4)) dX5_init_45 ?_
  refine j_gen (fun S12 e12 => ?_)
  have f12_a : InK S12 a 5 := by rw [e12]; exact f11_a
  have f12_g : InK S12 g 1 := by rw [e12]; exact f11_g
  have f12_q1 : InK S12 q1 8 := by rw [e12]; exact f11_q1
  have f12_q2 : InK S12 q2 8 := by rw [e12]; exact f11_q2
  have f12_q3 : InK S12 q3 8 := by rw [e12]; exact f11_q3
  have f12_q4 : InK S12 q4 8 := by rw [e12]; exact f11_q4
  refine j_aload_n M dX5_init_48 rfl ?_
  refine j_new (k := 4) M rfl inU_X4 tyX4 tyX4_ok wL_X5_27 wX_X4 wN_X4 (fun j hj => match j, hj with | 0, _ => rfl | 1, _ => rfl | 2, _ => rfl | _ + 3, h => absurd h (by omega)) (fun q b => pNw_4 E _ q b) ⟨Nat.le_of_ble_eq_true rfl, Nat.le_of_ble_eq_true rfl⟩ dX5_init_49 (fun q5 hq5 => ?_)
  refine j_gen (fun S13 e13 => ?_)
  have f13_a : InK S13 a 5 := by rw [e13]; exact ink_nw f12_a hq5
  have f13_g : InK S13 g 1 := by rw [e13]; exact ink_nw f12_g hq5
  have f13_q1 : InK S13 q1 8 := by rw [e13]; exact ink_nw f12_q1 hq5
  have f13_q2 : InK S13 q2 8 := by rw [e13]; exact ink_nw f12_q2 hq5
  have f13_q3 : InK S13 q3 8 := by rw [e13]; exact ink_nw f12_q3 hq5
  have f13_q4 : InK S13 q4 8 := by rw [e13]; exact ink_nw f12_q4 hq5
  have f13_q5 : InK S13 q5 4 := by rw [e13]; exact ink_n
  refine j_dup M dX5_init_52 rfl ?_
  refine j_iconst (v := 0) M dX5_init_53 (by decide +kernel) ?_
  refine j_iconst (v := 0) M dX5_init_54 (by decide +kernel) ?_
  refine j_iconst (v := 0) M dX5_init_55 (by decide +kernel) ?_
  refine j_callI0 (As := [.int 0, .int 0, .int 0]) M cf_X4_init wM_X5_29 (ci_Report (S := S13) f13_q5 0 0 0) rfl ⟨Nat.le_of_ble_eq_true rfl, Nat.le_of_ble_eq_true rfl⟩ (Nat.le_of_ble_eq_true rfl) ⟨Nat.le_of_ble_eq_true rfl, Nat.le_of_ble_eq_true rfl⟩ dX5_init_56 rfl ?_
  refine j_gen (fun S14 e14 => ?_)
  have f14_a : InK S14 a 5 := by rw [e14]; exact f13_a
  have f14_g : InK S14 g 1 := by rw [e14]; exact f13_g
  have f14_q1 : InK S14 q1 8 := by rw [e14]; exact f13_q1
  have f14_q2 : InK S14 q2 8 := by rw [e14]; exact f13_q2
  have f14_q3 : InK S14 q3 8 := by rw [e14]; exact f13_q3
  have f14_q4 : InK S14 q4 8 := by rw [e14]; exact f13_q4
  have f14_q5 : InK S14 q5 4 := by rw [e14]; exact f13_q5
  refine j_putF (host := "") (S2 := uR S14 37 a (some q5)) M f14_a.1 (pAt_5 E _ f14_a.2) rfl inU_X5 5 (by decide) tyX5 tyX5_ok nmX5 wF_X5_32 (fun _ h => h) rfl hin rfl (tyX5_ok 5 (by decide)) rfl rfl (Nat.le_of_ble_eq_true rfl) rfl (pUp_37 E S14 f14_a.2 (some q5)) dX5_init_59 ?_
  refine j_gen (fun S15 e15 => ?_)
  have f15_a : InK S15 a 5 := by rw [e15]; exact f14_a
  have f15_g : InK S15 g 1 := by rw [e15]; exact f14_g
  have f15_q1 : InK S15 q1 8 := by rw [e15]; exact f14_q1
  have f15_q2 : InK S15 q2 8 := by rw [e15]; exact f14_q2
  have f15_q3 : InK S15 q3 8 := by rw [e15]; exact f14_q3
  have f15_q4 : InK S15 q4 8 := by rw [e15]; exact f14_q4
  have f15_q5 : InK S15 q5 4 := by rw [e15]; exact f14_q5
  refine j_aload_n M dX5_init_62 rfl ?_
  refine j_iconst (v := 0) M dX5_init_63 (by decide +kernel) ?_
  refine j_put (host := "") (S2 := uI S15 39 a 0) M f15_a.1 (pAt_5 E _ f15_a.2) rfl inU_X5 7 (by decide) tyX5 tyX5_ok nmX5 wF_X5_36 (fun _ h => h) rfl (tyX5_ok 7 (by decide)) rfl rfl (Nat.le_of_ble_eq_true rfl) rfl (pUp_39 E S15 f15_a.2 0) dX5_init_64 ?_
  refine j_gen (fun S16 e16 => ?_)
  have f16_a : InK S16 a 5 := by rw [e16]; exact f15_a
  have f16_g : InK S16 g 1 := by rw [e16]; exact f15_g
  have f16_q1 : InK S16 q1 8 := by rw [e16]; exact f15_q1
  have f16_q2 : InK S16 q2 8 := by rw [e16]; exact f15_q2
  have f16_q3 : InK S16 q3 8 := by rw [e16]; exact f15_q3
  have f16_q4 : InK S16 q4 8 := by rw [e16]; exact f15_q4
  have f16_q5 : InK S16 q5 4 := by rw [e16]; exact f15_q5
  refine j_aload_n M dX5_init_67 rfl ?_
  refine j_iconst (v := 0) M dX5_init_68 (by decide +kernel) ?_
  refine j_put (host := "") (S2 := uI S16 40 a 0) M f16_a.1 (pAt_5 E _ f16_a.2) rfl inU_X5 8 (by decide) tyX5 tyX5_ok nmX5 wF_X5_40 (fun _ h => h) rfl (tyX5_ok 8 (by decide)) rfl rfl (Nat.le_of_ble_eq_true rfl) rfl (pUp_40 E S16 f16_a.2 0) dX5_init_69 ?_
  refine j_gen (fun S17 e17 => ?_)
  have f17_a : InK S17 a 5 := by rw [e17]; exact f16_a
  have f17_g : InK S17 g 1 := by rw [e17]; exact f16_g
  have f17_q1 : InK S17 q1 8 := by rw [e17]; exact f16_q1
  have f17_q2 : InK S17 q2 8 := by rw [e17]; exact f16_q2
  have f17_q3 : InK S17 q3 8 := by rw [e17]; exact f16_q3
  have f17_q4 : InK S17 q4 8 := by rw [e17]; exact f16_q4
  have f17_q5 : InK S17 q5 4 := by rw [e17]; exact f16_q5
  refine j_aload_n M dX5_init_72 rfl ?_
  refine j_iconst (v := 0) M dX5_init_73 (by decide +kernel) ?_
  refine j_put (host := "") (S2 := uI S17 41 a 0) M f17_a.1 (pAt_5 E _ f17_a.2) rfl inU_X5 9 (by decide) tyX5 tyX5_ok nmX5 wF_X5_43 (fun _ h => h) rfl (tyX5_ok 9 (by decide)) rfl rfl (Nat.le_of_ble_eq_true rfl) rfl (pUp_41 E S17 f17_a.2 0) dX5_init_74 ?_
  refine j_gen (fun S18 e18 => ?_)
  have f18_a : InK S18 a 5 := by rw [e18]; exact f17_a
  have f18_g : InK S18 g 1 := by rw [e18]; exact f17_g
  have f18_q1 : InK S18 q1 8 := by rw [e18]; exact f17_q1
  have f18_q2 : InK S18 q2 8 := by rw [e18]; exact f17_q2
  have f18_q3 : InK S18 q3 8 := by rw [e18]; exact f17_q3
  have f18_q4 : InK S18 q4 8 := by rw [e18]; exact f17_q4
  have f18_q5 : InK S18 q5 4 := by rw [e18]; exact f17_q5
  refine j_aload_n M dX5_init_77 rfl ?_
  refine j_aload_n M dX5_init_78 rfl ?_
  refine j_putF (host := "") (S2 := uR S18 32 a (some g)) M f18_a.1 (pAt_5 E _ f18_a.2) rfl inU_X5 0 (by decide) tyX5 tyX5_ok nmX5 wF_X5_46 (fun _ h => h) rfl hin rfl (tyX5_ok 0 (by decide)) rfl rfl (Nat.le_of_ble_eq_true rfl) rfl (pUp_32 E S18 f18_a.2 (some g)) dX5_init_79 ?_
  refine j_gen (fun S19 e19 => ?_)
  have f19_a : InK S19 a 5 := by rw [e19]; exact f18_a
  have f19_g : InK S19 g 1 := by rw [e19]; exact f18_g
  have f19_q1 : InK S19 q1 8 := by rw [e19]; exact f18_q1
  have f19_q2 : InK S19 q2 8 := by rw [e19]; exact f18_q2
  have f19_q3 : InK S19 q3 8 := by rw [e19]; exact f18_q3
  have f19_q4 : InK S19 q4 8 := by rw [e19]; exact f18_q4
  have f19_q5 : InK S19 q5 4 := by rw [e19]; exact f18_q5
  refine j_aload_n M dX5_init_82 rfl ?_
  refine j_new (k := 0) M rfl inU_X0 tyX0 tyX0_ok wL_X5_50 wX_X0 wN_X0 (fun j hj => match j, hj with | 0, _ => rfl | 1, _ => rfl | 2, _ => rfl | 3, _ => rfl | 4, _ => rfl | 5, _ => rfl | 6, _ => rfl | 7, _ => rfl | 8, _ => rfl | 9, _ => rfl | 10, _ => rfl | 11, _ => rfl | 12, _ => rfl | 13, _ => rfl | 14, _ => rfl | 15, _ => rfl | _ + 16, h => absurd h (by omega)) (fun q b => pNw_0 E _ q b) ⟨Nat.le_of_ble_eq_true rfl, Nat.le_of_ble_eq_true rfl⟩ dX5_init_83 (fun q6 hq6 => ?_)
  refine j_gen (fun S20 e20 => ?_)
  have f20_a : InK S20 a 5 := by rw [e20]; exact ink_nw f19_a hq6
  have f20_g : InK S20 g 1 := by rw [e20]; exact ink_nw f19_g hq6
  have f20_q1 : InK S20 q1 8 := by rw [e20]; exact ink_nw f19_q1 hq6
  have f20_q2 : InK S20 q2 8 := by rw [e20]; exact ink_nw f19_q2 hq6
  have f20_q3 : InK S20 q3 8 := by rw [e20]; exact ink_nw f19_q3 hq6
  have f20_q4 : InK S20 q4 8 := by rw [e20]; exact ink_nw f19_q4 hq6
  have f20_q5 : InK S20 q5 4 := by rw [e20]; exact ink_nw f19_q5 hq6
  have f20_q6 : InK S20 q6 0 := by rw [e20]; exact ink_n
  refine j_dup M dX5_init_86 rfl ?_
  refine j_aload_n M dX5_init_87 rfl ?_
  refine j_iconst (v := -1) M dX5_init_88 (by decide +kernel) ?_
  refine j_iconst (v := 0) M dX5_init_89 (by decide +kernel) ?_
  refine j_iconst (v := 3) M dX5_init_90 (by decide +kernel) ?_
  refine j_iconst (v := 2) M dX5_init_91 (by decide +kernel) ?_
  refine j_iconst (v := 5) M dX5_init_92 (by decide +kernel) ?_
  refine j_callI0 (As := [.ref g, .int ((-1)), .int 0, .int 3, .int 2, .int 5]) M cf_X0_init wM_X5_52 (ci_Crane (S := S20) f20_q6 f20_g ((-1)) 0 3 2 5) rfl ⟨Nat.le_of_ble_eq_true rfl, Nat.le_of_ble_eq_true rfl⟩ (Nat.le_of_ble_eq_true rfl) ⟨Nat.le_of_ble_eq_true rfl, Nat.le_of_ble_eq_true rfl⟩ dX5_init_93 rfl ?_
  refine j_gen (fun S21 e21 => ?_)
  have f21_a : InK S21 a 5 := by rw [e21]; exact f20_a
  have f21_g : InK S21 g 1 := by rw [e21]; exact f20_g
  have f21_q1 : InK S21 q1 8 := by rw [e21]; exact f20_q1
  have f21_q2 : InK S21 q2 8 := by rw [e21]; exact f20_q2
  have f21_q3 : InK S21 q3 8 := by rw [e21]; exact f20_q3
  have f21_q4 : InK S21 q4 8 := by rw [e21]; exact f20_q4
  have f21_q5 : InK S21 q5 4 := by rw [e21]; exact f20_q5
  have f21_q6 : InK S21 q6 0 := by rw [e21]; exact f20_q6
  refine j_putF (host := "") (S2 := uR S21 38 a (some q6)) M f21_a.1 (pAt_5 E _ f21_a.2) rfl inU_X5 6 (by decide) tyX5 tyX5_ok nmX5 wF_X5_55 (fun _ h => h) rfl hin rfl (tyX5_ok 6 (by decide)) rfl rfl (Nat.le_of_ble_eq_true rfl) rfl (pUp_38 E S21 f21_a.2 (some q6)) dX5_init_96 ?_
  refine j_gen (fun S22 e22 => ?_)
  have f22_a : InK S22 a 5 := by rw [e22]; exact f21_a
  have f22_g : InK S22 g 1 := by rw [e22]; exact f21_g
  have f22_q1 : InK S22 q1 8 := by rw [e22]; exact f21_q1
  have f22_q2 : InK S22 q2 8 := by rw [e22]; exact f21_q2
  have f22_q3 : InK S22 q3 8 := by rw [e22]; exact f21_q3
  have f22_q4 : InK S22 q4 8 := by rw [e22]; exact f21_q4
  have f22_q5 : InK S22 q5 4 := by rw [e22]; exact f21_q5
  have f22_q6 : InK S22 q6 0 := by rw [e22]; exact f21_q6
  subst e22
  subst e21
  subst e20
  subst e19
  subst e18
  subst e17
  subst e16
  subst e15
  subst e14
  subst e13
  subst e12
  subst e11
  subst e10
  subst e9
  subst e8
  subst e7
  subst e6
  subst e5
  subst e4
  subst e3
  subst e2
  subst e1
  exact j_vret M dX5_init_99 (Nat.le_refl _) (Nat.le_refl _) ⟨rfl, q1, hq1, q2, hq2, q3, hq3, q4, hq4, q5, hq5, q6, hq6, rfl⟩
abbrev n_Slewyard (d : Nat) (S : PS) (a q1 q2 q3 q4 q5 q6 q7 q8 q9 q10 q11 q12 q13 q14 : Nat) : PS := (uI (uR (n_Plans (nw (uR (n_Site d (n_Ground (nw (nw S q1 5) q2 1) q2 q3) q1 q2 q4 q5 q6 q7 q8 q9) 48 a (some q1)) q10 3) q10 q1 q9 q11 q12 q13 q14) 49 a (some q10)) 50 a 0)
theorem keep_Slewyard {d : Nat} {S : PS} {a q1 q2 q3 q4 q5 q6 q7 q8 q9 q10 q11 q12 q13 q14 : Nat} {o k : Nat} (h : InK S o k) (hq1 : q1 ∉ sL S) (hq2 : q2 ∉ (sL S ++ [q1])) (hq3 : q3 ∉ ((sL S ++ [q1]) ++ [q2])) (hq4 : q4 ∉ (((sL S ++ [q1]) ++ [q2]) ++ [q3])) (hq5 : q5 ∉ ((((sL S ++ [q1]) ++ [q2]) ++ [q3]) ++ [q4])) (hq6 : q6 ∉ (((((sL S ++ [q1]) ++ [q2]) ++ [q3]) ++ [q4]) ++ [q5])) (hq7 : q7 ∉ ((((((sL S ++ [q1]) ++ [q2]) ++ [q3]) ++ [q4]) ++ [q5]) ++ [q6])) (hq8 : q8 ∉ (((((((sL S ++ [q1]) ++ [q2]) ++ [q3]) ++ [q4]) ++ [q5]) ++ [q6]) ++ [q7])) (hq9 : q9 ∉ ((((((((sL S ++ [q1]) ++ [q2]) ++ [q3]) ++ [q4]) ++ [q5]) ++ [q6]) ++ [q7]) ++ [q8])) (hq10 : q10 ∉ (((((((((sL S ++ [q1]) ++ [q2]) ++ [q3]) ++ [q4]) ++ [q5]) ++ [q6]) ++ [q7]) ++ [q8]) ++ [q9])) (hq11 : q11 ∉ ((((((((((sL S ++ [q1]) ++ [q2]) ++ [q3]) ++ [q4]) ++ [q5]) ++ [q6]) ++ [q7]) ++ [q8]) ++ [q9]) ++ [q10])) (hq12 : q12 ∉ (((((((((((sL S ++ [q1]) ++ [q2]) ++ [q3]) ++ [q4]) ++ [q5]) ++ [q6]) ++ [q7]) ++ [q8]) ++ [q9]) ++ [q10]) ++ [q11])) (hq13 : q13 ∉ ((((((((((((sL S ++ [q1]) ++ [q2]) ++ [q3]) ++ [q4]) ++ [q5]) ++ [q6]) ++ [q7]) ++ [q8]) ++ [q9]) ++ [q10]) ++ [q11]) ++ [q12])) (hq14 : q14 ∉ (((((((((((((sL S ++ [q1]) ++ [q2]) ++ [q3]) ++ [q4]) ++ [q5]) ++ [q6]) ++ [q7]) ++ [q8]) ++ [q9]) ++ [q10]) ++ [q11]) ++ [q12]) ++ [q13])) : InK (n_Slewyard d S a q1 q2 q3 q4 q5 q6 q7 q8 q9 q10 q11 q12 q13 q14) o k := ⟨(List.mem_append_left _ (List.mem_append_left _ (List.mem_append_left _ (List.mem_append_left _ (List.mem_append_left _ (List.mem_append_left _ (List.mem_append_left _ (List.mem_append_left _ (List.mem_append_left _ (List.mem_append_left _ (List.mem_append_left _ (List.mem_append_left _ (List.mem_append_left _ (List.mem_append_left _ h.1)))))))))))))), ((va_up_ne _ _ (nel (List.mem_append_left _ (List.mem_append_left _ (List.mem_append_left _ (List.mem_append_left _ (List.mem_append_left _ (List.mem_append_left _ (List.mem_append_left _ (List.mem_append_left _ (List.mem_append_left _ (List.mem_append_left _ (List.mem_append_left _ (List.mem_append_left _ (List.mem_append_left _ h.1))))))))))))) hq14)).trans ((va_up_ne _ _ (nel (List.mem_append_left _ (List.mem_append_left _ (List.mem_append_left _ (List.mem_append_left _ (List.mem_append_left _ (List.mem_append_left _ (List.mem_append_left _ (List.mem_append_left _ (List.mem_append_left _ (List.mem_append_left _ (List.mem_append_left _ (List.mem_append_left _ h.1)))))))))))) hq13)).trans ((va_up_ne _ _ (nel (List.mem_append_left _ (List.mem_append_left _ (List.mem_append_left _ (List.mem_append_left _ (List.mem_append_left _ (List.mem_append_left _ (List.mem_append_left _ (List.mem_append_left _ (List.mem_append_left _ (List.mem_append_left _ (List.mem_append_left _ h.1))))))))))) hq12)).trans ((va_up_ne _ _ (nel (List.mem_append_left _ (List.mem_append_left _ (List.mem_append_left _ (List.mem_append_left _ (List.mem_append_left _ (List.mem_append_left _ (List.mem_append_left _ (List.mem_append_left _ (List.mem_append_left _ (List.mem_append_left _ h.1)))))))))) hq11)).trans ((va_up_ne _ _ (nel (List.mem_append_left _ (List.mem_append_left _ (List.mem_append_left _ (List.mem_append_left _ (List.mem_append_left _ (List.mem_append_left _ (List.mem_append_left _ (List.mem_append_left _ (List.mem_append_left _ h.1))))))))) hq10)).trans ((va_up_ne _ _ (nel (List.mem_append_left _ (List.mem_append_left _ (List.mem_append_left _ (List.mem_append_left _ (List.mem_append_left _ (List.mem_append_left _ (List.mem_append_left _ (List.mem_append_left _ h.1)))))))) hq9)).trans ((va_up_ne _ _ (nel (List.mem_append_left _ (List.mem_append_left _ (List.mem_append_left _ (List.mem_append_left _ (List.mem_append_left _ (List.mem_append_left _ (List.mem_append_left _ h.1))))))) hq8)).trans ((va_up_ne _ _ (nel (List.mem_append_left _ (List.mem_append_left _ (List.mem_append_left _ (List.mem_append_left _ (List.mem_append_left _ (List.mem_append_left _ h.1)))))) hq7)).trans ((va_up_ne _ _ (nel (List.mem_append_left _ (List.mem_append_left _ (List.mem_append_left _ (List.mem_append_left _ (List.mem_append_left _ h.1))))) hq6)).trans ((va_up_ne _ _ (nel (List.mem_append_left _ (List.mem_append_left _ (List.mem_append_left _ (List.mem_append_left _ h.1)))) hq5)).trans ((va_up_ne _ _ (nel (List.mem_append_left _ (List.mem_append_left _ (List.mem_append_left _ h.1))) hq4)).trans ((va_up_ne _ _ (nel (List.mem_append_left _ (List.mem_append_left _ h.1)) hq3)).trans ((va_up_ne _ _ (nel (List.mem_append_left _ h.1) hq2)).trans ((va_up_ne _ _ (nel h.1 hq1)).trans h.2))))))))))))))⟩
theorem cf_X7_init : CFi yX7_init cX7_init 2 0 := ⟨wC_X7_init, wI_X7_init, wN_X7, by decide +kernel⟩
set_option maxHeartbeats 4000000 in
set_option maxRecDepth 100000 in
theorem ci_Slewyard {l : Launch} {E : EV} {S : PS} {a : Nat} (ha : InK S a 7) : CT l yX7_init cX7_init 2 none 5 93 14 522 E [.ref a] S (fun v u => v = none ∧ ∃ q1 : Nat, q1 ∉ sL S ∧ ∃ q2 : Nat, q2 ∉ (sL S ++ [q1]) ∧ ∃ q3 : Nat, q3 ∉ ((sL S ++ [q1]) ++ [q2]) ∧ ∃ q4 : Nat, q4 ∉ (((sL S ++ [q1]) ++ [q2]) ++ [q3]) ∧ ∃ q5 : Nat, q5 ∉ ((((sL S ++ [q1]) ++ [q2]) ++ [q3]) ++ [q4]) ∧ ∃ q6 : Nat, q6 ∉ (((((sL S ++ [q1]) ++ [q2]) ++ [q3]) ++ [q4]) ++ [q5]) ∧ ∃ q7 : Nat, q7 ∉ ((((((sL S ++ [q1]) ++ [q2]) ++ [q3]) ++ [q4]) ++ [q5]) ++ [q6]) ∧ ∃ q8 : Nat, q8 ∉ (((((((sL S ++ [q1]) ++ [q2]) ++ [q3]) ++ [q4]) ++ [q5]) ++ [q6]) ++ [q7]) ∧ ∃ q9 : Nat, q9 ∉ ((((((((sL S ++ [q1]) ++ [q2]) ++ [q3]) ++ [q4]) ++ [q5]) ++ [q6]) ++ [q7]) ++ [q8]) ∧ ∃ q10 : Nat, q10 ∉ (((((((((sL S ++ [q1]) ++ [q2]) ++ [q3]) ++ [q4]) ++ [q5]) ++ [q6]) ++ [q7]) ++ [q8]) ++ [q9]) ∧ ∃ q11 : Nat, q11 ∉ ((((((((((sL S ++ [q1]) ++ [q2]) ++ [q3]) ++ [q4]) ++ [q5]) ++ [q6]) ++ [q7]) ++ [q8]) ++ [q9]) ++ [q10]) ∧ ∃ q12 : Nat, q12 ∉ (((((((((((sL S ++ [q1]) ++ [q2]) ++ [q3]) ++ [q4]) ++ [q5]) ++ [q6]) ++ [q7]) ++ [q8]) ++ [q9]) ++ [q10]) ++ [q11]) ∧ ∃ q13 : Nat, q13 ∉ ((((((((((((sL S ++ [q1]) ++ [q2]) ++ [q3]) ++ [q4]) ++ [q5]) ++ [q6]) ++ [q7]) ++ [q8]) ++ [q9]) ++ [q10]) ++ [q11]) ++ [q12]) ∧ ∃ q14 : Nat, q14 ∉ (((((((((((((sL S ++ [q1]) ++ [q2]) ++ [q3]) ++ [q4]) ++ [q5]) ++ [q6]) ++ [q7]) ++ [q8]) ++ [q9]) ++ [q10]) ++ [q11]) ++ [q12]) ++ [q13]) ∧ u = n_Slewyard (eDF E) S a q1 q2 q3 q4 q5 q6 q7 q8 q9 q10 q11 q12 q13 q14) := by
  refine CT.of (by decide) (Nat.le_of_ble_eq_true rfl) ?_
  intro p e s m below meth c M hin
  have M : MC E p s m _ meth c cX7_init RX7 2 none := M
  show J p l e _ s m _ below meth c _ E 2 0 [(0, .ref a)] [] S 0 0
  refine j_aload_n M dX7_init_0 rfl ?_
  refine j_obj M wM_X7_3 wI_objectInit wC_objectInit dX7_init_1 (Nat.le_of_ble_eq_true rfl) (Nat.le_of_ble_eq_true rfl) ?_
  refine j_new (k := 5) M rfl inU_X5 tyX5 tyX5_ok wL_X7_9 wX_X5 wN_X5 (fun j hj => match j, hj with | 0, _ => rfl | 1, _ => rfl | 2, _ => rfl | 3, _ => rfl | 4, _ => rfl | 5, _ => rfl | 6, _ => rfl | 7, _ => rfl | 8, _ => rfl | 9, _ => rfl | _ + 10, h => absurd h (by omega)) (fun q b => pNw_5 E _ q b) ⟨Nat.le_of_ble_eq_true rfl, Nat.le_of_ble_eq_true rfl⟩ dX7_init_4 (fun q1 hq1 => ?_)
  refine j_gen (fun S1 e1 => ?_)
  have f1_a : InK S1 a 7 := by rw [e1]; exact ink_nw ha hq1
  have f1_q1 : InK S1 q1 5 := by rw [e1]; exact ink_n
  refine j_dup M dX7_init_7 rfl ?_
  refine j_new (k := 1) M rfl inU_X1 tyX1 tyX1_ok wL_X7_11 wX_X1 wN_X1 (fun j hj => match j, hj with | 0, _ => rfl | 1, _ => rfl | 2, _ => rfl | _ + 3, h => absurd h (by omega)) (fun q b => pNw_1 E _ q b) ⟨Nat.le_of_ble_eq_true rfl, Nat.le_of_ble_eq_true rfl⟩ dX7_init_8 (fun q2 hq2 => ?_)
  refine j_gen (fun S2 e2 => ?_)
  have f2_a : InK S2 a 7 := by rw [e2]; exact ink_nw f1_a hq2
  have f2_q1 : InK S2 q1 5 := by rw [e2]; exact ink_nw f1_q1 hq2
  have f2_q2 : InK S2 q2 1 := by rw [e2]; exact ink_n
  refine j_dup M dX7_init_11 rfl ?_
  refine j_callIN (As := []) M cf_X1_init nM_X7_13 (ci_Ground (S := S2) f2_q2) rfl ⟨Nat.le_of_ble_eq_true rfl, Nat.le_of_ble_eq_true rfl⟩ (Nat.le_of_ble_eq_true rfl) ⟨Nat.le_of_ble_eq_true rfl, Nat.le_of_ble_eq_true rfl⟩ dX7_init_12 rfl (fun v u hu => ?_)
  obtain ⟨rfl, q3, hq3, rfl⟩ := hu
  show J p l e _ s m _ below meth c _ E 2 15 [(0, .ref a)] [.ref q2, .ref q1, .ref q1] (n_Ground S2 q2 q3) 3 209
  refine j_gen (fun S3 e3 => ?_)
  have f3_a : InK S3 a 7 := by rw [e3]; exact keep_Ground (d := eDF E) f2_a hq3
  have f3_q1 : InK S3 q1 5 := by rw [e3]; exact keep_Ground (d := eDF E) f2_q1 hq3
  have f3_q2 : InK S3 q2 1 := by rw [e3]; exact keep_Ground (d := eDF E) f2_q2 hq3
  refine j_callI (As := [.ref q2]) M cf_X5_init wM_X7_14 (ci_Site (S := S3) f3_q1 f3_q2) rfl ⟨Nat.le_of_ble_eq_true rfl, Nat.le_of_ble_eq_true rfl⟩ (Nat.le_of_ble_eq_true rfl) ⟨Nat.le_of_ble_eq_true rfl, Nat.le_of_ble_eq_true rfl⟩ dX7_init_15 rfl (fun v u hu => ?_)
  obtain ⟨rfl, q4, hq4, q5, hq5, q6, hq6, q7, hq7, q8, hq8, q9, hq9, rfl⟩ := hu
  show J p l e _ s m _ below meth c _ E 2 18 [(0, .ref a)] [.ref q1] (n_Site (eDF E) S3 q1 q2 q4 q5 q6 q7 q8 q9) 9 240
  refine j_gen (fun S4 e4 => ?_)
  have f4_a : InK S4 a 7 := by rw [e4]; exact keep_Site (d := eDF E) f3_a hq4 hq5 hq6 hq7 hq8 hq9
  have f4_q1 : InK S4 q1 5 := by rw [e4]; exact keep_Site (d := eDF E) f3_q1 hq4 hq5 hq6 hq7 hq8 hq9
  have f4_q2 : InK S4 q2 1 := by rw [e4]; exact keep_Site (d := eDF E) f3_q2 hq4 hq5 hq6 hq7 hq8 hq9
  have t4 : sR S4 38 q1 = some q9 := by rw [e4]; show up2 _ 38 q1 (some q9) 38 q1 = some q9; exact up2_s _ _ _ _
  refine j_astore_n M dX7_init_18 rfl (by decide) rfl ?_
  refine j_aload_n M dX7_init_19 rfl ?_
  refine j_aload_n M dX7_init_20 rfl ?_
  refine j_putF (host := "") (S2 := uR S4 48 a (some q1)) M f4_a.1 (pAt_7 E _ f4_a.2) rfl inU_X7 0 (by decide) tyX7 tyX7_ok nmX7 wF_X7_17 (fun _ h => h) rfl hin rfl (tyX7_ok 0 (by decide)) rfl rfl (Nat.le_of_ble_eq_true rfl) rfl (pUp_48 E S4 f4_a.2 (some q1)) dX7_init_21 ?_
  refine j_gen (fun S5 e5 => ?_)
  have f5_a : InK S5 a 7 := by rw [e5]; exact f4_a
  have f5_q1 : InK S5 q1 5 := by rw [e5]; exact f4_q1
  have f5_q2 : InK S5 q2 1 := by rw [e5]; exact f4_q2
  have t5 : sR S5 38 q1 = some q9 := by rw [e5]; exact (up2_f (f := 48) (f' := 38) _ a q1 (some q1) (by decide)).trans t4
  refine j_aload_n M dX7_init_24 rfl ?_
  refine j_new (k := 3) M rfl inU_X3 tyX3 tyX3_ok wL_X7_21 wX_X3 wN_X3 (fun j hj => match j, hj with | 0, _ => rfl | 1, _ => rfl | 2, _ => rfl | 3, _ => rfl | 4, _ => rfl | 5, _ => rfl | _ + 6, h => absurd h (by omega)) (fun q b => pNw_3 E _ q b) ⟨Nat.le_of_ble_eq_true rfl, Nat.le_of_ble_eq_true rfl⟩ dX7_init_25 (fun q10 hq10 => ?_)
  refine j_gen (fun S6 e6 => ?_)
  have f6_a : InK S6 a 7 := by rw [e6]; exact ink_nw f5_a hq10
  have f6_q1 : InK S6 q1 5 := by rw [e6]; exact ink_nw f5_q1 hq10
  have f6_q2 : InK S6 q2 1 := by rw [e6]; exact ink_nw f5_q2 hq10
  have f6_q10 : InK S6 q10 3 := by rw [e6]; exact ink_n
  have t6 : sR S6 38 q1 = some q9 := by rw [e6]; exact (va_up_ne _ _ (nel f5_q1.1 hq10)).trans t5
  refine j_dup M dX7_init_28 rfl ?_
  refine j_aload_n M dX7_init_29 rfl ?_
  refine j_callI (As := [.ref q1]) M cf_X3_init wM_X7_23 (ci_Plans (S := S6) f6_q10 f6_q1 t6) rfl ⟨Nat.le_of_ble_eq_true rfl, Nat.le_of_ble_eq_true rfl⟩ (Nat.le_of_ble_eq_true rfl) ⟨Nat.le_of_ble_eq_true rfl, Nat.le_of_ble_eq_true rfl⟩ dX7_init_30 rfl (fun v u hu => ?_)
  obtain ⟨rfl, q11, hq11, q12, hq12, q13, hq13, q14, hq14, rfl⟩ := hu
  show J p l e _ s m _ below meth c _ E 2 33 [(1, .ref q1), (0, .ref a)] [.ref q10, .ref a] (n_Plans S6 q10 q1 q9 q11 q12 q13 q14) 14 522
  refine j_gen (fun S7 e7 => ?_)
  have f7_a : InK S7 a 7 := by rw [e7]; exact keep_Plans (d := eDF E) f6_a hq11 hq12 hq13 hq14
  have f7_q1 : InK S7 q1 5 := by rw [e7]; exact keep_Plans (d := eDF E) f6_q1 hq11 hq12 hq13 hq14
  have f7_q2 : InK S7 q2 1 := by rw [e7]; exact keep_Plans (d := eDF E) f6_q2 hq11 hq12 hq13 hq14
  have f7_q10 : InK S7 q10 3 := by rw [e7]; exact keep_Plans (d := eDF E) f6_q10 hq11 hq12 hq13 hq14
  refine j_putF (host := "") (S2 := uR S7 49 a (some q10)) M f7_a.1 (pAt_7 E _ f7_a.2) rfl inU_X7 1 (by decide) tyX7 tyX7_ok nmX7 wF_X7_26 (fun _ h => h) rfl hin rfl (tyX7_ok 1 (by decide)) rfl rfl (Nat.le_of_ble_eq_true rfl) rfl (pUp_49 E S7 f7_a.2 (some q10)) dX7_init_33 ?_
  refine j_gen (fun S8 e8 => ?_)
  have f8_a : InK S8 a 7 := by rw [e8]; exact f7_a
  have f8_q1 : InK S8 q1 5 := by rw [e8]; exact f7_q1
  have f8_q2 : InK S8 q2 1 := by rw [e8]; exact f7_q2
  have f8_q10 : InK S8 q10 3 := by rw [e8]; exact f7_q10
  refine j_aload_n M dX7_init_36 rfl ?_
  refine j_iconst (v := 0) M dX7_init_37 (by decide +kernel) ?_
  refine j_put (host := "") (S2 := uI S8 50 a 0) M f8_a.1 (pAt_7 E _ f8_a.2) rfl inU_X7 2 (by decide) tyX7 tyX7_ok nmX7 wF_X7_30 (fun _ h => h) rfl (tyX7_ok 2 (by decide)) rfl rfl (Nat.le_of_ble_eq_true rfl) rfl (pUp_50 E S8 f8_a.2 0) dX7_init_38 ?_
  refine j_gen (fun S9 e9 => ?_)
  have f9_a : InK S9 a 7 := by rw [e9]; exact f8_a
  have f9_q1 : InK S9 q1 5 := by rw [e9]; exact f8_q1
  have f9_q2 : InK S9 q2 1 := by rw [e9]; exact f8_q2
  have f9_q10 : InK S9 q10 3 := by rw [e9]; exact f8_q10
  subst e9
  subst e8
  subst e7
  subst e6
  subst e5
  subst e4
  subst e3
  subst e2
  subst e1
  exact j_vret M dX7_init_41 (Nat.le_refl _) (Nat.le_refl _) ⟨rfl, q1, hq1, q2, hq2, q3, hq3, q4, hq4, q5, hq5, q6, hq6, q7, hq7, q8, hq8, q9, hq9, q10, hq10, q11, hq11, q12, hq12, q13, hq13, q14, hq14, rfl⟩
