/-! constructors -/
theorem ink_nw {S : PS} {a k q k2 : Nat} (h : InK S a k) (hq : q ∉ sL S) : InK (nw S q k2) a k := ⟨List.mem_append_left _ h.1, (va_up_ne _ _ (ne_in h.1 hq)).trans h.2⟩
theorem ink_nwA {S : PS} {a k q n : Nat} {r : Nat → Int32} (h : InK S a k) (hq : q ∉ sL S) : InK (nwA S q n r) a k := ⟨List.mem_append_left _ h.1, (va_up_ne _ _ (ne_in h.1 hq)).trans h.2⟩
theorem ink_n {S : PS} {q k : Nat} : InK (nw S q k) q k := ⟨List.mem_append_right _ (List.mem_singleton.mpr rfl), va_up_self _ _ _⟩
theorem ink_nA {S : PS} {q n : Nat} {r : Nat → Int32} : InK (nwA S q n r) q 9 := ⟨List.mem_append_right _ (List.mem_singleton.mpr rfl), va_up_self _ _ _⟩
abbrev n_list (d : Nat) (S : PS) (h : Nat) : PS := uE (uI S 51 h 0) h (some d)
def m_rowOf0 (S : PS) (g : Nat) (x : Int32) : Int32 :=
  if (sI S 17 g) ≤ 0 then
    0
  else
    x / (sI S 17 g)
set_option maxHeartbeats 4000000 in
set_option maxRecDepth 100000 in
theorem c_rowOf0 {l : Launch} {E : EV} {S : PS} {g : Nat} (hg : InK S g 1) (x : Int32) : CT l yX1_rowOf cX1_rowOf 2 (some .int) 0 0 0 0 E [.ref g, .int x] S (pv (.int (m_rowOf0 S g x)) S) := by
  refine CT.of (by decide) (Nat.le_of_ble_eq_true rfl) ?_
  intro p e s m below meth c M hin
  have M : MC E p s m _ meth c cX1_rowOf RX1 2 (some .int) := M
  show J p l e _ s m _ below meth c _ E 2 0 [(0, .ref g), (1, .int x)] [] S 0 0
  refine j_aload_n M dX1_rowOf_0 rfl ?_
  refine j_get (v := .int (sI S 17 g)) M hg.1 (pAt_1 E _ hg.2) rfl inU_X1 1 (by decide) wF_X1_15 (fun _ h => h) rfl dX1_rowOf_1 ?_
  refine j_if_le (tgt := 16) M dX1_rowOf_4 (by decide) (fun c1 => ?_) (fun c1 => ?_)
  · refine j_iconst (v := 0) M dX1_rowOf_16 (by decide) ?_
    exact j_iret (v := 0) M dX1_rowOf_17 (Nat.le_refl _) (Nat.le_refl _) ⟨congrArg (fun z => some (Value.int z)) (show 0 = m_rowOf0 S g x from (by unfold m_rowOf0; rw [if_pos c1])), rfl⟩
  · refine j_iload_n M dX1_rowOf_7 rfl ?_
    refine j_aload_n M dX1_rowOf_8 rfl ?_
    refine j_get (v := .int (sI S 17 g)) M hg.1 (pAt_1 E _ hg.2) rfl inU_X1 1 (by decide) wF_X1_15 (fun _ h => h) rfl dX1_rowOf_9 ?_
    refine j_idiv M dX1_rowOf_12 (ne0_of c1) ?_
    refine j_goto (tgt := 17) M dX1_rowOf_13 (by decide) ?_
    exact j_iret (v := (x / (sI S 17 g))) M dX1_rowOf_17 (Nat.le_refl _) (Nat.le_refl _) ⟨congrArg (fun z => some (Value.int z)) (show (x / (sI S 17 g)) = m_rowOf0 S g x from (by unfold m_rowOf0; rw [if_neg c1])), rfl⟩
def m_columnOf0 (S : PS) (g : Nat) (x : Int32) : Int32 :=
  if (sI S 17 g) ≤ 0 then
    0
  else
    x - x / (sI S 17 g) * (sI S 17 g)
set_option maxHeartbeats 4000000 in
set_option maxRecDepth 100000 in
theorem c_columnOf0 {l : Launch} {E : EV} {S : PS} {g : Nat} (hg : InK S g 1) (x : Int32) : CT l yX1_columnOf cX1_columnOf 2 (some .int) 0 0 0 0 E [.ref g, .int x] S (pv (.int (m_columnOf0 S g x)) S) := by
  refine CT.of (by decide) (Nat.le_of_ble_eq_true rfl) ?_
  intro p e s m below meth c M hin
  have M : MC E p s m _ meth c cX1_columnOf RX1 2 (some .int) := M
  show J p l e _ s m _ below meth c _ E 2 0 [(0, .ref g), (1, .int x)] [] S 0 0
  refine j_aload_n M dX1_columnOf_0 rfl ?_
  refine j_get (v := .int (sI S 17 g)) M hg.1 (pAt_1 E _ hg.2) rfl inU_X1 1 (by decide) wF_X1_15 (fun _ h => h) rfl dX1_columnOf_1 ?_
  refine j_if_le (tgt := 16) M dX1_columnOf_4 (by decide) (fun c1 => ?_) (fun c1 => ?_)
  · refine j_iconst (v := 0) M dX1_columnOf_16 (by decide) ?_
    exact j_iret (v := 0) M dX1_columnOf_17 (Nat.le_refl _) (Nat.le_refl _) ⟨congrArg (fun z => some (Value.int z)) (show 0 = m_columnOf0 S g x from (by unfold m_columnOf0; rw [if_pos c1])), rfl⟩
  · refine j_iload_n M dX1_columnOf_7 rfl ?_
    refine j_aload_n M dX1_columnOf_8 rfl ?_
    refine j_get (v := .int (sI S 17 g)) M hg.1 (pAt_1 E _ hg.2) rfl inU_X1 1 (by decide) wF_X1_15 (fun _ h => h) rfl dX1_columnOf_9 ?_
    refine j_irem M dX1_columnOf_12 (ne0_of c1) ?_
    refine j_goto (tgt := 17) M dX1_columnOf_13 (by decide) ?_
    exact j_iret (v := (x - x / (sI S 17 g) * (sI S 17 g))) M dX1_columnOf_17 (Nat.le_refl _) (Nat.le_refl _) ⟨congrArg (fun z => some (Value.int z)) (show (x - x / (sI S 17 g) * (sI S 17 g)) = m_columnOf0 S g x from (by unfold m_columnOf0; rw [if_neg c1])), rfl⟩
abbrev n_Report (S : PS) (a : Nat) (t : Int32) (f : Int32) (b : Int32) : PS := uI (uI (uI S 29 a t) 30 a f) 31 a b
theorem cf_X4_init : CFi yX4_init cX4_init 4 3 := ⟨wC_X4_init, wI_X4_init, wN_X4, by decide +kernel⟩
set_option maxHeartbeats 4000000 in
set_option maxRecDepth 100000 in
theorem ci_Report {l : Launch} {E : EV} {S : PS} {a : Nat} (ha : InK S a 4) (t : Int32) (f : Int32) (b : Int32) : CT l yX4_init cX4_init 4 none 1 12 0 0 E [.ref a, .int t, .int f, .int b] S (p0 (n_Report S a t f b)) := by
  refine CT.of (by decide) (Nat.le_of_ble_eq_true rfl) ?_
  intro p e s m below meth c M hin
  have M : MC E p s m _ meth c cX4_init RX4 4 none := M
  show J p l e _ s m _ below meth c _ E 4 0 [(0, .ref a), (1, .int t), (2, .int f), (3, .int b)] [] S 0 0
  refine j_aload_n M dX4_init_0 rfl ?_
  refine j_obj M wM_X4_1 wI_objectInit wC_objectInit dX4_init_1 (Nat.le_of_ble_eq_true rfl) (Nat.le_of_ble_eq_true rfl) ?_
  refine j_aload_n M dX4_init_4 rfl ?_
  refine j_iload_n M dX4_init_5 rfl ?_
  refine j_putF (host := "") (S2 := uI S 29 a t) M ha.1 (pAt_4 E _ ha.2) rfl inU_X4 0 (by decide) tyX4 tyX4_ok nmX4 wF_X4_7 (fun _ h => h) rfl hin rfl (tyX4_ok 0 (by decide)) rfl rfl (Nat.le_of_ble_eq_true rfl) rfl (pUp_29 E S ha.2 t) dX4_init_6 ?_
  refine j_aload_n M dX4_init_9 rfl ?_
  refine j_iload_n M dX4_init_10 rfl ?_
  refine j_putF (host := "") (S2 := uI (uI S 29 a t) 30 a f) M ha.1 (pAt_4 E _ ha.2) rfl inU_X4 1 (by decide) tyX4 tyX4_ok nmX4 wF_X4_13 (fun _ h => h) rfl hin rfl (tyX4_ok 1 (by decide)) rfl rfl (Nat.le_of_ble_eq_true rfl) rfl (pUp_30 E (uI S 29 a t) ha.2 f) dX4_init_11 ?_
  refine j_aload_n M dX4_init_14 rfl ?_
  refine j_iload_n M dX4_init_15 rfl ?_
  refine j_putF (host := "") (S2 := uI (uI (uI S 29 a t) 30 a f) 31 a b) M ha.1 (pAt_4 E _ ha.2) rfl inU_X4 2 (by decide) tyX4 tyX4_ok nmX4 wF_X4_16 (fun _ h => h) rfl hin rfl (tyX4_ok 2 (by decide)) rfl rfl (Nat.le_of_ble_eq_true rfl) rfl (pUp_31 E (uI (uI S 29 a t) 30 a f) ha.2 b) dX4_init_16 ?_
  exact j_vret M dX4_init_19 (Nat.le_refl _) (Nat.le_refl _) ⟨rfl, rfl⟩
abbrev n_Load (S : PS) (a : Nat) (n : Int32) (c1 : Int32) (w : Int32) : PS := uI (uI (uI (uM S 22 a none) 19 a n) 21 a c1) 20 a w
theorem cf_X2_init : CFi yX2_init cX2_init 4 3 := ⟨wC_X2_init, wI_X2_init, wN_X2, by decide +kernel⟩
set_option maxHeartbeats 4000000 in
set_option maxRecDepth 100000 in
theorem ci_Load {l : Launch} {E : EV} {S : PS} {a : Nat} (ha : InK S a 2) (n : Int32) (c1 : Int32) (w : Int32) : CT l yX2_init cX2_init 4 none 1 12 0 0 E [.ref a, .int n, .int c1, .int w] S (p0 (n_Load S a n c1 w)) := by
  refine CT.of (by decide) (Nat.le_of_ble_eq_true rfl) ?_
  intro p e s m below meth c M hin
  have M : MC E p s m _ meth c cX2_init RX2 4 none := M
  show J p l e _ s m _ below meth c _ E 4 0 [(0, .ref a), (1, .int n), (2, .int c1), (3, .int w)] [] S 0 0
  refine j_aload_n M dX2_init_0 rfl ?_
  refine j_obj M wM_X2_1 wI_objectInit wC_objectInit dX2_init_1 (Nat.le_of_ble_eq_true rfl) (Nat.le_of_ble_eq_true rfl) ?_
  refine j_aload_n M dX2_init_4 rfl ?_
  refine j_null M dX2_init_5 ?_
  refine j_put (host := "") (S2 := uM S 22 a none) M ha.1 (pAt_2 E _ ha.2) rfl inU_X2 3 (by decide) tyX2 tyX2_ok nmX2 wF_X2_7 (fun _ h => h) rfl (tyX2_ok 3 (by decide)) rfl rfl (Nat.le_of_ble_eq_true rfl) rfl (pUp_22 E S ha.2 none) dX2_init_6 ?_
  refine j_aload_n M dX2_init_9 rfl ?_
  refine j_iload_n M dX2_init_10 rfl ?_
  refine j_putF (host := "") (S2 := uI (uM S 22 a none) 19 a n) M ha.1 (pAt_2 E _ ha.2) rfl inU_X2 0 (by decide) tyX2 tyX2_ok nmX2 wF_X2_13 (fun _ h => h) rfl hin rfl (tyX2_ok 0 (by decide)) rfl rfl (Nat.le_of_ble_eq_true rfl) rfl (pUp_19 E (uM S 22 a none) ha.2 n) dX2_init_11 ?_
  refine j_aload_n M dX2_init_14 rfl ?_
  refine j_iload_n M dX2_init_15 rfl ?_
  refine j_put (host := "") (S2 := uI (uI (uM S 22 a none) 19 a n) 21 a c1) M ha.1 (pAt_2 E _ ha.2) rfl inU_X2 2 (by decide) tyX2 tyX2_ok nmX2 wF_X2_17 (fun _ h => h) rfl (tyX2_ok 2 (by decide)) rfl rfl (Nat.le_of_ble_eq_true rfl) rfl (pUp_21 E (uI (uM S 22 a none) 19 a n) ha.2 c1) dX2_init_16 ?_
  refine j_aload_n M dX2_init_19 rfl ?_
  refine j_iload_n M dX2_init_20 rfl ?_
  refine j_putF (host := "") (S2 := uI (uI (uI (uM S 22 a none) 19 a n) 21 a c1) 20 a w) M ha.1 (pAt_2 E _ ha.2) rfl inU_X2 1 (by decide) tyX2 tyX2_ok nmX2 wF_X2_20 (fun _ h => h) rfl hin rfl (tyX2_ok 1 (by decide)) rfl rfl (Nat.le_of_ble_eq_true rfl) rfl (pUp_20 E (uI (uI (uM S 22 a none) 19 a n) 21 a c1) ha.2 w) dX2_init_21 ?_
  exact j_vret M dX2_init_24 (Nat.le_refl _) (Nat.le_refl _) ⟨rfl, rfl⟩
abbrev n_Zone (S : PS) (a : Nat) (t : Int32) (l1 : Int32) (b : Int32) (r : Int32) (f : Int32) (u1 : Int32) : PS := uI (uI (uI (uI (uI (uI S 42 a t) 43 a l1) 44 a b) 45 a r) 46 a f) 47 a u1
theorem cf_X6_init : CFi yX6_init cX6_init 7 6 := ⟨wC_X6_init, wI_X6_init, wN_X6, by decide +kernel⟩
set_option maxHeartbeats 4000000 in
set_option maxRecDepth 100000 in
theorem ci_Zone {l : Launch} {E : EV} {S : PS} {a : Nat} (ha : InK S a 6) (t : Int32) (l1 : Int32) (b : Int32) (r : Int32) (f : Int32) (u1 : Int32) : CT l yX6_init cX6_init 7 none 1 12 0 0 E [.ref a, .int t, .int l1, .int b, .int r, .int f, .int u1] S (p0 (n_Zone S a t l1 b r f u1)) := by
  refine CT.of (by decide) (Nat.le_of_ble_eq_true rfl) ?_
  intro p e s m below meth c M hin
  have M : MC E p s m _ meth c cX6_init RX6 7 none := M
  show J p l e _ s m _ below meth c _ E 7 0 [(0, .ref a), (1, .int t), (2, .int l1), (3, .int b), (4, .int r), (5, .int f), (6, .int u1)] [] S 0 0
  refine j_aload_n M dX6_init_0 rfl ?_
  refine j_obj M wM_X6_1 wI_objectInit wC_objectInit dX6_init_1 (Nat.le_of_ble_eq_true rfl) (Nat.le_of_ble_eq_true rfl) ?_
  refine j_aload_n M dX6_init_4 rfl ?_
  refine j_iload_n M dX6_init_5 rfl ?_
  refine j_putF (host := "") (S2 := uI S 42 a t) M ha.1 (pAt_6 E _ ha.2) rfl inU_X6 0 (by decide) tyX6 tyX6_ok nmX6 wF_X6_7 (fun _ h => h) rfl hin rfl (tyX6_ok 0 (by decide)) rfl rfl (Nat.le_of_ble_eq_true rfl) rfl (pUp_42 E S ha.2 t) dX6_init_6 ?_
  refine j_aload_n M dX6_init_9 rfl ?_
  refine j_iload_n M dX6_init_10 rfl ?_
  refine j_putF (host := "") (S2 := uI (uI S 42 a t) 43 a l1) M ha.1 (pAt_6 E _ ha.2) rfl inU_X6 1 (by decide) tyX6 tyX6_ok nmX6 wF_X6_13 (fun _ h => h) rfl hin rfl (tyX6_ok 1 (by decide)) rfl rfl (Nat.le_of_ble_eq_true rfl) rfl (pUp_43 E (uI S 42 a t) ha.2 l1) dX6_init_11 ?_
  refine j_aload_n M dX6_init_14 rfl ?_
  refine j_iload_n M dX6_init_15 rfl ?_
  refine j_putF (host := "") (S2 := uI (uI (uI S 42 a t) 43 a l1) 44 a b) M ha.1 (pAt_6 E _ ha.2) rfl inU_X6 2 (by decide) tyX6 tyX6_ok nmX6 wF_X6_16 (fun _ h => h) rfl hin rfl (tyX6_ok 2 (by decide)) rfl rfl (Nat.le_of_ble_eq_true rfl) rfl (pUp_44 E (uI (uI S 42 a t) 43 a l1) ha.2 b) dX6_init_16 ?_
  refine j_aload_n M dX6_init_19 rfl ?_
  refine j_iload M dX6_init_20 rfl ?_
  refine j_putF (host := "") (S2 := uI (uI (uI (uI S 42 a t) 43 a l1) 44 a b) 45 a r) M ha.1 (pAt_6 E _ ha.2) rfl inU_X6 3 (by decide) tyX6 tyX6_ok nmX6 wF_X6_19 (fun _ h => h) rfl hin rfl (tyX6_ok 3 (by decide)) rfl rfl (Nat.le_of_ble_eq_true rfl) rfl (pUp_45 E (uI (uI (uI S 42 a t) 43 a l1) 44 a b) ha.2 r) dX6_init_22 ?_
  refine j_aload_n M dX6_init_25 rfl ?_
  refine j_iload M dX6_init_26 rfl ?_
  refine j_putF (host := "") (S2 := uI (uI (uI (uI (uI S 42 a t) 43 a l1) 44 a b) 45 a r) 46 a f) M ha.1 (pAt_6 E _ ha.2) rfl inU_X6 4 (by decide) tyX6 tyX6_ok nmX6 wF_X6_22 (fun _ h => h) rfl hin rfl (tyX6_ok 4 (by decide)) rfl rfl (Nat.le_of_ble_eq_true rfl) rfl (pUp_46 E (uI (uI (uI (uI S 42 a t) 43 a l1) 44 a b) 45 a r) ha.2 f) dX6_init_28 ?_
  refine j_aload_n M dX6_init_31 rfl ?_
  refine j_iload M dX6_init_32 rfl ?_
  refine j_putF (host := "") (S2 := uI (uI (uI (uI (uI (uI S 42 a t) 43 a l1) 44 a b) 45 a r) 46 a f) 47 a u1) M ha.1 (pAt_6 E _ ha.2) rfl inU_X6 5 (by decide) tyX6 tyX6_ok nmX6 wF_X6_25 (fun _ h => h) rfl hin rfl (tyX6_ok 5 (by decide)) rfl rfl (Nat.le_of_ble_eq_true rfl) rfl (pUp_47 E (uI (uI (uI (uI (uI S 42 a t) 43 a l1) 44 a b) 45 a r) 46 a f) ha.2 u1) dX6_init_34 ?_
  exact j_vret M dX6_init_37 (Nat.le_refl _) (Nat.le_refl _) ⟨rfl, rfl⟩
abbrev n_Crane (S : PS) (a g : Nat) (n : Int32) (t : Int32) (m1 : Int32) (r : Int32) (o : Int32) : PS := uI (uI (uI (uI (uI (uI (uI (uI (uR (uI (uM (uI (uI (uI (uI (uI S 8 a 0) 9 a 0) 10 a 1) 12 a 0) 13 a 0) 14 a none) 15 a 0) 0 a (some g)) 1 a n) 2 a t) 3 a (m_rowOf0 (uI (uI (uR (uI (uM (uI (uI (uI (uI (uI S 8 a 0) 9 a 0) 10 a 1) 12 a 0) 13 a 0) 14 a none) 15 a 0) 0 a (some g)) 1 a n) 2 a t) g t)) 4 a (m_columnOf0 (uI (uI (uI (uR (uI (uM (uI (uI (uI (uI (uI S 8 a 0) 9 a 0) 10 a 1) 12 a 0) 13 a 0) 14 a none) 15 a 0) 0 a (some g)) 1 a n) 2 a t) 3 a (m_rowOf0 (uI (uI (uR (uI (uM (uI (uI (uI (uI (uI S 8 a 0) 9 a 0) 10 a 1) 12 a 0) 13 a 0) 14 a none) 15 a 0) 0 a (some g)) 1 a n) 2 a t) g t)) g t)) 5 a m1) 6 a r) 7 a o) 11 a (m1 - 1)
theorem cf_X0_init : CFi yX0_init cX0_init 7 6 := ⟨wC_X0_init, wI_X0_init, wN_X0, by decide +kernel⟩
set_option maxHeartbeats 4000000 in
set_option maxRecDepth 100000 in
theorem ci_Crane {l : Launch} {E : EV} {S : PS} {a : Nat} (ha : InK S a 0) {g : Nat} (hg : InK S g 1) (n : Int32) (t : Int32) (m1 : Int32) (r : Int32) (o : Int32) : CT l yX0_init cX0_init 7 none 1 21 0 0 E [.ref a, .ref g, .int n, .int t, .int m1, .int r, .int o] S (p0 (n_Crane S a g n t m1 r o)) := by
  refine CT.of (by decide) (Nat.le_of_ble_eq_true rfl) ?_
  intro p e s m below meth c M hin
  have M : MC E p s m _ meth c cX0_init RX0 7 none := M
  show J p l e _ s m _ below meth c _ E 7 0 [(0, .ref a), (1, .ref g), (2, .int n), (3, .int t), (4, .int m1), (5, .int r), (6, .int o)] [] S 0 0
  refine j_aload_n M dX0_init_0 rfl ?_
  refine j_obj M wM_X0_3 wI_objectInit wC_objectInit dX0_init_1 (Nat.le_of_ble_eq_true rfl) (Nat.le_of_ble_eq_true rfl) ?_
  refine j_aload_n M dX0_init_4 rfl ?_
  refine j_iconst (v := 0) M dX0_init_5 (by decide +kernel) ?_
  refine j_put (host := "") (S2 := uI S 8 a 0) M ha.1 (pAt_0 E _ ha.2) rfl inU_X0 8 (by decide) tyX0 tyX0_ok nmX0 wF_X0_9 (fun _ h => h) rfl (tyX0_ok 8 (by decide)) rfl rfl (Nat.le_of_ble_eq_true rfl) rfl (pUp_8 E S ha.2 0) dX0_init_6 ?_
  refine j_aload_n M dX0_init_9 rfl ?_
  refine j_iconst (v := 0) M dX0_init_10 (by decide +kernel) ?_
  refine j_put (host := "") (S2 := uI (uI S 8 a 0) 9 a 0) M ha.1 (pAt_0 E _ ha.2) rfl inU_X0 9 (by decide) tyX0 tyX0_ok nmX0 wF_X0_15 (fun _ h => h) rfl (tyX0_ok 9 (by decide)) rfl rfl (Nat.le_of_ble_eq_true rfl) rfl (pUp_9 E (uI S 8 a 0) ha.2 0) dX0_init_11 ?_
  refine j_aload_n M dX0_init_14 rfl ?_
  refine j_iconst (v := 1) M dX0_init_15 (by decide +kernel) ?_
  refine j_put (host := "") (S2 := uI (uI (uI S 8 a 0) 9 a 0) 10 a 1) M ha.1 (pAt_0 E _ ha.2) rfl inU_X0 10 (by decide) tyX0 tyX0_ok nmX0 wF_X0_18 (fun _ h => h) rfl (tyX0_ok 10 (by decide)) rfl rfl (Nat.le_of_ble_eq_true rfl) rfl (pUp_10 E (uI (uI S 8 a 0) 9 a 0) ha.2 1) dX0_init_16 ?_
  refine j_aload_n M dX0_init_19 rfl ?_
  refine j_iconst (v := 0) M dX0_init_20 (by decide +kernel) ?_
  refine j_put (host := "") (S2 := uI (uI (uI (uI S 8 a 0) 9 a 0) 10 a 1) 12 a 0) M ha.1 (pAt_0 E _ ha.2) rfl inU_X0 12 (by decide) tyX0 tyX0_ok nmX0 wF_X0_21 (fun _ h => h) rfl (tyX0_ok 12 (by decide)) rfl rfl (Nat.le_of_ble_eq_true rfl) rfl (pUp_12 E (uI (uI (uI S 8 a 0) 9 a 0) 10 a 1) ha.2 0) dX0_init_21 ?_
  refine j_aload_n M dX0_init_24 rfl ?_
  refine j_iconst (v := 0) M dX0_init_25 (by decide +kernel) ?_
  refine j_put (host := "") (S2 := uI (uI (uI (uI (uI S 8 a 0) 9 a 0) 10 a 1) 12 a 0) 13 a 0) M ha.1 (pAt_0 E _ ha.2) rfl inU_X0 13 (by decide) tyX0 tyX0_ok nmX0 wF_X0_24 (fun _ h => h) rfl (tyX0_ok 13 (by decide)) rfl rfl (Nat.le_of_ble_eq_true rfl) rfl (pUp_13 E (uI (uI (uI (uI S 8 a 0) 9 a 0) 10 a 1) 12 a 0) ha.2 0) dX0_init_26 ?_
  refine j_aload_n M dX0_init_29 rfl ?_
  refine j_null M dX0_init_30 ?_
  refine j_put (host := "") (S2 := uM (uI (uI (uI (uI (uI S 8 a 0) 9 a 0) 10 a 1) 12 a 0) 13 a 0) 14 a none) M ha.1 (pAt_0 E _ ha.2) rfl inU_X0 14 (by decide) tyX0 tyX0_ok nmX0 wF_X0_27 (fun _ h => h) rfl (tyX0_ok 14 (by decide)) rfl rfl (Nat.le_of_ble_eq_true rfl) rfl (pUp_14 E (uI (uI (uI (uI (uI S 8 a 0) 9 a 0) 10 a 1) 12 a 0) 13 a 0) ha.2 none) dX0_init_31 ?_
  refine j_aload_n M dX0_init_34 rfl ?_
  refine j_iconst (v := 0) M dX0_init_35 (by decide +kernel) ?_
  refine j_put (host := "") (S2 := uI (uM (uI (uI (uI (uI (uI S 8 a 0) 9 a 0) 10 a 1) 12 a 0) 13 a 0) 14 a none) 15 a 0) M ha.1 (pAt_0 E _ ha.2) rfl inU_X0 15 (by decide) tyX0 tyX0_ok nmX0 wF_X0_31 (fun _ h => h) rfl (tyX0_ok 15 (by decide)) rfl rfl (Nat.le_of_ble_eq_true rfl) rfl (pUp_15 E (uM (uI (uI (uI (uI (uI S 8 a 0) 9 a 0) 10 a 1) 12 a 0) 13 a 0) 14 a none) ha.2 0) dX0_init_36 ?_
  refine j_aload_n M dX0_init_39 rfl ?_
  refine j_aload_n M dX0_init_40 rfl ?_
  refine j_putF (host := "") (S2 := uR (uI (uM (uI (uI (uI (uI (uI S 8 a 0) 9 a 0) 10 a 1) 12 a 0) 13 a 0) 14 a none) 15 a 0) 0 a (some g)) M ha.1 (pAt_0 E _ ha.2) rfl inU_X0 0 (by decide) tyX0 tyX0_ok nmX0 wF_X0_34 (fun _ h => h) rfl hin rfl (tyX0_ok 0 (by decide)) rfl rfl (Nat.le_of_ble_eq_true rfl) rfl (pUp_0 E (uI (uM (uI (uI (uI (uI (uI S 8 a 0) 9 a 0) 10 a 1) 12 a 0) 13 a 0) 14 a none) 15 a 0) ha.2 (some g)) dX0_init_41 ?_
  refine j_aload_n M dX0_init_44 rfl ?_
  refine j_iload_n M dX0_init_45 rfl ?_
  refine j_put (host := "") (S2 := uI (uR (uI (uM (uI (uI (uI (uI (uI S 8 a 0) 9 a 0) 10 a 1) 12 a 0) 13 a 0) 14 a none) 15 a 0) 0 a (some g)) 1 a n) M ha.1 (pAt_0 E _ ha.2) rfl inU_X0 1 (by decide) tyX0 tyX0_ok nmX0 wF_X0_38 (fun _ h => h) rfl (tyX0_ok 1 (by decide)) rfl rfl (Nat.le_of_ble_eq_true rfl) rfl (pUp_1 E (uR (uI (uM (uI (uI (uI (uI (uI S 8 a 0) 9 a 0) 10 a 1) 12 a 0) 13 a 0) 14 a none) 15 a 0) 0 a (some g)) ha.2 n) dX0_init_46 ?_
  refine j_aload_n M dX0_init_49 rfl ?_
  refine j_iload_n M dX0_init_50 rfl ?_
  refine j_put (host := "") (S2 := uI (uI (uR (uI (uM (uI (uI (uI (uI (uI S 8 a 0) 9 a 0) 10 a 1) 12 a 0) 13 a 0) 14 a none) 15 a 0) 0 a (some g)) 1 a n) 2 a t) M ha.1 (pAt_0 E _ ha.2) rfl inU_X0 2 (by decide) tyX0 tyX0_ok nmX0 wF_X0_41 (fun _ h => h) rfl (tyX0_ok 2 (by decide)) rfl rfl (Nat.le_of_ble_eq_true rfl) rfl (pUp_2 E (uI (uR (uI (uM (uI (uI (uI (uI (uI S 8 a 0) 9 a 0) 10 a 1) 12 a 0) 13 a 0) 14 a none) 15 a 0) 0 a (some g)) 1 a n) ha.2 t) dX0_init_51 ?_
  refine j_aload_n M dX0_init_54 rfl ?_
  refine j_aload_n M dX0_init_55 rfl ?_
  refine j_iload_n M dX0_init_56 rfl ?_
  refine j_callV1 (As := [.int t]) M cf_X1_rowOf wM_X0_44 (c_rowOf0 (S := uI (uI (uR (uI (uM (uI (uI (uI (uI (uI S 8 a 0) 9 a 0) 10 a 1) 12 a 0) 13 a 0) 14 a none) 15 a 0) 0 a (some g)) 1 a n) 2 a t) hg t) hg.1 (pAt_1 E _ hg.2) rfl rfl ⟨Nat.le_of_ble_eq_true rfl, Nat.le_of_ble_eq_true rfl⟩ (Nat.le_of_ble_eq_true rfl) ⟨Nat.le_of_ble_eq_true rfl, Nat.le_of_ble_eq_true rfl⟩ dX0_init_57 rfl ?_
  refine j_put (host := "") (S2 := uI (uI (uI (uR (uI (uM (uI (uI (uI (uI (uI S 8 a 0) 9 a 0) 10 a 1) 12 a 0) 13 a 0) 14 a none) 15 a 0) 0 a (some g)) 1 a n) 2 a t) 3 a (m_rowOf0 (uI (uI (uR (uI (uM (uI (uI (uI (uI (uI S 8 a 0) 9 a 0) 10 a 1) 12 a 0) 13 a 0) 14 a none) 15 a 0) 0 a (some g)) 1 a n) 2 a t) g t)) M ha.1 (pAt_0 E _ ha.2) rfl inU_X0 3 (by decide) tyX0 tyX0_ok nmX0 wF_X0_50 (fun _ h => h) rfl (tyX0_ok 3 (by decide)) rfl rfl (Nat.le_of_ble_eq_true rfl) rfl (pUp_3 E (uI (uI (uR (uI (uM (uI (uI (uI (uI (uI S 8 a 0) 9 a 0) 10 a 1) 12 a 0) 13 a 0) 14 a none) 15 a 0) 0 a (some g)) 1 a n) 2 a t) ha.2 (m_rowOf0 (uI (uI (uR (uI (uM (uI (uI (uI (uI (uI S 8 a 0) 9 a 0) 10 a 1) 12 a 0) 13 a 0) 14 a none) 15 a 0) 0 a (some g)) 1 a n) 2 a t) g t)) dX0_init_60 ?_
  refine j_aload_n M dX0_init_63 rfl ?_
  refine j_aload_n M dX0_init_64 rfl ?_
  refine j_iload_n M dX0_init_65 rfl ?_
  refine j_callV1 (As := [.int t]) M cf_X1_columnOf wM_X0_53 (c_columnOf0 (S := uI (uI (uI (uR (uI (uM (uI (uI (uI (uI (uI S 8 a 0) 9 a 0) 10 a 1) 12 a 0) 13 a 0) 14 a none) 15 a 0) 0 a (some g)) 1 a n) 2 a t) 3 a (m_rowOf0 (uI (uI (uR (uI (uM (uI (uI (uI (uI (uI S 8 a 0) 9 a 0) 10 a 1) 12 a 0) 13 a 0) 14 a none) 15 a 0) 0 a (some g)) 1 a n) 2 a t) g t)) hg t) hg.1 (pAt_1 E _ hg.2) rfl rfl ⟨Nat.le_of_ble_eq_true rfl, Nat.le_of_ble_eq_true rfl⟩ (Nat.le_of_ble_eq_true rfl) ⟨Nat.le_of_ble_eq_true rfl, Nat.le_of_ble_eq_true rfl⟩ dX0_init_66 rfl ?_
  refine j_put (host := "") (S2 := uI (uI (uI (uI (uR (uI (uM (uI (uI (uI (uI (uI S 8 a 0) 9 a 0) 10 a 1) 12 a 0) 13 a 0) 14 a none) 15 a 0) 0 a (some g)) 1 a n) 2 a t) 3 a (m_rowOf0 (uI (uI (uR (uI (uM (uI (uI (uI (uI (uI S 8 a 0) 9 a 0) 10 a 1) 12 a 0) 13 a 0) 14 a none) 15 a 0) 0 a (some g)) 1 a n) 2 a t) g t)) 4 a (m_columnOf0 (uI (uI (uI (uR (uI (uM (uI (uI (uI (uI (uI S 8 a 0) 9 a 0) 10 a 1) 12 a 0) 13 a 0) 14 a none) 15 a 0) 0 a (some g)) 1 a n) 2 a t) 3 a (m_rowOf0 (uI (uI (uR (uI (uM (uI (uI (uI (uI (uI S 8 a 0) 9 a 0) 10 a 1) 12 a 0) 13 a 0) 14 a none) 15 a 0) 0 a (some g)) 1 a n) 2 a t) g t)) g t)) M ha.1 (pAt_0 E _ ha.2) rfl inU_X0 4 (by decide) tyX0 tyX0_ok nmX0 wF_X0_56 (fun _ h => h) rfl (tyX0_ok 4 (by decide)) rfl rfl (Nat.le_of_ble_eq_true rfl) rfl (pUp_4 E (uI (uI (uI (uR (uI (uM (uI (uI (uI (uI (uI S 8 a 0) 9 a 0) 10 a 1) 12 a 0) 13 a 0) 14 a none) 15 a 0) 0 a (some g)) 1 a n) 2 a t) 3 a (m_rowOf0 (uI (uI (uR (uI (uM (uI (uI (uI (uI (uI S 8 a 0) 9 a 0) 10 a 1) 12 a 0) 13 a 0) 14 a none) 15 a 0) 0 a (some g)) 1 a n) 2 a t) g t)) ha.2 (m_columnOf0 (uI (uI (uI (uR (uI (uM (uI (uI (uI (uI (uI S 8 a 0) 9 a 0) 10 a 1) 12 a 0) 13 a 0) 14 a none) 15 a 0) 0 a (some g)) 1 a n) 2 a t) 3 a (m_rowOf0 (uI (uI (uR (uI (uM (uI (uI (uI (uI (uI S 8 a 0) 9 a 0) 10 a 1) 12 a 0) 13 a 0) 14 a none) 15 a 0) 0 a (some g)) 1 a n) 2 a t) g t)) g t)) dX0_init_69 ?_
  refine j_aload_n M dX0_init_72 rfl ?_
  refine j_iload M dX0_init_73 rfl ?_
  refine j_put (host := "") (S2 := uI (uI (uI (uI (uI (uR (uI (uM (uI (uI (uI (uI (uI S 8 a 0) 9 a 0) 10 a 1) 12 a 0) 13 a 0) 14 a none) 15 a 0) 0 a (some g)) 1 a n) 2 a t) 3 a (m_rowOf0 (uI (uI (uR (uI (uM (uI (uI (uI (uI (uI S 8 a 0) 9 a 0) 10 a 1) 12 a 0) 13 a 0) 14 a none) 15 a 0) 0 a (some g)) 1 a n) 2 a t) g t)) 4 a (m_columnOf0 (uI (uI (uI (uR (uI (uM (uI (uI (uI (uI (uI S 8 a 0) 9 a 0) 10 a 1) 12 a 0) 13 a 0) 14 a none) 15 a 0) 0 a (some g)) 1 a n) 2 a t) 3 a (m_rowOf0 (uI (uI (uR (uI (uM (uI (uI (uI (uI (uI S 8 a 0) 9 a 0) 10 a 1) 12 a 0) 13 a 0) 14 a none) 15 a 0) 0 a (some g)) 1 a n) 2 a t) g t)) g t)) 5 a m1) M ha.1 (pAt_0 E _ ha.2) rfl inU_X0 5 (by decide) tyX0 tyX0_ok nmX0 wF_X0_59 (fun _ h => h) rfl (tyX0_ok 5 (by decide)) rfl rfl (Nat.le_of_ble_eq_true rfl) rfl (pUp_5 E (uI (uI (uI (uI (uR (uI (uM (uI (uI (uI (uI (uI S 8 a 0) 9 a 0) 10 a 1) 12 a 0) 13 a 0) 14 a none) 15 a 0) 0 a (some g)) 1 a n) 2 a t) 3 a (m_rowOf0 (uI (uI (uR (uI (uM (uI (uI (uI (uI (uI S 8 a 0) 9 a 0) 10 a 1) 12 a 0) 13 a 0) 14 a none) 15 a 0) 0 a (some g)) 1 a n) 2 a t) g t)) 4 a (m_columnOf0 (uI (uI (uI (uR (uI (uM (uI (uI (uI (uI (uI S 8 a 0) 9 a 0) 10 a 1) 12 a 0) 13 a 0) 14 a none) 15 a 0) 0 a (some g)) 1 a n) 2 a t) 3 a (m_rowOf0 (uI (uI (uR (uI (uM (uI (uI (uI (uI (uI S 8 a 0) 9 a 0) 10 a 1) 12 a 0) 13 a 0) 14 a none) 15 a 0) 0 a (some g)) 1 a n) 2 a t) g t)) g t)) ha.2 m1) dX0_init_75 ?_
  refine j_aload_n M dX0_init_78 rfl ?_
  refine j_iload M dX0_init_79 rfl ?_
  refine j_put (host := "") (S2 := uI (uI (uI (uI (uI (uI (uR (uI (uM (uI (uI (uI (uI (uI S 8 a 0) 9 a 0) 10 a 1) 12 a 0) 13 a 0) 14 a none) 15 a 0) 0 a (some g)) 1 a n) 2 a t) 3 a (m_rowOf0 (uI (uI (uR (uI (uM (uI (uI (uI (uI (uI S 8 a 0) 9 a 0) 10 a 1) 12 a 0) 13 a 0) 14 a none) 15 a 0) 0 a (some g)) 1 a n) 2 a t) g t)) 4 a (m_columnOf0 (uI (uI (uI (uR (uI (uM (uI (uI (uI (uI (uI S 8 a 0) 9 a 0) 10 a 1) 12 a 0) 13 a 0) 14 a none) 15 a 0) 0 a (some g)) 1 a n) 2 a t) 3 a (m_rowOf0 (uI (uI (uR (uI (uM (uI (uI (uI (uI (uI S 8 a 0) 9 a 0) 10 a 1) 12 a 0) 13 a 0) 14 a none) 15 a 0) 0 a (some g)) 1 a n) 2 a t) g t)) g t)) 5 a m1) 6 a r) M ha.1 (pAt_0 E _ ha.2) rfl inU_X0 6 (by decide) tyX0 tyX0_ok nmX0 wF_X0_62 (fun _ h => h) rfl (tyX0_ok 6 (by decide)) rfl rfl (Nat.le_of_ble_eq_true rfl) rfl (pUp_6 E (uI (uI (uI (uI (uI (uR (uI (uM (uI (uI (uI (uI (uI S 8 a 0) 9 a 0) 10 a 1) 12 a 0) 13 a 0) 14 a none) 15 a 0) 0 a (some g)) 1 a n) 2 a t) 3 a (m_rowOf0 (uI (uI (uR (uI (uM (uI (uI (uI (uI (uI S 8 a 0) 9 a 0) 10 a 1) 12 a 0) 13 a 0) 14 a none) 15 a 0) 0 a (some g)) 1 a n) 2 a t) g t)) 4 a (m_columnOf0 (uI (uI (uI (uR (uI (uM (uI (uI (uI (uI (uI S 8 a 0) 9 a 0) 10 a 1) 12 a 0) 13 a 0) 14 a none) 15 a 0) 0 a (some g)) 1 a n) 2 a t) 3 a (m_rowOf0 (uI (uI (uR (uI (uM (uI (uI (uI (uI (uI S 8 a 0) 9 a 0) 10 a 1) 12 a 0) 13 a 0) 14 a none) 15 a 0) 0 a (some g)) 1 a n) 2 a t) g t)) g t)) 5 a m1) ha.2 r) dX0_init_81 ?_
  refine j_aload_n M dX0_init_84 rfl ?_
  refine j_iload M dX0_init_85 rfl ?_
  refine j_put (host := "") (S2 := uI (uI (uI (uI (uI (uI (uI (uR (uI (uM (uI (uI (uI (uI (uI S 8 a 0) 9 a 0) 10 a 1) 12 a 0) 13 a 0) 14 a none) 15 a 0) 0 a (some g)) 1 a n) 2 a t) 3 a (m_rowOf0 (uI (uI (uR (uI (uM (uI (uI (uI (uI (uI S 8 a 0) 9 a 0) 10 a 1) 12 a 0) 13 a 0) 14 a none) 15 a 0) 0 a (some g)) 1 a n) 2 a t) g t)) 4 a (m_columnOf0 (uI (uI (uI (uR (uI (uM (uI (uI (uI (uI (uI S 8 a 0) 9 a 0) 10 a 1) 12 a 0) 13 a 0) 14 a none) 15 a 0) 0 a (some g)) 1 a n) 2 a t) 3 a (m_rowOf0 (uI (uI (uR (uI (uM (uI (uI (uI (uI (uI S 8 a 0) 9 a 0) 10 a 1) 12 a 0) 13 a 0) 14 a none) 15 a 0) 0 a (some g)) 1 a n) 2 a t) g t)) g t)) 5 a m1) 6 a r) 7 a o) M ha.1 (pAt_0 E _ ha.2) rfl inU_X0 7 (by decide) tyX0 tyX0_ok nmX0 wF_X0_65 (fun _ h => h) rfl (tyX0_ok 7 (by decide)) rfl rfl (Nat.le_of_ble_eq_true rfl) rfl (pUp_7 E (uI (uI (uI (uI (uI (uI (uR (uI (uM (uI (uI (uI (uI (uI S 8 a 0) 9 a 0) 10 a 1) 12 a 0) 13 a 0) 14 a none) 15 a 0) 0 a (some g)) 1 a n) 2 a t) 3 a (m_rowOf0 (uI (uI (uR (uI (uM (uI (uI (uI (uI (uI S 8 a 0) 9 a 0) 10 a 1) 12 a 0) 13 a 0) 14 a none) 15 a 0) 0 a (some g)) 1 a n) 2 a t) g t)) 4 a (m_columnOf0 (uI (uI (uI (uR (uI (uM (uI (uI (uI (uI (uI S 8 a 0) 9 a 0) 10 a 1) 12 a 0) 13 a 0) 14 a none) 15 a 0) 0 a (some g)) 1 a n) 2 a t) 3 a (m_rowOf0 (uI (uI (uR (uI (uM (uI (uI (uI (uI (uI S 8 a 0) 9 a 0) 10 a 1) 12 a 0) 13 a 0) 14 a none) 15 a 0) 0 a (some g)) 1 a n) 2 a t) g t)) g t)) 5 a m1) 6 a r) ha.2 o) dX0_init_87 ?_
  refine j_aload_n M dX0_init_90 rfl ?_
  refine j_iload M dX0_init_91 rfl ?_
  refine j_iconst (v := 1) M dX0_init_93 (by decide +kernel) ?_
  refine j_isub M dX0_init_94 ?_
  refine j_put (host := "") (S2 := uI (uI (uI (uI (uI (uI (uI (uI (uR (uI (uM (uI (uI (uI (uI (uI S 8 a 0) 9 a 0) 10 a 1) 12 a 0) 13 a 0) 14 a none) 15 a 0) 0 a (some g)) 1 a n) 2 a t) 3 a (m_rowOf0 (uI (uI (uR (uI (uM (uI (uI (uI (uI (uI S 8 a 0) 9 a 0) 10 a 1) 12 a 0) 13 a 0) 14 a none) 15 a 0) 0 a (some g)) 1 a n) 2 a t) g t)) 4 a (m_columnOf0 (uI (uI (uI (uR (uI (uM (uI (uI (uI (uI (uI S 8 a 0) 9 a 0) 10 a 1) 12 a 0) 13 a 0) 14 a none) 15 a 0) 0 a (some g)) 1 a n) 2 a t) 3 a (m_rowOf0 (uI (uI (uR (uI (uM (uI (uI (uI (uI (uI S 8 a 0) 9 a 0) 10 a 1) 12 a 0) 13 a 0) 14 a none) 15 a 0) 0 a (some g)) 1 a n) 2 a t) g t)) g t)) 5 a m1) 6 a r) 7 a o) 11 a (m1 - 1)) M ha.1 (pAt_0 E _ ha.2) rfl inU_X0 11 (by decide) tyX0 tyX0_ok nmX0 wF_X0_68 (fun _ h => h) rfl (tyX0_ok 11 (by decide)) rfl rfl (Nat.le_of_ble_eq_true rfl) rfl (pUp_11 E (uI (uI (uI (uI (uI (uI (uI (uR (uI (uM (uI (uI (uI (uI (uI S 8 a 0) 9 a 0) 10 a 1) 12 a 0) 13 a 0) 14 a none) 15 a 0) 0 a (some g)) 1 a n) 2 a t) 3 a (m_rowOf0 (uI (uI (uR (uI (uM (uI (uI (uI (uI (uI S 8 a 0) 9 a 0) 10 a 1) 12 a 0) 13 a 0) 14 a none) 15 a 0) 0 a (some g)) 1 a n) 2 a t) g t)) 4 a (m_columnOf0 (uI (uI (uI (uR (uI (uM (uI (uI (uI (uI (uI S 8 a 0) 9 a 0) 10 a 1) 12 a 0) 13 a 0) 14 a none) 15 a 0) 0 a (some g)) 1 a n) 2 a t) 3 a (m_rowOf0 (uI (uI (uR (uI (uM (uI (uI (uI (uI (uI S 8 a 0) 9 a 0) 10 a 1) 12 a 0) 13 a 0) 14 a none) 15 a 0) 0 a (some g)) 1 a n) 2 a t) g t)) g t)) 5 a m1) 6 a r) 7 a o) ha.2 (m1 - 1)) dX0_init_95 ?_
  exact j_vret M dX0_init_98 (Nat.le_refl _) (Nat.le_refl _) ⟨rfl, rfl⟩
abbrev n_Ground (S : PS) (a q1 : Nat) : PS := uI (uI (uR (nwA S q1 196 (fun _ => 0)) 16 a (some q1)) 17 a 0) 18 a 0
theorem cf_X1_init : CFi yX1_init cX1_init 1 0 := ⟨wC_X1_init, wI_X1_init, wN_X1, by decide +kernel⟩
set_option maxHeartbeats 4000000 in
set_option maxRecDepth 100000 in
theorem ci_Ground {l : Launch} {E : EV} {S : PS} {a : Nat} (ha : InK S a 1) : CT l yX1_init cX1_init 1 none 1 12 1 196 E [.ref a] S (fun v u => v = none ∧ ∃ q1 : Nat, q1 ∉ sL S ∧ u = n_Ground S a q1) := by
  refine CT.of (by decide) (Nat.le_of_ble_eq_true rfl) ?_
  intro p e s m below meth c M hin
  have M : MC E p s m _ meth c cX1_init RX1 1 none := M
  show J p l e _ s m _ below meth c _ E 1 0 [(0, .ref a)] [] S 0 0
  refine j_aload_n M dX1_init_0 rfl ?_
  refine j_obj M wM_X1_3 wI_objectInit wC_objectInit dX1_init_1 (Nat.le_of_ble_eq_true rfl) (Nat.le_of_ble_eq_true rfl) ?_
  refine j_aload_n M dX1_init_4 rfl ?_
  refine j_sipush (v := 196) M dX1_init_5 (by decide +kernel) ?_
  refine j_newi M (by decide) (by decide) ⟨Nat.le_of_ble_eq_true rfl, Nat.le_of_ble_eq_true rfl⟩ dX1_init_8 (fun q1 hq1 => ?_)
  have ha_5 := ink_nwA (n := 196) (r := fun _ => 0) ha hq1
  have hn_q1 := ink_nA (S := S) (q := q1) (n := 196) (r := fun _ => 0)
  show J p l e _ s m _ below meth c _ E 1 10 [(0, .ref a)] [.ref q1, .ref a] (nwA S q1 196 (fun _ => 0)) 1 196
  refine j_putF (host := "") (S2 := uR (nwA S q1 196 (fun _ => 0)) 16 a (some q1)) M ha_5.1 (pAt_1 E _ ha_5.2) rfl inU_X1 0 (by decide) tyX1 tyX1_ok nmX1 wF_X1_9 (fun _ h => h) rfl hin rfl (tyX1_ok 0 (by decide)) rfl rfl (Nat.le_of_ble_eq_true rfl) rfl (pUp_16 E (nwA S q1 196 (fun _ => 0)) ha_5.2 (some q1)) dX1_init_10 ?_
  refine j_aload_n M dX1_init_13 rfl ?_
  refine j_iconst (v := 0) M dX1_init_14 (by decide +kernel) ?_
  refine j_put (host := "") (S2 := uI (uR (nwA S q1 196 (fun _ => 0)) 16 a (some q1)) 17 a 0) M ha_5.1 (pAt_1 E _ ha_5.2) rfl inU_X1 1 (by decide) tyX1 tyX1_ok nmX1 wF_X1_15 (fun _ h => h) rfl (tyX1_ok 1 (by decide)) rfl rfl (Nat.le_of_ble_eq_true rfl) rfl (pUp_17 E (uR (nwA S q1 196 (fun _ => 0)) 16 a (some q1)) ha_5.2 0) dX1_init_15 ?_
  refine j_aload_n M dX1_init_18 rfl ?_
  refine j_iconst (v := 0) M dX1_init_19 (by decide +kernel) ?_
  refine j_put (host := "") (S2 := uI (uI (uR (nwA S q1 196 (fun _ => 0)) 16 a (some q1)) 17 a 0) 18 a 0) M ha_5.1 (pAt_1 E _ ha_5.2) rfl inU_X1 2 (by decide) tyX1 tyX1_ok nmX1 wF_X1_19 (fun _ h => h) rfl (tyX1_ok 2 (by decide)) rfl rfl (Nat.le_of_ble_eq_true rfl) rfl (pUp_18 E (uI (uR (nwA S q1 196 (fun _ => 0)) 16 a (some q1)) 17 a 0) ha_5.2 0) dX1_init_20 ?_
  exact j_vret M dX1_init_23 (Nat.le_refl _) (Nat.le_refl _) ⟨rfl, q1, hq1, rfl⟩
abbrev n_Plans (S : PS) (a site tr q1 q2 q3 q4 : Nat) : PS := uR (uR (uR (nwA (uR (nwA (uR (nwA (uR (nwA S q1 196 (fun _ => 0)) 25 a (some q1)) q2 72 (fun _ => 0)) 26 a (some q2)) q3 4 (fun _ => 0)) 27 a (some q3)) q4 4 (fun _ => 0)) 28 a (some q4)) 23 a (some site)) 24 a (some tr)
theorem cf_X3_init : CFi yX3_init cX3_init 2 1 := ⟨wC_X3_init, wI_X3_init, wN_X3, by decide +kernel⟩
set_option maxHeartbeats 4000000 in
set_option maxRecDepth 100000 in
theorem ci_Plans {l : Launch} {E : EV} {S : PS} {a : Nat} (ha : InK S a 3) {site : Nat} (hsite : InK S site 5) {tr : Nat} (htr : sR S 38 site = some tr) : CT l yX3_init cX3_init 2 none 1 12 4 276 E [.ref a, .ref site] S (fun v u => v = none ∧ ∃ q1 : Nat, q1 ∉ sL S ∧ ∃ q2 : Nat, q2 ∉ (sL S ++ [q1]) ∧ ∃ q3 : Nat, q3 ∉ ((sL S ++ [q1]) ++ [q2]) ∧ ∃ q4 : Nat, q4 ∉ (((sL S ++ [q1]) ++ [q2]) ++ [q3]) ∧ u = n_Plans S a site tr q1 q2 q3 q4) := by
  refine CT.of (by decide) (Nat.le_of_ble_eq_true rfl) ?_
  intro p e s m below meth c M hin
  have M : MC E p s m _ meth c cX3_init RX3 2 none := M
  show J p l e _ s m _ below meth c _ E 2 0 [(0, .ref a), (1, .ref site)] [] S 0 0
  refine j_aload_n M dX3_init_0 rfl ?_
  refine j_obj M wM_X3_3 wI_objectInit wC_objectInit dX3_init_1 (Nat.le_of_ble_eq_true rfl) (Nat.le_of_ble_eq_true rfl) ?_
  refine j_aload_n M dX3_init_4 rfl ?_
  refine j_sipush (v := 196) M dX3_init_5 (by decide +kernel) ?_
  refine j_newi M (by decide) (by decide) ⟨Nat.le_of_ble_eq_true rfl, Nat.le_of_ble_eq_true rfl⟩ dX3_init_8 (fun q1 hq1 => ?_)
  have ha_5 := ink_nwA (n := 196) (r := fun _ => 0) ha hq1
  have hsite_6 := ink_nwA (n := 196) (r := fun _ => 0) hsite hq1
  have hn_q1 := ink_nA (S := S) (q := q1) (n := 196) (r := fun _ => 0)
  show J p l e _ s m _ below meth c _ E 2 10 [(0, .ref a), (1, .ref site)] [.ref q1, .ref a] (nwA S q1 196 (fun _ => 0)) 1 196
  refine j_putF (host := "") (S2 := uR (nwA S q1 196 (fun _ => 0)) 25 a (some q1)) M ha_5.1 (pAt_3 E _ ha_5.2) rfl inU_X3 2 (by decide) tyX3 tyX3_ok nmX3 wF_X3_9 (fun _ h => h) rfl hin rfl (tyX3_ok 2 (by decide)) rfl rfl (Nat.le_of_ble_eq_true rfl) rfl (pUp_25 E (nwA S q1 196 (fun _ => 0)) ha_5.2 (some q1)) dX3_init_10 ?_
  refine j_aload_n M dX3_init_13 rfl ?_
  refine j_bipush (v := 72) M dX3_init_14 (by decide +kernel) ?_
  refine j_newi M (by decide) (by decide) ⟨Nat.le_of_ble_eq_true rfl, Nat.le_of_ble_eq_true rfl⟩ dX3_init_16 (fun q2 hq2 => ?_)
  have ha_13 := ink_nwA (n := 72) (r := fun _ => 0) ha_5 hq2
  have hsite_14 := ink_nwA (n := 72) (r := fun _ => 0) hsite_6 hq2
  have hn_15 := ink_nwA (n := 72) (r := fun _ => 0) hn_q1 hq2
  have hn_q2 := ink_nA (S := uR (nwA S q1 196 (fun _ => 0)) 25 a (some q1)) (q := q2) (n := 72) (r := fun _ => 0)
  show J p l e _ s m _ below meth c _ E 2 18 [(0, .ref a), (1, .ref site)] [.ref q2, .ref a] (nwA (uR (nwA S q1 196 (fun _ => 0)) 25 a (some q1)) q2 72 (fun _ => 0)) 2 268
  refine j_putF (host := "") (S2 := uR (nwA (uR (nwA S q1 196 (fun _ => 0)) 25 a (some q1)) q2 72 (fun _ => 0)) 26 a (some q2)) M ha_13.1 (pAt_3 E _ ha_13.2) rfl inU_X3 3 (by decide) tyX3 tyX3_ok nmX3 wF_X3_15 (fun _ h => h) rfl hin rfl (tyX3_ok 3 (by decide)) rfl rfl (Nat.le_of_ble_eq_true rfl) rfl (pUp_26 E (nwA (uR (nwA S q1 196 (fun _ => 0)) 25 a (some q1)) q2 72 (fun _ => 0)) ha_13.2 (some q2)) dX3_init_18 ?_
  refine j_aload_n M dX3_init_21 rfl ?_
  refine j_iconst (v := 4) M dX3_init_22 (by decide +kernel) ?_
  refine j_newi M (by decide) (by decide) ⟨Nat.le_of_ble_eq_true rfl, Nat.le_of_ble_eq_true rfl⟩ dX3_init_23 (fun q3 hq3 => ?_)
  have ha_22 := ink_nwA (n := 4) (r := fun _ => 0) ha_13 hq3
  have hsite_23 := ink_nwA (n := 4) (r := fun _ => 0) hsite_14 hq3
  have hn_24 := ink_nwA (n := 4) (r := fun _ => 0) hn_15 hq3
  have hn_25 := ink_nwA (n := 4) (r := fun _ => 0) hn_q2 hq3
  have hn_q3 := ink_nA (S := uR (nwA (uR (nwA S q1 196 (fun _ => 0)) 25 a (some q1)) q2 72 (fun _ => 0)) 26 a (some q2)) (q := q3) (n := 4) (r := fun _ => 0)
  show J p l e _ s m _ below meth c _ E 2 25 [(0, .ref a), (1, .ref site)] [.ref q3, .ref a] (nwA (uR (nwA (uR (nwA S q1 196 (fun _ => 0)) 25 a (some q1)) q2 72 (fun _ => 0)) 26 a (some q2)) q3 4 (fun _ => 0)) 3 272
  refine j_putF (host := "") (S2 := uR (nwA (uR (nwA (uR (nwA S q1 196 (fun _ => 0)) 25 a (some q1)) q2 72 (fun _ => 0)) 26 a (some q2)) q3 4 (fun _ => 0)) 27 a (some q3)) M ha_22.1 (pAt_3 E _ ha_22.2) rfl inU_X3 4 (by decide) tyX3 tyX3_ok nmX3 wF_X3_18 (fun _ h => h) rfl hin rfl (tyX3_ok 4 (by decide)) rfl rfl (Nat.le_of_ble_eq_true rfl) rfl (pUp_27 E (nwA (uR (nwA (uR (nwA S q1 196 (fun _ => 0)) 25 a (some q1)) q2 72 (fun _ => 0)) 26 a (some q2)) q3 4 (fun _ => 0)) ha_22.2 (some q3)) dX3_init_25 ?_
  refine j_aload_n M dX3_init_28 rfl ?_
  refine j_iconst (v := 4) M dX3_init_29 (by decide +kernel) ?_
  refine j_newi M (by decide) (by decide) ⟨Nat.le_of_ble_eq_true rfl, Nat.le_of_ble_eq_true rfl⟩ dX3_init_30 (fun q4 hq4 => ?_)
  have ha_32 := ink_nwA (n := 4) (r := fun _ => 0) ha_22 hq4
  have hsite_33 := ink_nwA (n := 4) (r := fun _ => 0) hsite_23 hq4
  have hn_34 := ink_nwA (n := 4) (r := fun _ => 0) hn_24 hq4
  have hn_35 := ink_nwA (n := 4) (r := fun _ => 0) hn_25 hq4
  have hn_36 := ink_nwA (n := 4) (r := fun _ => 0) hn_q3 hq4
  have hn_q4 := ink_nA (S := uR (nwA (uR (nwA (uR (nwA S q1 196 (fun _ => 0)) 25 a (some q1)) q2 72 (fun _ => 0)) 26 a (some q2)) q3 4 (fun _ => 0)) 27 a (some q3)) (q := q4) (n := 4) (r := fun _ => 0)
  show J p l e _ s m _ below meth c _ E 2 32 [(0, .ref a), (1, .ref site)] [.ref q4, .ref a] (nwA (uR (nwA (uR (nwA (uR (nwA S q1 196 (fun _ => 0)) 25 a (some q1)) q2 72 (fun _ => 0)) 26 a (some q2)) q3 4 (fun _ => 0)) 27 a (some q3)) q4 4 (fun _ => 0)) 4 276
  refine j_putF (host := "") (S2 := uR (nwA (uR (nwA (uR (nwA (uR (nwA S q1 196 (fun _ => 0)) 25 a (some q1)) q2 72 (fun _ => 0)) 26 a (some q2)) q3 4 (fun _ => 0)) 27 a (some q3)) q4 4 (fun _ => 0)) 28 a (some q4)) M ha_32.1 (pAt_3 E _ ha_32.2) rfl inU_X3 5 (by decide) tyX3 tyX3_ok nmX3 wF_X3_21 (fun _ h => h) rfl hin rfl (tyX3_ok 5 (by decide)) rfl rfl (Nat.le_of_ble_eq_true rfl) rfl (pUp_28 E (nwA (uR (nwA (uR (nwA (uR (nwA S q1 196 (fun _ => 0)) 25 a (some q1)) q2 72 (fun _ => 0)) 26 a (some q2)) q3 4 (fun _ => 0)) 27 a (some q3)) q4 4 (fun _ => 0)) ha_32.2 (some q4)) dX3_init_32 ?_
  refine j_aload_n M dX3_init_35 rfl ?_
  refine j_aload_n M dX3_init_36 rfl ?_
  refine j_putF (host := "") (S2 := uR (uR (nwA (uR (nwA (uR (nwA (uR (nwA S q1 196 (fun _ => 0)) 25 a (some q1)) q2 72 (fun _ => 0)) 26 a (some q2)) q3 4 (fun _ => 0)) 27 a (some q3)) q4 4 (fun _ => 0)) 28 a (some q4)) 23 a (some site)) M ha_32.1 (pAt_3 E _ ha_32.2) rfl inU_X3 0 (by decide) tyX3 tyX3_ok nmX3 wF_X3_24 (fun _ h => h) rfl hin rfl (tyX3_ok 0 (by decide)) rfl rfl (Nat.le_of_ble_eq_true rfl) rfl (pUp_23 E (uR (nwA (uR (nwA (uR (nwA (uR (nwA S q1 196 (fun _ => 0)) 25 a (some q1)) q2 72 (fun _ => 0)) 26 a (some q2)) q3 4 (fun _ => 0)) 27 a (some q3)) q4 4 (fun _ => 0)) 28 a (some q4)) ha_32.2 (some site)) dX3_init_37 ?_
  refine j_aload_n M dX3_init_40 rfl ?_
  refine j_aload_n M dX3_init_41 rfl ?_
  refine j_getN (v := .ref tr) M hsite_33.1 (pAt_5 E _ hsite_33.2) rfl inU_X5 6 (by decide) nF_X3_28 (fun _ h => h) (rfv htr) dX3_init_42 ?_
  refine j_putF (host := "") (S2 := uR (uR (uR (nwA (uR (nwA (uR (nwA (uR (nwA S q1 196 (fun _ => 0)) 25 a (some q1)) q2 72 (fun _ => 0)) 26 a (some q2)) q3 4 (fun _ => 0)) 27 a (some q3)) q4 4 (fun _ => 0)) 28 a (some q4)) 23 a (some site)) 24 a (some tr)) M ha_32.1 (pAt_3 E _ ha_32.2) rfl inU_X3 1 (by decide) tyX3 tyX3_ok nmX3 wF_X3_34 (fun _ h => h) rfl hin rfl (tyX3_ok 1 (by decide)) rfl rfl (Nat.le_of_ble_eq_true rfl) rfl (pUp_24 E (uR (uR (nwA (uR (nwA (uR (nwA (uR (nwA S q1 196 (fun _ => 0)) 25 a (some q1)) q2 72 (fun _ => 0)) 26 a (some q2)) q3 4 (fun _ => 0)) 27 a (some q3)) q4 4 (fun _ => 0)) 28 a (some q4)) 23 a (some site)) ha_32.2 (some tr)) dX3_init_45 ?_
  exact j_vret M dX3_init_48 (Nat.le_refl _) (Nat.le_refl _) ⟨rfl, q1, hq1, q2, hq2, q3, hq3, q4, hq4, rfl⟩
