def m_cells (K : Nat → Nat) (S : PS) : Int32 :=
  (sI S 17 (K 2)) * (sI S 18 (K 2))
theorem cf_X1_cells : CFv yX1_cells RX1 cX1_cells 1 (some .int) 0 := ⟨wC_X1_cells, wI_X1_cells, wV_X1_X1_cells, wN_X1, by decide +kernel⟩
set_option maxHeartbeats 4000000 in
set_option maxRecDepth 100000 in
theorem c_cells {l : Launch} {E : EV} {K : Nat → Nat} {S : PS} (hW : WS K S) : CT l yX1_cells cX1_cells 1 (some .int) 0 0 0 0 E [.ref (K 2)] S (pv (.int (m_cells K S)) S) := by
  refine CT.of (by decide) (Nat.le_of_ble_eq_true rfl) ?_
  intro p e s m below meth c M hin
  have M : MC E p s m _ meth c cX1_cells RX1 1 (some .int) := M
  show J p l e _ s m _ below meth c _ E 1 0 [(0, .ref (K 2))] [] S 0 0
  refine j_aload_n M dX1_cells_0 rfl ?_
  refine j_get (v := .int (sI S 17 (K 2))) M hW.k2.1 (pAt_1 E _ hW.k2.2) rfl inU_X1 1 (by decide) wF_X1_15 (fun _ h => h) rfl dX1_cells_1 ?_
  refine j_aload_n M dX1_cells_4 rfl ?_
  refine j_get (v := .int (sI S 18 (K 2))) M hW.k2.1 (pAt_1 E _ hW.k2.2) rfl inU_X1 2 (by decide) wF_X1_19 (fun _ h => h) rfl dX1_cells_5 ?_
  refine j_imul M dX1_cells_8 ?_
  exact j_iret (v := ((sI S 17 (K 2)) * (sI S 18 (K 2)))) M dX1_cells_9 (Nat.le_refl _) (Nat.le_refl _) ⟨congrArg (fun z => some (Value.int z)) (show ((sI S 17 (K 2)) * (sI S 18 (K 2))) = m_cells K S from rfl), rfl⟩
def m_hasCell (K : Nat → Nat) (S : PS) (x : Int32) : Int32 :=
  if x < 0 then
    0
  else
    if (m_cells K S) ≤ x then
      0
    else
      1
theorem cf_X1_hasCell : CFv yX1_hasCell RX1 cX1_hasCell 2 (some .boolean) 1 := ⟨wC_X1_hasCell, wI_X1_hasCell, wV_X1_X1_hasCell, wN_X1, by decide +kernel⟩
set_option maxHeartbeats 4000000 in
set_option maxRecDepth 100000 in
theorem c_hasCell {l : Launch} {E : EV} {K : Nat → Nat} {S : PS} (hW : WS K S) (x : Int32) : CT l yX1_hasCell cX1_hasCell 2 (some .boolean) 1 20 0 0 E [.ref (K 2), .int x] S (pv (.int (m_hasCell K S x)) S) := by
  refine CT.of (by decide) (Nat.le_of_ble_eq_true rfl) ?_
  intro p e s m below meth c M hin
  have M : MC E p s m _ meth c cX1_hasCell RX1 2 (some .boolean) := M
  show J p l e _ s m _ below meth c _ E 2 0 [(0, .ref (K 2)), (1, .int x)] [] S 0 0
  refine j_iload_n M dX1_hasCell_0 rfl ?_
  refine j_if_lt (tgt := 16) M dX1_hasCell_1 (by decide) (fun c1 => ?_) (fun c1 => ?_)
  · refine j_iconst (v := 0) M dX1_hasCell_16 (by decide) ?_
    exact j_zret (v := 0) M dX1_hasCell_17 (Nat.le_refl _) (Nat.le_refl _) rfl ⟨congrArg (fun z => some (Value.int z)) (show 0 = m_hasCell K S x from (by unfold m_hasCell; rw [if_pos c1])), rfl⟩
  · refine j_iload_n M dX1_hasCell_4 rfl ?_
    refine j_aload_n M dX1_hasCell_5 rfl ?_
    refine j_callV1 (As := []) M cf_X1_cells wM_X1_28 (c_cells hW) hW.k2.1 (pAt_1 E _ hW.k2.2) rfl rfl ⟨Nat.le_of_ble_eq_true rfl, Nat.le_of_ble_eq_true rfl⟩ (Nat.le_of_ble_eq_true rfl) ⟨Nat.zero_le _, Nat.zero_le _⟩ dX1_hasCell_6 rfl ?_
    refine j_icmp_ge (tgt := 16) M dX1_hasCell_9 (by decide) (fun c2 => ?_) (fun c2 => ?_)
    · refine j_iconst (v := 0) M dX1_hasCell_16 (by decide) ?_
      exact j_zret (v := 0) M dX1_hasCell_17 (Nat.le_refl _) (Nat.le_refl _) rfl ⟨congrArg (fun z => some (Value.int z)) (show 0 = m_hasCell K S x from (by unfold m_hasCell; rw [if_neg c1, if_pos c2])), rfl⟩
    · refine j_iconst (v := 1) M dX1_hasCell_12 (by decide) ?_
      refine j_goto (tgt := 17) M dX1_hasCell_13 (by decide) ?_
      exact j_zret (v := 1) M dX1_hasCell_17 (Nat.le_refl _) (Nat.le_refl _) rfl ⟨congrArg (fun z => some (Value.int z)) (show 1 = m_hasCell K S x from (by unfold m_hasCell; rw [if_neg c1, if_neg c2])), rfl⟩
def m_hasPlace (K : Nat → Nat) (S : PS) (r : Int32) (q : Int32) : Int32 :=
  if r < 0 then
    0
  else
    if (sI S 18 (K 2)) ≤ r then
      0
    else
      if q < 0 then
        0
      else
        if (sI S 17 (K 2)) ≤ q then
          0
        else
          1
theorem cf_X1_hasPlace : CFv yX1_hasPlace RX1 cX1_hasPlace 3 (some .boolean) 2 := ⟨wC_X1_hasPlace, wI_X1_hasPlace, wV_X1_X1_hasPlace, wN_X1, by decide +kernel⟩
set_option maxHeartbeats 4000000 in
set_option maxRecDepth 100000 in
theorem c_hasPlace {l : Launch} {E : EV} {K : Nat → Nat} {S : PS} (hW : WS K S) (r : Int32) (q : Int32) : CT l yX1_hasPlace cX1_hasPlace 3 (some .boolean) 0 0 0 0 E [.ref (K 2), .int r, .int q] S (pv (.int (m_hasPlace K S r q)) S) := by
  refine CT.of (by decide) (Nat.le_of_ble_eq_true rfl) ?_
  intro p e s m below meth c M hin
  have M : MC E p s m _ meth c cX1_hasPlace RX1 3 (some .boolean) := M
  show J p l e _ s m _ below meth c _ E 3 0 [(0, .ref (K 2)), (1, .int r), (2, .int q)] [] S 0 0
  refine j_iload_n M dX1_hasPlace_0 rfl ?_
  refine j_if_lt (tgt := 28) M dX1_hasPlace_1 (by decide) (fun c1 => ?_) (fun c1 => ?_)
  · refine j_iconst (v := 0) M dX1_hasPlace_28 (by decide) ?_
    exact j_zret (v := 0) M dX1_hasPlace_29 (Nat.le_refl _) (Nat.le_refl _) rfl ⟨congrArg (fun z => some (Value.int z)) (show 0 = m_hasPlace K S r q from (by unfold m_hasPlace; rw [if_pos c1])), rfl⟩
  · refine j_iload_n M dX1_hasPlace_4 rfl ?_
    refine j_aload_n M dX1_hasPlace_5 rfl ?_
    refine j_get (v := .int (sI S 18 (K 2))) M hW.k2.1 (pAt_1 E _ hW.k2.2) rfl inU_X1 2 (by decide) wF_X1_19 (fun _ h => h) rfl dX1_hasPlace_6 ?_
    refine j_icmp_ge (tgt := 28) M dX1_hasPlace_9 (by decide) (fun c2 => ?_) (fun c2 => ?_)
    · refine j_iconst (v := 0) M dX1_hasPlace_28 (by decide) ?_
      exact j_zret (v := 0) M dX1_hasPlace_29 (Nat.le_refl _) (Nat.le_refl _) rfl ⟨congrArg (fun z => some (Value.int z)) (show 0 = m_hasPlace K S r q from (by unfold m_hasPlace; rw [if_neg c1, if_pos c2])), rfl⟩
    · refine j_iload_n M dX1_hasPlace_12 rfl ?_
      refine j_if_lt (tgt := 28) M dX1_hasPlace_13 (by decide) (fun c3 => ?_) (fun c3 => ?_)
      · refine j_iconst (v := 0) M dX1_hasPlace_28 (by decide) ?_
        exact j_zret (v := 0) M dX1_hasPlace_29 (Nat.le_refl _) (Nat.le_refl _) rfl ⟨congrArg (fun z => some (Value.int z)) (show 0 = m_hasPlace K S r q from (by unfold m_hasPlace; rw [if_neg c1, if_neg c2, if_pos c3])), rfl⟩
      · refine j_iload_n M dX1_hasPlace_16 rfl ?_
        refine j_aload_n M dX1_hasPlace_17 rfl ?_
        refine j_get (v := .int (sI S 17 (K 2))) M hW.k2.1 (pAt_1 E _ hW.k2.2) rfl inU_X1 1 (by decide) wF_X1_15 (fun _ h => h) rfl dX1_hasPlace_18 ?_
        refine j_icmp_ge (tgt := 28) M dX1_hasPlace_21 (by decide) (fun c4 => ?_) (fun c4 => ?_)
        · refine j_iconst (v := 0) M dX1_hasPlace_28 (by decide) ?_
          exact j_zret (v := 0) M dX1_hasPlace_29 (Nat.le_refl _) (Nat.le_refl _) rfl ⟨congrArg (fun z => some (Value.int z)) (show 0 = m_hasPlace K S r q from (by unfold m_hasPlace; rw [if_neg c1, if_neg c2, if_neg c3, if_pos c4])), rfl⟩
        · refine j_iconst (v := 1) M dX1_hasPlace_24 (by decide) ?_
          refine j_goto (tgt := 29) M dX1_hasPlace_25 (by decide) ?_
          exact j_zret (v := 1) M dX1_hasPlace_29 (Nat.le_refl _) (Nat.le_refl _) rfl ⟨congrArg (fun z => some (Value.int z)) (show 1 = m_hasPlace K S r q from (by unfold m_hasPlace; rw [if_neg c1, if_neg c2, if_neg c3, if_neg c4])), rfl⟩
def m_cellAt (K : Nat → Nat) (S : PS) (r : Int32) (q : Int32) : Int32 :=
  if (m_hasPlace K S r q) = 0 then
    (-1)
  else
    (r * (sI S 17 (K 2))) + q
theorem cf_X1_cellAt : CFv yX1_cellAt RX1 cX1_cellAt 3 (some .int) 2 := ⟨wC_X1_cellAt, wI_X1_cellAt, wV_X1_X1_cellAt, wN_X1, by decide +kernel⟩
set_option maxHeartbeats 4000000 in
set_option maxRecDepth 100000 in
theorem c_cellAt {l : Launch} {E : EV} {K : Nat → Nat} {S : PS} (hW : WS K S) (r : Int32) (q : Int32) : CT l yX1_cellAt cX1_cellAt 3 (some .int) 1 22 0 0 E [.ref (K 2), .int r, .int q] S (pv (.int (m_cellAt K S r q)) S) := by
  refine CT.of (by decide) (Nat.le_of_ble_eq_true rfl) ?_
  intro p e s m below meth c M hin
  have M : MC E p s m _ meth c cX1_cellAt RX1 3 (some .int) := M
  show J p l e _ s m _ below meth c _ E 3 0 [(0, .ref (K 2)), (1, .int r), (2, .int q)] [] S 0 0
  refine j_aload_n M dX1_cellAt_0 rfl ?_
  refine j_iload_n M dX1_cellAt_1 rfl ?_
  refine j_iload_n M dX1_cellAt_2 rfl ?_
  refine j_callV1 (As := [.int r, .int q]) M cf_X1_hasPlace wM_X1_32 (c_hasPlace hW r q) hW.k2.1 (pAt_1 E _ hW.k2.2) rfl rfl ⟨Nat.le_of_ble_eq_true rfl, Nat.le_of_ble_eq_true rfl⟩ (Nat.le_of_ble_eq_true rfl) ⟨Nat.zero_le _, Nat.zero_le _⟩ dX1_cellAt_3 rfl ?_
  refine j_if_eq (tgt := 20) M dX1_cellAt_6 (by decide) (fun c1 => ?_) (fun c1 => ?_)
  · refine j_iconst (v := (-1)) M dX1_cellAt_20 (by decide) ?_
    exact j_iret (v := (-1)) M dX1_cellAt_21 (Nat.le_refl _) (Nat.le_refl _) ⟨congrArg (fun z => some (Value.int z)) (show (-1) = m_cellAt K S r q from (by unfold m_cellAt; rw [if_pos c1])), rfl⟩
  · refine j_iload_n M dX1_cellAt_9 rfl ?_
    refine j_aload_n M dX1_cellAt_10 rfl ?_
    refine j_get (v := .int (sI S 17 (K 2))) M hW.k2.1 (pAt_1 E _ hW.k2.2) rfl inU_X1 1 (by decide) wF_X1_15 (fun _ h => h) rfl dX1_cellAt_11 ?_
    refine j_imul M dX1_cellAt_14 ?_
    refine j_iload_n M dX1_cellAt_15 rfl ?_
    refine j_iadd M dX1_cellAt_16 ?_
    refine j_goto (tgt := 21) M dX1_cellAt_17 (by decide) ?_
    exact j_iret (v := ((r * (sI S 17 (K 2))) + q)) M dX1_cellAt_21 (Nat.le_refl _) (Nat.le_refl _) ⟨congrArg (fun z => some (Value.int z)) (show ((r * (sI S 17 (K 2))) + q) = m_cellAt K S r q from (by unfold m_cellAt; rw [if_neg c1])), rfl⟩
def m_rowOf (K : Nat → Nat) (S : PS) (x : Int32) : Int32 :=
  if (sI S 17 (K 2)) ≤ 0 then
    0
  else
    x / (sI S 17 (K 2))
theorem cf_X1_rowOf : CFv yX1_rowOf RX1 cX1_rowOf 2 (some .int) 1 := ⟨wC_X1_rowOf, wI_X1_rowOf, wV_X1_X1_rowOf, wN_X1, by decide +kernel⟩
set_option maxHeartbeats 4000000 in
set_option maxRecDepth 100000 in
theorem c_rowOf {l : Launch} {E : EV} {K : Nat → Nat} {S : PS} (hW : WS K S) (x : Int32) : CT l yX1_rowOf cX1_rowOf 2 (some .int) 0 0 0 0 E [.ref (K 2), .int x] S (pv (.int (m_rowOf K S x)) S) := by
  refine CT.of (by decide) (Nat.le_of_ble_eq_true rfl) ?_
  intro p e s m below meth c M hin
  have M : MC E p s m _ meth c cX1_rowOf RX1 2 (some .int) := M
  show J p l e _ s m _ below meth c _ E 2 0 [(0, .ref (K 2)), (1, .int x)] [] S 0 0
  refine j_aload_n M dX1_rowOf_0 rfl ?_
  refine j_get (v := .int (sI S 17 (K 2))) M hW.k2.1 (pAt_1 E _ hW.k2.2) rfl inU_X1 1 (by decide) wF_X1_15 (fun _ h => h) rfl dX1_rowOf_1 ?_
  refine j_if_le (tgt := 16) M dX1_rowOf_4 (by decide) (fun c1 => ?_) (fun c1 => ?_)
  · refine j_iconst (v := 0) M dX1_rowOf_16 (by decide) ?_
    exact j_iret (v := 0) M dX1_rowOf_17 (Nat.le_refl _) (Nat.le_refl _) ⟨congrArg (fun z => some (Value.int z)) (show 0 = m_rowOf K S x from (by unfold m_rowOf; rw [if_pos c1])), rfl⟩
  · refine j_iload_n M dX1_rowOf_7 rfl ?_
    refine j_aload_n M dX1_rowOf_8 rfl ?_
    refine j_get (v := .int (sI S 17 (K 2))) M hW.k2.1 (pAt_1 E _ hW.k2.2) rfl inU_X1 1 (by decide) wF_X1_15 (fun _ h => h) rfl dX1_rowOf_9 ?_
    refine j_idiv M dX1_rowOf_12 (ne0_of c1) ?_
    refine j_goto (tgt := 17) M dX1_rowOf_13 (by decide) ?_
    exact j_iret (v := (x / (sI S 17 (K 2)))) M dX1_rowOf_17 (Nat.le_refl _) (Nat.le_refl _) ⟨congrArg (fun z => some (Value.int z)) (show (x / (sI S 17 (K 2))) = m_rowOf K S x from (by unfold m_rowOf; rw [if_neg c1])), rfl⟩
def m_columnOf (K : Nat → Nat) (S : PS) (x : Int32) : Int32 :=
  if (sI S 17 (K 2)) ≤ 0 then
    0
  else
    x - x / (sI S 17 (K 2)) * (sI S 17 (K 2))
theorem cf_X1_columnOf : CFv yX1_columnOf RX1 cX1_columnOf 2 (some .int) 1 := ⟨wC_X1_columnOf, wI_X1_columnOf, wV_X1_X1_columnOf, wN_X1, by decide +kernel⟩
set_option maxHeartbeats 4000000 in
set_option maxRecDepth 100000 in
theorem c_columnOf {l : Launch} {E : EV} {K : Nat → Nat} {S : PS} (hW : WS K S) (x : Int32) : CT l yX1_columnOf cX1_columnOf 2 (some .int) 0 0 0 0 E [.ref (K 2), .int x] S (pv (.int (m_columnOf K S x)) S) := by
  refine CT.of (by decide) (Nat.le_of_ble_eq_true rfl) ?_
  intro p e s m below meth c M hin
  have M : MC E p s m _ meth c cX1_columnOf RX1 2 (some .int) := M
  show J p l e _ s m _ below meth c _ E 2 0 [(0, .ref (K 2)), (1, .int x)] [] S 0 0
  refine j_aload_n M dX1_columnOf_0 rfl ?_
  refine j_get (v := .int (sI S 17 (K 2))) M hW.k2.1 (pAt_1 E _ hW.k2.2) rfl inU_X1 1 (by decide) wF_X1_15 (fun _ h => h) rfl dX1_columnOf_1 ?_
  refine j_if_le (tgt := 16) M dX1_columnOf_4 (by decide) (fun c1 => ?_) (fun c1 => ?_)
  · refine j_iconst (v := 0) M dX1_columnOf_16 (by decide) ?_
    exact j_iret (v := 0) M dX1_columnOf_17 (Nat.le_refl _) (Nat.le_refl _) ⟨congrArg (fun z => some (Value.int z)) (show 0 = m_columnOf K S x from (by unfold m_columnOf; rw [if_pos c1])), rfl⟩
  · refine j_iload_n M dX1_columnOf_7 rfl ?_
    refine j_aload_n M dX1_columnOf_8 rfl ?_
    refine j_get (v := .int (sI S 17 (K 2))) M hW.k2.1 (pAt_1 E _ hW.k2.2) rfl inU_X1 1 (by decide) wF_X1_15 (fun _ h => h) rfl dX1_columnOf_9 ?_
    refine j_irem M dX1_columnOf_12 (ne0_of c1) ?_
    refine j_goto (tgt := 17) M dX1_columnOf_13 (by decide) ?_
    exact j_iret (v := (x - x / (sI S 17 (K 2)) * (sI S 17 (K 2)))) M dX1_columnOf_17 (Nat.le_refl _) (Nat.le_refl _) ⟨congrArg (fun z => some (Value.int z)) (show (x - x / (sI S 17 (K 2)) * (sI S 17 (K 2))) = m_columnOf K S x from (by unfold m_columnOf; rw [if_neg c1])), rfl⟩
def m_levelOf (K : Nat → Nat) (S : PS) (x : Int32) : Int32 :=
  if x < 0 then
    0
  else
    if (nI (sN S (K 6))) ≤ x then
      0
    else
      sA S (K 6) x.toNatClampNeg
theorem cf_X1_levelOf : CFv yX1_levelOf RX1 cX1_levelOf 2 (some .int) 1 := ⟨wC_X1_levelOf, wI_X1_levelOf, wV_X1_X1_levelOf, wN_X1, by decide +kernel⟩
set_option maxHeartbeats 4000000 in
set_option maxRecDepth 100000 in
theorem c_levelOf {l : Launch} {E : EV} {K : Nat → Nat} {S : PS} (hW : WS K S) (x : Int32) : CT l yX1_levelOf cX1_levelOf 2 (some .int) 0 0 0 0 E [.ref (K 2), .int x] S (pv (.int (m_levelOf K S x)) S) := by
  refine CT.of (by decide) (Nat.le_of_ble_eq_true rfl) ?_
  intro p e s m below meth c M hin
  have M : MC E p s m _ meth c cX1_levelOf RX1 2 (some .int) := M
  show J p l e _ s m _ below meth c _ E 2 0 [(0, .ref (K 2)), (1, .int x)] [] S 0 0
  refine j_iload_n M dX1_levelOf_0 rfl ?_
  refine j_if_lt (tgt := 22) M dX1_levelOf_1 (by decide) (fun c1 => ?_) (fun c1 => ?_)
  · refine j_iconst (v := 0) M dX1_levelOf_22 (by decide) ?_
    exact j_iret (v := 0) M dX1_levelOf_23 (Nat.le_refl _) (Nat.le_refl _) ⟨congrArg (fun z => some (Value.int z)) (show 0 = m_levelOf K S x from (by unfold m_levelOf; rw [if_pos c1])), rfl⟩
  · refine j_iload_n M dX1_levelOf_4 rfl ?_
    refine j_aload_n M dX1_levelOf_5 rfl ?_
    refine j_get (v := .ref (K 6)) M hW.k2.1 (pAt_1 E _ hW.k2.2) rfl inU_X1 0 (by decide) wF_X1_9 (fun _ h => h) (rfv hW.r16) dX1_levelOf_6 ?_
    refine j_alen M hW.k6.1 hW.k6.2 dX1_levelOf_9 ?_
    refine j_icmp_ge (tgt := 22) M dX1_levelOf_10 (by decide) (fun c2 => ?_) (fun c2 => ?_)
    · refine j_iconst (v := 0) M dX1_levelOf_22 (by decide) ?_
      exact j_iret (v := 0) M dX1_levelOf_23 (Nat.le_refl _) (Nat.le_refl _) ⟨congrArg (fun z => some (Value.int z)) (show 0 = m_levelOf K S x from (by unfold m_levelOf; rw [if_neg c1, if_pos c2])), rfl⟩
    · refine j_aload_n M dX1_levelOf_13 rfl ?_
      refine j_get (v := .ref (K 6)) M hW.k2.1 (pAt_1 E _ hW.k2.2) rfl inU_X1 0 (by decide) wF_X1_9 (fun _ h => h) (rfv hW.r16) dX1_levelOf_14 ?_
      refine j_iload_n M dX1_levelOf_17 rfl ?_
      refine j_iald M hW.k6.1 hW.k6.2 (vp_of (by rw [hW.n6]; decide) c1 c2) dX1_levelOf_18 ?_
      refine j_goto (tgt := 23) M dX1_levelOf_19 (by decide) ?_
      exact j_iret (v := (sA S (K 6) x.toNatClampNeg)) M dX1_levelOf_23 (Nat.le_refl _) (Nat.le_refl _) ⟨congrArg (fun z => some (Value.int z)) (show (sA S (K 6) x.toNatClampNeg) = m_levelOf K S x from (by unfold m_levelOf; rw [if_neg c1, if_neg c2])), rfl⟩
def m_rowAt (K : Nat → Nat) (S : PS) (a : Nat) (d : Int32) : Int32 :=
  (sI S 3 a) + (d * (rwV ((sI S 8 a) &&& 7).toNatClampNeg))
theorem cf_X0_rowAt : CFv yX0_rowAt RX0 cX0_rowAt 2 (some .int) 1 := ⟨wC_X0_rowAt, wI_X0_rowAt, wV_X0_X0_rowAt, wN_X0, by decide +kernel⟩
set_option maxHeartbeats 4000000 in
set_option maxRecDepth 100000 in
theorem c_rowAt {l : Launch} {E : EV} {K : Nat → Nat} {S : PS} (hW : WS K S) {a : Nat} (haL : a ∈ sL S) (haK : sK S a = 0) (d : Int32) : CT l yX0_rowAt cX0_rowAt 2 (some .int) 0 0 0 0 E [.ref a, .int d] S (pv (.int (m_rowAt K S a d)) S) := by
  refine CT.of (by decide) (Nat.le_of_ble_eq_true rfl) ?_
  intro p e s m below meth c M hin
  have M : MC E p s m _ meth c cX0_rowAt RX0 2 (some .int) := M
  show J p l e _ s m _ below meth c _ E 2 0 [(0, .ref a), (1, .int d)] [] S 0 0
  refine j_aload_n M dX0_rowAt_0 rfl ?_
  refine j_get (v := .int (sI S 3 a)) M haL (pAt_0 E _ haK) rfl inU_X0 3 (by decide) wF_X0_50 (fun _ h => h) rfl dX0_rowAt_1 ?_
  refine j_iload_n M dX0_rowAt_4 rfl ?_
  refine j_row M nF_X0_97 dX0_rowAt_5 ?_
  refine j_aload_n M dX0_rowAt_8 rfl ?_
  refine j_get (v := .int (sI S 8 a)) M haL (pAt_0 E _ haK) rfl inU_X0 8 (by decide) wF_X0_9 (fun _ h => h) rfl dX0_rowAt_9 ?_
  refine j_bipush (v := 7) M dX0_rowAt_12 (by decide) ?_
  refine j_iand M dX0_rowAt_14 ?_
  refine j_rowi M (and7_in _) dX0_rowAt_15 ?_
  refine j_imul M dX0_rowAt_16 ?_
  refine j_iadd M dX0_rowAt_17 ?_
  exact j_iret (v := ((sI S 3 a) + (d * (rwV ((sI S 8 a) &&& 7).toNatClampNeg)))) M dX0_rowAt_18 (Nat.le_refl _) (Nat.le_refl _) ⟨congrArg (fun z => some (Value.int z)) (show ((sI S 3 a) + (d * (rwV ((sI S 8 a) &&& 7).toNatClampNeg))) = m_rowAt K S a d from rfl), rfl⟩
def m_columnAt (K : Nat → Nat) (S : PS) (a : Nat) (d : Int32) : Int32 :=
  (sI S 4 a) + (d * (clV ((sI S 8 a) &&& 7).toNatClampNeg))
theorem cf_X0_columnAt : CFv yX0_columnAt RX0 cX0_columnAt 2 (some .int) 1 := ⟨wC_X0_columnAt, wI_X0_columnAt, wV_X0_X0_columnAt, wN_X0, by decide +kernel⟩
set_option maxHeartbeats 4000000 in
set_option maxRecDepth 100000 in
theorem c_columnAt {l : Launch} {E : EV} {K : Nat → Nat} {S : PS} (hW : WS K S) {a : Nat} (haL : a ∈ sL S) (haK : sK S a = 0) (d : Int32) : CT l yX0_columnAt cX0_columnAt 2 (some .int) 0 0 0 0 E [.ref a, .int d] S (pv (.int (m_columnAt K S a d)) S) := by
  refine CT.of (by decide) (Nat.le_of_ble_eq_true rfl) ?_
  intro p e s m below meth c M hin
  have M : MC E p s m _ meth c cX0_columnAt RX0 2 (some .int) := M
  show J p l e _ s m _ below meth c _ E 2 0 [(0, .ref a), (1, .int d)] [] S 0 0
  refine j_aload_n M dX0_columnAt_0 rfl ?_
  refine j_get (v := .int (sI S 4 a)) M haL (pAt_0 E _ haK) rfl inU_X0 4 (by decide) wF_X0_56 (fun _ h => h) rfl dX0_columnAt_1 ?_
  refine j_iload_n M dX0_columnAt_4 rfl ?_
  refine j_col M nF_X0_101 dX0_columnAt_5 ?_
  refine j_aload_n M dX0_columnAt_8 rfl ?_
  refine j_get (v := .int (sI S 8 a)) M haL (pAt_0 E _ haK) rfl inU_X0 8 (by decide) wF_X0_9 (fun _ h => h) rfl dX0_columnAt_9 ?_
  refine j_bipush (v := 7) M dX0_columnAt_12 (by decide) ?_
  refine j_iand M dX0_columnAt_14 ?_
  refine j_coli M (and7_in _) dX0_columnAt_15 ?_
  refine j_imul M dX0_columnAt_16 ?_
  refine j_iadd M dX0_columnAt_17 ?_
  exact j_iret (v := ((sI S 4 a) + (d * (clV ((sI S 8 a) &&& 7).toNatClampNeg)))) M dX0_columnAt_18 (Nat.le_refl _) (Nat.le_refl _) ⟨congrArg (fun z => some (Value.int z)) (show ((sI S 4 a) + (d * (clV ((sI S 8 a) &&& 7).toNatClampNeg))) = m_columnAt K S a d from rfl), rfl⟩
def m_plumb (K : Nat → Nat) (S : PS) (a : Nat) : Int32 :=
  m_cellAt K S (m_rowAt K S a (sI S 10 a)) (m_columnAt K S a (sI S 10 a))
theorem cf_X0_plumb : CFv yX0_plumb RX0 cX0_plumb 1 (some .int) 0 := ⟨wC_X0_plumb, wI_X0_plumb, wV_X0_X0_plumb, wN_X0, by decide +kernel⟩
set_option maxHeartbeats 4000000 in
set_option maxRecDepth 100000 in
theorem c_plumb {l : Launch} {E : EV} {K : Nat → Nat} {S : PS} (hW : WS K S) {a : Nat} (haL : a ∈ sL S) (haK : sK S a = 0) : CT l yX0_plumb cX0_plumb 1 (some .int) 2 44 0 0 E [.ref a] S (pv (.int (m_plumb K S a)) S) := by
  refine CT.of (by decide) (Nat.le_of_ble_eq_true rfl) ?_
  intro p e s m below meth c M hin
  have M : MC E p s m _ meth c cX0_plumb RX0 1 (some .int) := M
  show J p l e _ s m _ below meth c _ E 1 0 [(0, .ref a)] [] S 0 0
  refine j_aload_n M dX0_plumb_0 rfl ?_
  refine j_get (v := .ref (K 2)) M haL (pAt_0 E _ haK) rfl inU_X0 0 (by decide) wF_X0_34 (fun _ h => h) (rfv (hW.r0 ⟨haL, haK⟩)) dX0_plumb_1 ?_
  refine j_aload_n M dX0_plumb_4 rfl ?_
  refine j_aload_n M dX0_plumb_5 rfl ?_
  refine j_get (v := .int (sI S 10 a)) M haL (pAt_0 E _ haK) rfl inU_X0 10 (by decide) wF_X0_18 (fun _ h => h) rfl dX0_plumb_6 ?_
  refine j_callV1 (As := [.int (sI S 10 a)]) M cf_X0_rowAt wM_X0_71 (c_rowAt hW haL haK (sI S 10 a)) haL (pAt_0 E _ haK) rfl rfl ⟨Nat.le_of_ble_eq_true rfl, Nat.le_of_ble_eq_true rfl⟩ (Nat.le_of_ble_eq_true rfl) ⟨Nat.zero_le _, Nat.zero_le _⟩ dX0_plumb_9 rfl ?_
  refine j_aload_n M dX0_plumb_12 rfl ?_
  refine j_aload_n M dX0_plumb_13 rfl ?_
  refine j_get (v := .int (sI S 10 a)) M haL (pAt_0 E _ haK) rfl inU_X0 10 (by decide) wF_X0_18 (fun _ h => h) rfl dX0_plumb_14 ?_
  refine j_callV1 (As := [.int (sI S 10 a)]) M cf_X0_columnAt wM_X0_74 (c_columnAt hW haL haK (sI S 10 a)) haL (pAt_0 E _ haK) rfl rfl ⟨Nat.le_of_ble_eq_true rfl, Nat.le_of_ble_eq_true rfl⟩ (Nat.le_of_ble_eq_true rfl) ⟨Nat.zero_le _, Nat.zero_le _⟩ dX0_plumb_17 rfl ?_
  refine j_callV1 (As := [.int (m_rowAt K S a (sI S 10 a)), .int (m_columnAt K S a (sI S 10 a))]) M cf_X1_cellAt wM_X0_104 (c_cellAt hW (m_rowAt K S a (sI S 10 a)) (m_columnAt K S a (sI S 10 a))) hW.k2.1 (pAt_1 E _ hW.k2.2) rfl rfl ⟨Nat.le_of_ble_eq_true rfl, Nat.le_of_ble_eq_true rfl⟩ (Nat.le_of_ble_eq_true rfl) ⟨Nat.zero_le _, Nat.zero_le _⟩ dX0_plumb_20 rfl ?_
  exact j_iret (v := (m_cellAt K S (m_rowAt K S a (sI S 10 a)) (m_columnAt K S a (sI S 10 a)))) M dX0_plumb_23 (Nat.le_refl _) (Nat.le_refl _) ⟨congrArg (fun z => some (Value.int z)) (show (m_cellAt K S (m_rowAt K S a (sI S 10 a)) (m_columnAt K S a (sI S 10 a))) = m_plumb K S a from rfl), rfl⟩
def m_above (K : Nat → Nat) (S : PS) (a : Nat) : Int32 :=
  (sI S 11 a) - (m_levelOf K S (m_plumb K S a))
theorem cf_X0_above : CFv yX0_above RX0 cX0_above 1 (some .int) 0 := ⟨wC_X0_above, wI_X0_above, wV_X0_X0_above, wN_X0, by decide +kernel⟩
set_option maxHeartbeats 4000000 in
set_option maxRecDepth 100000 in
theorem c_above {l : Launch} {E : EV} {K : Nat → Nat} {S : PS} (hW : WS K S) {a : Nat} (haL : a ∈ sL S) (haK : sK S a = 0) : CT l yX0_above cX0_above 1 (some .int) 3 64 0 0 E [.ref a] S (pv (.int (m_above K S a)) S) := by
  refine CT.of (by decide) (Nat.le_of_ble_eq_true rfl) ?_
  intro p e s m below meth c M hin
  have M : MC E p s m _ meth c cX0_above RX0 1 (some .int) := M
  show J p l e _ s m _ below meth c _ E 1 0 [(0, .ref a)] [] S 0 0
  refine j_aload_n M dX0_above_0 rfl ?_
  refine j_get (v := .int (sI S 11 a)) M haL (pAt_0 E _ haK) rfl inU_X0 11 (by decide) wF_X0_68 (fun _ h => h) rfl dX0_above_1 ?_
  refine j_aload_n M dX0_above_4 rfl ?_
  refine j_get (v := .ref (K 2)) M haL (pAt_0 E _ haK) rfl inU_X0 0 (by decide) wF_X0_34 (fun _ h => h) (rfv (hW.r0 ⟨haL, haK⟩)) dX0_above_5 ?_
  refine j_aload_n M dX0_above_8 rfl ?_
  refine j_callV1 (As := []) M cf_X0_plumb wM_X0_107 (c_plumb hW haL haK) haL (pAt_0 E _ haK) rfl rfl ⟨Nat.le_of_ble_eq_true rfl, Nat.le_of_ble_eq_true rfl⟩ (Nat.le_of_ble_eq_true rfl) ⟨Nat.zero_le _, Nat.zero_le _⟩ dX0_above_9 rfl ?_
  refine j_callV1 (As := [.int (m_plumb K S a)]) M cf_X1_levelOf wM_X0_111 (c_levelOf hW (m_plumb K S a)) hW.k2.1 (pAt_1 E _ hW.k2.2) rfl rfl ⟨Nat.le_of_ble_eq_true rfl, Nat.le_of_ble_eq_true rfl⟩ (Nat.le_of_ble_eq_true rfl) ⟨Nat.zero_le _, Nat.zero_le _⟩ dX0_above_12 rfl ?_
  refine j_isub M dX0_above_15 ?_
  exact j_iret (v := ((sI S 11 a) - (m_levelOf K S (m_plumb K S a)))) M dX0_above_16 (Nat.le_refl _) (Nat.le_refl _) ⟨congrArg (fun z => some (Value.int z)) (show ((sI S 11 a) - (m_levelOf K S (m_plumb K S a))) = m_above K S a from rfl), rfl⟩
def m_isCalm (K : Nat → Nat) (S : PS) (a : Nat) : Int32 :=
  if 1 < (sI S 12 a) then
    0
  else
    1
theorem cf_X0_isCalm : CFv yX0_isCalm RX0 cX0_isCalm 1 (some .boolean) 0 := ⟨wC_X0_isCalm, wI_X0_isCalm, wV_X0_X0_isCalm, wN_X0, by decide +kernel⟩
set_option maxHeartbeats 4000000 in
set_option maxRecDepth 100000 in
theorem c_isCalm {l : Launch} {E : EV} {K : Nat → Nat} {S : PS} (hW : WS K S) {a : Nat} (haL : a ∈ sL S) (haK : sK S a = 0) : CT l yX0_isCalm cX0_isCalm 1 (some .boolean) 0 0 0 0 E [.ref a] S (pv (.int (m_isCalm K S a)) S) := by
  refine CT.of (by decide) (Nat.le_of_ble_eq_true rfl) ?_
  intro p e s m below meth c M hin
  have M : MC E p s m _ meth c cX0_isCalm RX0 1 (some .boolean) := M
  show J p l e _ s m _ below meth c _ E 1 0 [(0, .ref a)] [] S 0 0
  refine j_aload_n M dX0_isCalm_0 rfl ?_
  refine j_get (v := .int (sI S 12 a)) M haL (pAt_0 E _ haK) rfl inU_X0 12 (by decide) wF_X0_21 (fun _ h => h) rfl dX0_isCalm_1 ?_
  refine j_iconst (v := 1) M dX0_isCalm_4 (by decide) ?_
  refine j_icmp_gt (tgt := 12) M dX0_isCalm_5 (by decide) (fun c1 => ?_) (fun c1 => ?_)
  · refine j_iconst (v := 0) M dX0_isCalm_12 (by decide) ?_
    exact j_zret (v := 0) M dX0_isCalm_13 (Nat.le_refl _) (Nat.le_refl _) rfl ⟨congrArg (fun z => some (Value.int z)) (show 0 = m_isCalm K S a from (by unfold m_isCalm; rw [if_pos c1])), rfl⟩
  · refine j_iconst (v := 1) M dX0_isCalm_8 (by decide) ?_
    refine j_goto (tgt := 13) M dX0_isCalm_9 (by decide) ?_
    exact j_zret (v := 1) M dX0_isCalm_13 (Nat.le_refl _) (Nat.le_refl _) rfl ⟨congrArg (fun z => some (Value.int z)) (show 1 = m_isCalm K S a from (by unfold m_isCalm; rw [if_neg c1])), rfl⟩
def m_isJustAbove (K : Nat → Nat) (S : PS) (a : Nat) : Int32 :=
  if (m_isCalm K S a) = 0 then
    0
  else
    if (m_above K S a) = 1 then
      1
    else
      0
theorem cf_X0_isJustAbove : CFv yX0_isJustAbove RX0 cX0_isJustAbove 1 (some .boolean) 0 := ⟨wC_X0_isJustAbove, wI_X0_isJustAbove, wV_X0_X0_isJustAbove, wN_X0, by decide +kernel⟩
set_option maxHeartbeats 4000000 in
set_option maxRecDepth 100000 in
theorem c_isJustAbove {l : Launch} {E : EV} {K : Nat → Nat} {S : PS} (hW : WS K S) {a : Nat} (haL : a ∈ sL S) (haK : sK S a = 0) : CT l yX0_isJustAbove cX0_isJustAbove 1 (some .boolean) 4 84 0 0 E [.ref a] S (pv (.int (m_isJustAbove K S a)) S) := by
  refine CT.of (by decide) (Nat.le_of_ble_eq_true rfl) ?_
  intro p e s m below meth c M hin
  have M : MC E p s m _ meth c cX0_isJustAbove RX0 1 (some .boolean) := M
  show J p l e _ s m _ below meth c _ E 1 0 [(0, .ref a)] [] S 0 0
  refine j_aload_n M dX0_isJustAbove_0 rfl ?_
  refine j_callV1 (As := []) M cf_X0_isCalm wM_X0_114 (c_isCalm hW haL haK) haL (pAt_0 E _ haK) rfl rfl ⟨Nat.le_of_ble_eq_true rfl, Nat.le_of_ble_eq_true rfl⟩ (Nat.le_of_ble_eq_true rfl) ⟨Nat.zero_le _, Nat.zero_le _⟩ dX0_isJustAbove_1 rfl ?_
  refine j_if_eq (tgt := 19) M dX0_isJustAbove_4 (by decide) (fun c1 => ?_) (fun c1 => ?_)
  · refine j_iconst (v := 0) M dX0_isJustAbove_19 (by decide) ?_
    exact j_zret (v := 0) M dX0_isJustAbove_20 (Nat.le_refl _) (Nat.le_refl _) rfl ⟨congrArg (fun z => some (Value.int z)) (show 0 = m_isJustAbove K S a from (by unfold m_isJustAbove; rw [if_pos c1])), rfl⟩
  · refine j_aload_n M dX0_isJustAbove_7 rfl ?_
    refine j_callV1 (As := []) M cf_X0_above wM_X0_118 (c_above hW haL haK) haL (pAt_0 E _ haK) rfl rfl ⟨Nat.le_of_ble_eq_true rfl, Nat.le_of_ble_eq_true rfl⟩ (Nat.le_of_ble_eq_true rfl) ⟨Nat.zero_le _, Nat.zero_le _⟩ dX0_isJustAbove_8 rfl ?_
    refine j_iconst (v := 1) M dX0_isJustAbove_11 (by decide) ?_
    refine j_icmp_ne (tgt := 19) M dX0_isJustAbove_12 (by decide) (fun c2 => ?_) (fun c2 => ?_)
    · refine j_iconst (v := 0) M dX0_isJustAbove_19 (by decide) ?_
      exact j_zret (v := 0) M dX0_isJustAbove_20 (Nat.le_refl _) (Nat.le_refl _) rfl ⟨congrArg (fun z => some (Value.int z)) (show 0 = m_isJustAbove K S a from (by unfold m_isJustAbove; rw [if_neg c1, if_neg c2])), rfl⟩
    · refine j_iconst (v := 1) M dX0_isJustAbove_15 (by decide) ?_
      refine j_goto (tgt := 20) M dX0_isJustAbove_16 (by decide) ?_
      exact j_zret (v := 1) M dX0_isJustAbove_20 (Nat.le_refl _) (Nat.le_refl _) rfl ⟨congrArg (fun z => some (Value.int z)) (show 1 = m_isJustAbove K S a from (by unfold m_isJustAbove; rw [if_neg c1, if_pos c2])), rfl⟩
def m_isPossible (K : Nat → Nat) (S : PS) (a : Nat) : Int32 :=
  if (sI S 10 a) < 1 then
    0
  else
    if (sI S 9 a) < (sI S 10 a) then
      0
    else
      if ((sI S 5 a) - 1) < (sI S 11 a) then
        0
      else
        1
theorem cf_X0_isPossible : CFv yX0_isPossible RX0 cX0_isPossible 1 (some .boolean) 0 := ⟨wC_X0_isPossible, wI_X0_isPossible, wV_X0_X0_isPossible, wN_X0, by decide +kernel⟩
set_option maxHeartbeats 4000000 in
set_option maxRecDepth 100000 in
theorem c_isPossible {l : Launch} {E : EV} {K : Nat → Nat} {S : PS} (hW : WS K S) {a : Nat} (haL : a ∈ sL S) (haK : sK S a = 0) : CT l yX0_isPossible cX0_isPossible 1 (some .boolean) 0 0 0 0 E [.ref a] S (pv (.int (m_isPossible K S a)) S) := by
  refine CT.of (by decide) (Nat.le_of_ble_eq_true rfl) ?_
  intro p e s m below meth c M hin
  have M : MC E p s m _ meth c cX0_isPossible RX0 1 (some .boolean) := M
  show J p l e _ s m _ below meth c _ E 1 0 [(0, .ref a)] [] S 0 0
  refine j_aload_n M dX0_isPossible_0 rfl ?_
  refine j_get (v := .int (sI S 10 a)) M haL (pAt_0 E _ haK) rfl inU_X0 10 (by decide) wF_X0_18 (fun _ h => h) rfl dX0_isPossible_1 ?_
  refine j_iconst (v := 1) M dX0_isPossible_4 (by decide) ?_
  refine j_icmp_lt (tgt := 36) M dX0_isPossible_5 (by decide) (fun c1 => ?_) (fun c1 => ?_)
  · refine j_iconst (v := 0) M dX0_isPossible_36 (by decide) ?_
    exact j_zret (v := 0) M dX0_isPossible_37 (Nat.le_refl _) (Nat.le_refl _) rfl ⟨congrArg (fun z => some (Value.int z)) (show 0 = m_isPossible K S a from (by unfold m_isPossible; rw [if_pos c1])), rfl⟩
  · refine j_aload_n M dX0_isPossible_8 rfl ?_
    refine j_get (v := .int (sI S 10 a)) M haL (pAt_0 E _ haK) rfl inU_X0 10 (by decide) wF_X0_18 (fun _ h => h) rfl dX0_isPossible_9 ?_
    refine j_aload_n M dX0_isPossible_12 rfl ?_
    refine j_get (v := .int (sI S 9 a)) M haL (pAt_0 E _ haK) rfl inU_X0 9 (by decide) wF_X0_15 (fun _ h => h) rfl dX0_isPossible_13 ?_
    refine j_icmp_gt (tgt := 36) M dX0_isPossible_16 (by decide) (fun c2 => ?_) (fun c2 => ?_)
    · refine j_iconst (v := 0) M dX0_isPossible_36 (by decide) ?_
      exact j_zret (v := 0) M dX0_isPossible_37 (Nat.le_refl _) (Nat.le_refl _) rfl ⟨congrArg (fun z => some (Value.int z)) (show 0 = m_isPossible K S a from (by unfold m_isPossible; rw [if_neg c1, if_pos c2])), rfl⟩
    · refine j_aload_n M dX0_isPossible_19 rfl ?_
      refine j_get (v := .int (sI S 11 a)) M haL (pAt_0 E _ haK) rfl inU_X0 11 (by decide) wF_X0_68 (fun _ h => h) rfl dX0_isPossible_20 ?_
      refine j_aload_n M dX0_isPossible_23 rfl ?_
      refine j_get (v := .int (sI S 5 a)) M haL (pAt_0 E _ haK) rfl inU_X0 5 (by decide) wF_X0_59 (fun _ h => h) rfl dX0_isPossible_24 ?_
      refine j_iconst (v := 1) M dX0_isPossible_27 (by decide) ?_
      refine j_isub M dX0_isPossible_28 ?_
      refine j_icmp_gt (tgt := 36) M dX0_isPossible_29 (by decide) (fun c3 => ?_) (fun c3 => ?_)
      · refine j_iconst (v := 0) M dX0_isPossible_36 (by decide) ?_
        exact j_zret (v := 0) M dX0_isPossible_37 (Nat.le_refl _) (Nat.le_refl _) rfl ⟨congrArg (fun z => some (Value.int z)) (show 0 = m_isPossible K S a from (by unfold m_isPossible; rw [if_neg c1, if_neg c2, if_pos c3])), rfl⟩
      · refine j_iconst (v := 1) M dX0_isPossible_32 (by decide) ?_
        refine j_goto (tgt := 37) M dX0_isPossible_33 (by decide) ?_
        exact j_zret (v := 1) M dX0_isPossible_37 (Nat.le_refl _) (Nat.le_refl _) rfl ⟨congrArg (fun z => some (Value.int z)) (show 1 = m_isPossible K S a from (by unfold m_isPossible; rw [if_neg c1, if_neg c2, if_neg c3])), rfl⟩
def m_canMeet (K : Nat → Nat) (S : PS) (a : Nat) (b : Nat) : Int32 :=
  if 2 < (imax (iabs ((m_rowAt K S a (sI S 10 a)) - (m_rowAt K S b (sI S 10 b)))) (iabs ((m_columnAt K S a (sI S 10 a)) - (m_columnAt K S b (sI S 10 b))))) then
    0
  else
    if 2 < (iabs ((sI S 11 a) - (sI S 11 b))) then
      0
    else
      if (m_isCalm K S a) = 0 then
        0
      else
        if (m_isCalm K S b) = 0 then
          0
        else
          1
theorem cf_X0_canMeet : CFv yX0_canMeet RX0 cX0_canMeet 4 (some .boolean) 1 := ⟨wC_X0_canMeet, wI_X0_canMeet, wV_X0_X0_canMeet, wN_X0, by decide +kernel⟩
set_option maxHeartbeats 4000000 in
set_option maxRecDepth 100000 in
theorem c_canMeet {l : Launch} {E : EV} {K : Nat → Nat} {S : PS} (hW : WS K S) {a : Nat} (haL : a ∈ sL S) (haK : sK S a = 0) {b : Nat} (hbL : b ∈ sL S) (hbK : sK S b = 0) : CT l yX0_canMeet cX0_canMeet 4 (some .boolean) 1 21 0 0 E [.ref a, .ref b] S (pv (.int (m_canMeet K S a b)) S) := by
  refine CT.of (by decide) (Nat.le_of_ble_eq_true rfl) ?_
  intro p e s m below meth c M hin
  have M : MC E p s m _ meth c cX0_canMeet RX0 4 (some .boolean) := M
  show J p l e _ s m _ below meth c _ E 4 0 [(0, .ref a), (1, .ref b)] [] S 0 0
  refine j_aload_n M dX0_canMeet_0 rfl ?_
  refine j_aload_n M dX0_canMeet_1 rfl ?_
  refine j_get (v := .int (sI S 10 a)) M haL (pAt_0 E _ haK) rfl inU_X0 10 (by decide) wF_X0_18 (fun _ h => h) rfl dX0_canMeet_2 ?_
  refine j_callV1 (As := [.int (sI S 10 a)]) M cf_X0_rowAt wM_X0_71 (c_rowAt hW haL haK (sI S 10 a)) haL (pAt_0 E _ haK) rfl rfl ⟨Nat.le_of_ble_eq_true rfl, Nat.le_of_ble_eq_true rfl⟩ (Nat.le_of_ble_eq_true rfl) ⟨Nat.zero_le _, Nat.zero_le _⟩ dX0_canMeet_5 rfl ?_
  refine j_aload_n M dX0_canMeet_8 rfl ?_
  refine j_aload_n M dX0_canMeet_9 rfl ?_
  refine j_get (v := .int (sI S 10 b)) M hbL (pAt_0 E _ hbK) rfl inU_X0 10 (by decide) wF_X0_18 (fun _ h => h) rfl dX0_canMeet_10 ?_
  refine j_callV1 (As := [.int (sI S 10 b)]) M cf_X0_rowAt wM_X0_71 (c_rowAt hW hbL hbK (sI S 10 b)) hbL (pAt_0 E _ hbK) rfl rfl ⟨Nat.le_of_ble_eq_true rfl, Nat.le_of_ble_eq_true rfl⟩ (Nat.le_of_ble_eq_true rfl) ⟨Nat.zero_le _, Nat.zero_le _⟩ dX0_canMeet_13 rfl ?_
  refine j_isub M dX0_canMeet_16 ?_
  refine j_abs M wM_X0_121 dX0_canMeet_17 (Nat.le_of_ble_eq_true rfl) (Nat.le_of_ble_eq_true rfl) ⟨Nat.zero_le _, Nat.zero_le _⟩ ?_
  refine j_istore_n (lv' := [(2, .int (iabs ((m_rowAt K S a (sI S 10 a)) - (m_rowAt K S b (sI S 10 b))))), (0, .ref a), (1, .ref b)]) M dX0_canMeet_20 rfl (by decide) rfl ?_
  refine j_aload_n M dX0_canMeet_21 rfl ?_
  refine j_aload_n M dX0_canMeet_22 rfl ?_
  refine j_get (v := .int (sI S 10 a)) M haL (pAt_0 E _ haK) rfl inU_X0 10 (by decide) wF_X0_18 (fun _ h => h) rfl dX0_canMeet_23 ?_
  refine j_callV1 (As := [.int (sI S 10 a)]) M cf_X0_columnAt wM_X0_74 (c_columnAt hW haL haK (sI S 10 a)) haL (pAt_0 E _ haK) rfl rfl ⟨Nat.le_of_ble_eq_true rfl, Nat.le_of_ble_eq_true rfl⟩ (Nat.le_of_ble_eq_true rfl) ⟨Nat.zero_le _, Nat.zero_le _⟩ dX0_canMeet_26 rfl ?_
  refine j_aload_n M dX0_canMeet_29 rfl ?_
  refine j_aload_n M dX0_canMeet_30 rfl ?_
  refine j_get (v := .int (sI S 10 b)) M hbL (pAt_0 E _ hbK) rfl inU_X0 10 (by decide) wF_X0_18 (fun _ h => h) rfl dX0_canMeet_31 ?_
  refine j_callV1 (As := [.int (sI S 10 b)]) M cf_X0_columnAt wM_X0_74 (c_columnAt hW hbL hbK (sI S 10 b)) hbL (pAt_0 E _ hbK) rfl rfl ⟨Nat.le_of_ble_eq_true rfl, Nat.le_of_ble_eq_true rfl⟩ (Nat.le_of_ble_eq_true rfl) ⟨Nat.zero_le _, Nat.zero_le _⟩ dX0_canMeet_34 rfl ?_
  refine j_isub M dX0_canMeet_37 ?_
  refine j_abs M wM_X0_121 dX0_canMeet_38 (Nat.le_of_ble_eq_true rfl) (Nat.le_of_ble_eq_true rfl) ⟨Nat.zero_le _, Nat.zero_le _⟩ ?_
  refine j_istore_n (lv' := [(3, .int (iabs ((m_columnAt K S a (sI S 10 a)) - (m_columnAt K S b (sI S 10 b))))), (2, .int (iabs ((m_rowAt K S a (sI S 10 a)) - (m_rowAt K S b (sI S 10 b))))), (0, .ref a), (1, .ref b)]) M dX0_canMeet_41 rfl (by decide) rfl ?_
  refine j_iload_n M dX0_canMeet_42 rfl ?_
  refine j_iload_n M dX0_canMeet_43 rfl ?_
  refine j_max M wM_X0_94 dX0_canMeet_44 (Nat.le_of_ble_eq_true rfl) (Nat.le_of_ble_eq_true rfl) ⟨Nat.zero_le _, Nat.zero_le _⟩ ?_
  refine j_iconst (v := 2) M dX0_canMeet_47 (by decide) ?_
  refine j_icmp_gt (tgt := 85) M dX0_canMeet_48 (by decide) (fun c1 => ?_) (fun c1 => ?_)
  · refine j_iconst (v := 0) M dX0_canMeet_85 (by decide) ?_
    exact j_zret (v := 0) M dX0_canMeet_86 (Nat.le_refl _) (Nat.le_refl _) rfl ⟨congrArg (fun z => some (Value.int z)) (show 0 = m_canMeet K S a b from (by unfold m_canMeet; rw [if_pos c1])), rfl⟩
  · refine j_aload_n M dX0_canMeet_51 rfl ?_
    refine j_get (v := .int (sI S 11 a)) M haL (pAt_0 E _ haK) rfl inU_X0 11 (by decide) wF_X0_68 (fun _ h => h) rfl dX0_canMeet_52 ?_
    refine j_aload_n M dX0_canMeet_55 rfl ?_
    refine j_get (v := .int (sI S 11 b)) M hbL (pAt_0 E _ hbK) rfl inU_X0 11 (by decide) wF_X0_68 (fun _ h => h) rfl dX0_canMeet_56 ?_
    refine j_isub M dX0_canMeet_59 ?_
    refine j_abs M wM_X0_121 dX0_canMeet_60 (Nat.le_of_ble_eq_true rfl) (Nat.le_of_ble_eq_true rfl) ⟨Nat.zero_le _, Nat.zero_le _⟩ ?_
    refine j_iconst (v := 2) M dX0_canMeet_63 (by decide) ?_
    refine j_icmp_gt (tgt := 85) M dX0_canMeet_64 (by decide) (fun c2 => ?_) (fun c2 => ?_)
    · refine j_iconst (v := 0) M dX0_canMeet_85 (by decide) ?_
      exact j_zret (v := 0) M dX0_canMeet_86 (Nat.le_refl _) (Nat.le_refl _) rfl ⟨congrArg (fun z => some (Value.int z)) (show 0 = m_canMeet K S a b from (by unfold m_canMeet; rw [if_neg c1, if_pos c2])), rfl⟩
    · refine j_aload_n M dX0_canMeet_67 rfl ?_
      refine j_callV1 (As := []) M cf_X0_isCalm wM_X0_114 (c_isCalm hW haL haK) haL (pAt_0 E _ haK) rfl rfl ⟨Nat.le_of_ble_eq_true rfl, Nat.le_of_ble_eq_true rfl⟩ (Nat.le_of_ble_eq_true rfl) ⟨Nat.zero_le _, Nat.zero_le _⟩ dX0_canMeet_68 rfl ?_
      refine j_if_eq (tgt := 85) M dX0_canMeet_71 (by decide) (fun c3 => ?_) (fun c3 => ?_)
      · refine j_iconst (v := 0) M dX0_canMeet_85 (by decide) ?_
        exact j_zret (v := 0) M dX0_canMeet_86 (Nat.le_refl _) (Nat.le_refl _) rfl ⟨congrArg (fun z => some (Value.int z)) (show 0 = m_canMeet K S a b from (by unfold m_canMeet; rw [if_neg c1, if_neg c2, if_pos c3])), rfl⟩
      · refine j_aload_n M dX0_canMeet_74 rfl ?_
        refine j_callV1 (As := []) M cf_X0_isCalm wM_X0_114 (c_isCalm hW hbL hbK) hbL (pAt_0 E _ hbK) rfl rfl ⟨Nat.le_of_ble_eq_true rfl, Nat.le_of_ble_eq_true rfl⟩ (Nat.le_of_ble_eq_true rfl) ⟨Nat.zero_le _, Nat.zero_le _⟩ dX0_canMeet_75 rfl ?_
        refine j_if_eq (tgt := 85) M dX0_canMeet_78 (by decide) (fun c4 => ?_) (fun c4 => ?_)
        · refine j_iconst (v := 0) M dX0_canMeet_85 (by decide) ?_
          exact j_zret (v := 0) M dX0_canMeet_86 (Nat.le_refl _) (Nat.le_refl _) rfl ⟨congrArg (fun z => some (Value.int z)) (show 0 = m_canMeet K S a b from (by unfold m_canMeet; rw [if_neg c1, if_neg c2, if_neg c3, if_pos c4])), rfl⟩
        · refine j_iconst (v := 1) M dX0_canMeet_81 (by decide) ?_
          refine j_goto (tgt := 86) M dX0_canMeet_82 (by decide) ?_
          exact j_zret (v := 1) M dX0_canMeet_86 (Nat.le_refl _) (Nat.le_refl _) rfl ⟨congrArg (fun z => some (Value.int z)) (show 1 = m_canMeet K S a b from (by unfold m_canMeet; rw [if_neg c1, if_neg c2, if_neg c3, if_neg c4])), rfl⟩
def m_weight (K : Nat → Nat) (S : PS) (a : Nat) : Int32 :=
  (sI S 5 a) + (sI S 6 a)
theorem cf_X0_weight : CFv yX0_weight RX0 cX0_weight 1 (some .int) 0 := ⟨wC_X0_weight, wI_X0_weight, wV_X0_X0_weight, wN_X0, by decide +kernel⟩
set_option maxHeartbeats 4000000 in
set_option maxRecDepth 100000 in
theorem c_weight {l : Launch} {E : EV} {K : Nat → Nat} {S : PS} (hW : WS K S) {a : Nat} (haL : a ∈ sL S) (haK : sK S a = 0) : CT l yX0_weight cX0_weight 1 (some .int) 0 0 0 0 E [.ref a] S (pv (.int (m_weight K S a)) S) := by
  refine CT.of (by decide) (Nat.le_of_ble_eq_true rfl) ?_
  intro p e s m below meth c M hin
  have M : MC E p s m _ meth c cX0_weight RX0 1 (some .int) := M
  show J p l e _ s m _ below meth c _ E 1 0 [(0, .ref a)] [] S 0 0
  refine j_aload_n M dX0_weight_0 rfl ?_
  refine j_get (v := .int (sI S 5 a)) M haL (pAt_0 E _ haK) rfl inU_X0 5 (by decide) wF_X0_59 (fun _ h => h) rfl dX0_weight_1 ?_
  refine j_aload_n M dX0_weight_4 rfl ?_
  refine j_get (v := .int (sI S 6 a)) M haL (pAt_0 E _ haK) rfl inU_X0 6 (by decide) wF_X0_62 (fun _ h => h) rfl dX0_weight_5 ?_
  refine j_iadd M dX0_weight_8 ?_
  exact j_iret (v := ((sI S 5 a) + (sI S 6 a))) M dX0_weight_9 (Nat.le_refl _) (Nat.le_refl _) ⟨congrArg (fun z => some (Value.int z)) (show ((sI S 5 a) + (sI S 6 a)) = m_weight K S a from rfl), rfl⟩
def m_apartFromJib (K : Nat → Nat) (S : PS) (a : Nat) (r : Int32) (q : Int32) : Int32 :=
  if (rwV ((sI S 8 a) &&& 7).toNatClampNeg) = 0 then
    imax (iabs ((r - (sI S 3 a)) - ((imax 0 (imin (((r - (sI S 3 a)) * (rwV ((sI S 8 a) &&& 7).toNatClampNeg)) + ((q - (sI S 4 a)) * (clV ((sI S 8 a) &&& 7).toNatClampNeg))) (sI S 9 a))) * (rwV ((sI S 8 a) &&& 7).toNatClampNeg)))) (iabs ((q - (sI S 4 a)) - ((imax 0 (imin (((r - (sI S 3 a)) * (rwV ((sI S 8 a) &&& 7).toNatClampNeg)) + ((q - (sI S 4 a)) * (clV ((sI S 8 a) &&& 7).toNatClampNeg))) (sI S 9 a))) * (clV ((sI S 8 a) &&& 7).toNatClampNeg))))
  else
    if (clV ((sI S 8 a) &&& 7).toNatClampNeg) = 0 then
      imax (iabs ((r - (sI S 3 a)) - ((imax 0 (imin (((r - (sI S 3 a)) * (rwV ((sI S 8 a) &&& 7).toNatClampNeg)) + ((q - (sI S 4 a)) * (clV ((sI S 8 a) &&& 7).toNatClampNeg))) (sI S 9 a))) * (rwV ((sI S 8 a) &&& 7).toNatClampNeg)))) (iabs ((q - (sI S 4 a)) - ((imax 0 (imin (((r - (sI S 3 a)) * (rwV ((sI S 8 a) &&& 7).toNatClampNeg)) + ((q - (sI S 4 a)) * (clV ((sI S 8 a) &&& 7).toNatClampNeg))) (sI S 9 a))) * (clV ((sI S 8 a) &&& 7).toNatClampNeg))))
    else
      imax (iabs ((r - (sI S 3 a)) - ((imax 0 (imin ((((r - (sI S 3 a)) * (rwV ((sI S 8 a) &&& 7).toNatClampNeg)) + ((q - (sI S 4 a)) * (clV ((sI S 8 a) &&& 7).toNatClampNeg))) >>> (1 &&& 31)) (sI S 9 a))) * (rwV ((sI S 8 a) &&& 7).toNatClampNeg)))) (iabs ((q - (sI S 4 a)) - ((imax 0 (imin ((((r - (sI S 3 a)) * (rwV ((sI S 8 a) &&& 7).toNatClampNeg)) + ((q - (sI S 4 a)) * (clV ((sI S 8 a) &&& 7).toNatClampNeg))) >>> (1 &&& 31)) (sI S 9 a))) * (clV ((sI S 8 a) &&& 7).toNatClampNeg))))
theorem cf_X0_apartFromJib : CFv yX0_apartFromJib RX0 cX0_apartFromJib 8 (some .int) 2 := ⟨wC_X0_apartFromJib, wI_X0_apartFromJib, wV_X0_X0_apartFromJib, wN_X0, by decide +kernel⟩
set_option maxHeartbeats 4000000 in
set_option maxRecDepth 100000 in
theorem c_apartFromJib {l : Launch} {E : EV} {K : Nat → Nat} {S : PS} (hW : WS K S) {a : Nat} (haL : a ∈ sL S) (haK : sK S a = 0) (r : Int32) (q : Int32) : CT l yX0_apartFromJib cX0_apartFromJib 8 (some .int) 1 14 0 0 E [.ref a, .int r, .int q] S (pv (.int (m_apartFromJib K S a r q)) S) := by
  refine CT.of (by decide) (Nat.le_of_ble_eq_true rfl) ?_
  intro p e s m below meth c M hin
  have M : MC E p s m _ meth c cX0_apartFromJib RX0 8 (some .int) := M
  show J p l e _ s m _ below meth c _ E 8 0 [(0, .ref a), (1, .int r), (2, .int q)] [] S 0 0
  refine j_row M nF_X0_97 dX0_apartFromJib_0 ?_
  refine j_aload_n M dX0_apartFromJib_3 rfl ?_
  refine j_get (v := .int (sI S 8 a)) M haL (pAt_0 E _ haK) rfl inU_X0 8 (by decide) wF_X0_9 (fun _ h => h) rfl dX0_apartFromJib_4 ?_
  refine j_bipush (v := 7) M dX0_apartFromJib_7 (by decide) ?_
  refine j_iand M dX0_apartFromJib_9 ?_
  refine j_rowi M (and7_in _) dX0_apartFromJib_10 ?_
  refine j_istore_n (lv' := [(3, .int (rwV ((sI S 8 a) &&& 7).toNatClampNeg)), (0, .ref a), (1, .int r), (2, .int q)]) M dX0_apartFromJib_11 rfl (by decide) rfl ?_
  refine j_col M nF_X0_101 dX0_apartFromJib_12 ?_
  refine j_aload_n M dX0_apartFromJib_15 rfl ?_
  refine j_get (v := .int (sI S 8 a)) M haL (pAt_0 E _ haK) rfl inU_X0 8 (by decide) wF_X0_9 (fun _ h => h) rfl dX0_apartFromJib_16 ?_
  refine j_bipush (v := 7) M dX0_apartFromJib_19 (by decide) ?_
  refine j_iand M dX0_apartFromJib_21 ?_
  refine j_coli M (and7_in _) dX0_apartFromJib_22 ?_
  refine j_istore (lv' := [(4, .int (clV ((sI S 8 a) &&& 7).toNatClampNeg)), (3, .int (rwV ((sI S 8 a) &&& 7).toNatClampNeg)), (0, .ref a), (1, .int r), (2, .int q)]) M dX0_apartFromJib_23 (by decide) rfl ?_
  refine j_iload_n M dX0_apartFromJib_25 rfl ?_
  refine j_aload_n M dX0_apartFromJib_26 rfl ?_
  refine j_get (v := .int (sI S 3 a)) M haL (pAt_0 E _ haK) rfl inU_X0 3 (by decide) wF_X0_50 (fun _ h => h) rfl dX0_apartFromJib_27 ?_
  refine j_isub M dX0_apartFromJib_30 ?_
  refine j_istore (lv' := [(5, .int (r - (sI S 3 a))), (4, .int (clV ((sI S 8 a) &&& 7).toNatClampNeg)), (3, .int (rwV ((sI S 8 a) &&& 7).toNatClampNeg)), (0, .ref a), (1, .int r), (2, .int q)]) M dX0_apartFromJib_31 (by decide) rfl ?_
  refine j_iload_n M dX0_apartFromJib_33 rfl ?_
  refine j_aload_n M dX0_apartFromJib_34 rfl ?_
  refine j_get (v := .int (sI S 4 a)) M haL (pAt_0 E _ haK) rfl inU_X0 4 (by decide) wF_X0_56 (fun _ h => h) rfl dX0_apartFromJib_35 ?_
  refine j_isub M dX0_apartFromJib_38 ?_
  refine j_istore (lv' := [(6, .int (q - (sI S 4 a))), (5, .int (r - (sI S 3 a))), (4, .int (clV ((sI S 8 a) &&& 7).toNatClampNeg)), (3, .int (rwV ((sI S 8 a) &&& 7).toNatClampNeg)), (0, .ref a), (1, .int r), (2, .int q)]) M dX0_apartFromJib_39 (by decide) rfl ?_
  refine j_iload M dX0_apartFromJib_41 rfl ?_
  refine j_iload_n M dX0_apartFromJib_43 rfl ?_
  refine j_imul M dX0_apartFromJib_44 ?_
  refine j_iload M dX0_apartFromJib_45 rfl ?_
  refine j_iload M dX0_apartFromJib_47 rfl ?_
  refine j_imul M dX0_apartFromJib_49 ?_
  refine j_iadd M dX0_apartFromJib_50 ?_
  refine j_istore (lv' := [(7, .int (((r - (sI S 3 a)) * (rwV ((sI S 8 a) &&& 7).toNatClampNeg)) + ((q - (sI S 4 a)) * (clV ((sI S 8 a) &&& 7).toNatClampNeg)))), (6, .int (q - (sI S 4 a))), (5, .int (r - (sI S 3 a))), (4, .int (clV ((sI S 8 a) &&& 7).toNatClampNeg)), (3, .int (rwV ((sI S 8 a) &&& 7).toNatClampNeg)), (0, .ref a), (1, .int r), (2, .int q)]) M dX0_apartFromJib_51 (by decide) rfl ?_
  refine j_iload_n M dX0_apartFromJib_53 rfl ?_
  refine j_if_eq (tgt := 68) M dX0_apartFromJib_54 (by decide) (fun c1 => ?_) (fun c1 => ?_)
  · refine j_iconst (v := 0) M dX0_apartFromJib_68 (by decide) ?_
    refine j_iload M dX0_apartFromJib_69 rfl ?_
    refine j_aload_n M dX0_apartFromJib_71 rfl ?_
    refine j_get (v := .int (sI S 9 a)) M haL (pAt_0 E _ haK) rfl inU_X0 9 (by decide) wF_X0_15 (fun _ h => h) rfl dX0_apartFromJib_72 ?_
    refine j_min M wM_X0_85 dX0_apartFromJib_75 (Nat.le_of_ble_eq_true rfl) (Nat.le_of_ble_eq_true rfl) ⟨Nat.zero_le _, Nat.zero_le _⟩ ?_
    refine j_max M wM_X0_94 dX0_apartFromJib_78 (Nat.le_of_ble_eq_true rfl) (Nat.le_of_ble_eq_true rfl) ⟨Nat.zero_le _, Nat.zero_le _⟩ ?_
    refine j_istore (lv' := [(7, .int (imax 0 (imin (((r - (sI S 3 a)) * (rwV ((sI S 8 a) &&& 7).toNatClampNeg)) + ((q - (sI S 4 a)) * (clV ((sI S 8 a) &&& 7).toNatClampNeg))) (sI S 9 a)))), (6, .int (q - (sI S 4 a))), (5, .int (r - (sI S 3 a))), (4, .int (clV ((sI S 8 a) &&& 7).toNatClampNeg)), (3, .int (rwV ((sI S 8 a) &&& 7).toNatClampNeg)), (0, .ref a), (1, .int r), (2, .int q)]) M dX0_apartFromJib_81 (by decide) rfl ?_
    refine j_iload M dX0_apartFromJib_83 rfl ?_
    refine j_iload M dX0_apartFromJib_85 rfl ?_
    refine j_iload_n M dX0_apartFromJib_87 rfl ?_
    refine j_imul M dX0_apartFromJib_88 ?_
    refine j_isub M dX0_apartFromJib_89 ?_
    refine j_abs M wM_X0_121 dX0_apartFromJib_90 (Nat.le_of_ble_eq_true rfl) (Nat.le_of_ble_eq_true rfl) ⟨Nat.zero_le _, Nat.zero_le _⟩ ?_
    refine j_iload M dX0_apartFromJib_93 rfl ?_
    refine j_iload M dX0_apartFromJib_95 rfl ?_
    refine j_iload M dX0_apartFromJib_97 rfl ?_
    refine j_imul M dX0_apartFromJib_99 ?_
    refine j_isub M dX0_apartFromJib_100 ?_
    refine j_abs M wM_X0_121 dX0_apartFromJib_101 (Nat.le_of_ble_eq_true rfl) (Nat.le_of_ble_eq_true rfl) ⟨Nat.zero_le _, Nat.zero_le _⟩ ?_
    refine j_max M wM_X0_94 dX0_apartFromJib_104 (Nat.le_of_ble_eq_true rfl) (Nat.le_of_ble_eq_true rfl) ⟨Nat.zero_le _, Nat.zero_le _⟩ ?_
    exact j_iret (v := (imax (iabs ((r - (sI S 3 a)) - ((imax 0 (imin (((r - (sI S 3 a)) * (rwV ((sI S 8 a) &&& 7).toNatClampNeg)) + ((q - (sI S 4 a)) * (clV ((sI S 8 a) &&& 7).toNatClampNeg))) (sI S 9 a))) * (rwV ((sI S 8 a) &&& 7).toNatClampNeg)))) (iabs ((q - (sI S 4 a)) - ((imax 0 (imin (((r - (sI S 3 a)) * (rwV ((sI S 8 a) &&& 7).toNatClampNeg)) + ((q - (sI S 4 a)) * (clV ((sI S 8 a) &&& 7).toNatClampNeg))) (sI S 9 a))) * (clV ((sI S 8 a) &&& 7).toNatClampNeg)))))) M dX0_apartFromJib_107 (Nat.le_refl _) (Nat.le_refl _) ⟨congrArg (fun z => some (Value.int z)) (show (imax (iabs ((r - (sI S 3 a)) - ((imax 0 (imin (((r - (sI S 3 a)) * (rwV ((sI S 8 a) &&& 7).toNatClampNeg)) + ((q - (sI S 4 a)) * (clV ((sI S 8 a) &&& 7).toNatClampNeg))) (sI S 9 a))) * (rwV ((sI S 8 a) &&& 7).toNatClampNeg)))) (iabs ((q - (sI S 4 a)) - ((imax 0 (imin (((r - (sI S 3 a)) * (rwV ((sI S 8 a) &&& 7).toNatClampNeg)) + ((q - (sI S 4 a)) * (clV ((sI S 8 a) &&& 7).toNatClampNeg))) (sI S 9 a))) * (clV ((sI S 8 a) &&& 7).toNatClampNeg))))) = m_apartFromJib K S a r q from (by unfold m_apartFromJib; rw [if_pos c1])), rfl⟩
  · refine j_iload M dX0_apartFromJib_57 rfl ?_
    refine j_if_eq (tgt := 68) M dX0_apartFromJib_59 (by decide) (fun c2 => ?_) (fun c2 => ?_)
    · refine j_iconst (v := 0) M dX0_apartFromJib_68 (by decide) ?_
      refine j_iload M dX0_apartFromJib_69 rfl ?_
      refine j_aload_n M dX0_apartFromJib_71 rfl ?_
      refine j_get (v := .int (sI S 9 a)) M haL (pAt_0 E _ haK) rfl inU_X0 9 (by decide) wF_X0_15 (fun _ h => h) rfl dX0_apartFromJib_72 ?_
      refine j_min M wM_X0_85 dX0_apartFromJib_75 (Nat.le_of_ble_eq_true rfl) (Nat.le_of_ble_eq_true rfl) ⟨Nat.zero_le _, Nat.zero_le _⟩ ?_
      refine j_max M wM_X0_94 dX0_apartFromJib_78 (Nat.le_of_ble_eq_true rfl) (Nat.le_of_ble_eq_true rfl) ⟨Nat.zero_le _, Nat.zero_le _⟩ ?_
      refine j_istore (lv' := [(7, .int (imax 0 (imin (((r - (sI S 3 a)) * (rwV ((sI S 8 a) &&& 7).toNatClampNeg)) + ((q - (sI S 4 a)) * (clV ((sI S 8 a) &&& 7).toNatClampNeg))) (sI S 9 a)))), (6, .int (q - (sI S 4 a))), (5, .int (r - (sI S 3 a))), (4, .int (clV ((sI S 8 a) &&& 7).toNatClampNeg)), (3, .int (rwV ((sI S 8 a) &&& 7).toNatClampNeg)), (0, .ref a), (1, .int r), (2, .int q)]) M dX0_apartFromJib_81 (by decide) rfl ?_
      refine j_iload M dX0_apartFromJib_83 rfl ?_
      refine j_iload M dX0_apartFromJib_85 rfl ?_
      refine j_iload_n M dX0_apartFromJib_87 rfl ?_
      refine j_imul M dX0_apartFromJib_88 ?_
      refine j_isub M dX0_apartFromJib_89 ?_
      refine j_abs M wM_X0_121 dX0_apartFromJib_90 (Nat.le_of_ble_eq_true rfl) (Nat.le_of_ble_eq_true rfl) ⟨Nat.zero_le _, Nat.zero_le _⟩ ?_
      refine j_iload M dX0_apartFromJib_93 rfl ?_
      refine j_iload M dX0_apartFromJib_95 rfl ?_
      refine j_iload M dX0_apartFromJib_97 rfl ?_
      refine j_imul M dX0_apartFromJib_99 ?_
      refine j_isub M dX0_apartFromJib_100 ?_
      refine j_abs M wM_X0_121 dX0_apartFromJib_101 (Nat.le_of_ble_eq_true rfl) (Nat.le_of_ble_eq_true rfl) ⟨Nat.zero_le _, Nat.zero_le _⟩ ?_
      refine j_max M wM_X0_94 dX0_apartFromJib_104 (Nat.le_of_ble_eq_true rfl) (Nat.le_of_ble_eq_true rfl) ⟨Nat.zero_le _, Nat.zero_le _⟩ ?_
      exact j_iret (v := (imax (iabs ((r - (sI S 3 a)) - ((imax 0 (imin (((r - (sI S 3 a)) * (rwV ((sI S 8 a) &&& 7).toNatClampNeg)) + ((q - (sI S 4 a)) * (clV ((sI S 8 a) &&& 7).toNatClampNeg))) (sI S 9 a))) * (rwV ((sI S 8 a) &&& 7).toNatClampNeg)))) (iabs ((q - (sI S 4 a)) - ((imax 0 (imin (((r - (sI S 3 a)) * (rwV ((sI S 8 a) &&& 7).toNatClampNeg)) + ((q - (sI S 4 a)) * (clV ((sI S 8 a) &&& 7).toNatClampNeg))) (sI S 9 a))) * (clV ((sI S 8 a) &&& 7).toNatClampNeg)))))) M dX0_apartFromJib_107 (Nat.le_refl _) (Nat.le_refl _) ⟨congrArg (fun z => some (Value.int z)) (show (imax (iabs ((r - (sI S 3 a)) - ((imax 0 (imin (((r - (sI S 3 a)) * (rwV ((sI S 8 a) &&& 7).toNatClampNeg)) + ((q - (sI S 4 a)) * (clV ((sI S 8 a) &&& 7).toNatClampNeg))) (sI S 9 a))) * (rwV ((sI S 8 a) &&& 7).toNatClampNeg)))) (iabs ((q - (sI S 4 a)) - ((imax 0 (imin (((r - (sI S 3 a)) * (rwV ((sI S 8 a) &&& 7).toNatClampNeg)) + ((q - (sI S 4 a)) * (clV ((sI S 8 a) &&& 7).toNatClampNeg))) (sI S 9 a))) * (clV ((sI S 8 a) &&& 7).toNatClampNeg))))) = m_apartFromJib K S a r q from (by unfold m_apartFromJib; rw [if_neg c1, if_pos c2])), rfl⟩
    · refine j_iload M dX0_apartFromJib_62 rfl ?_
      refine j_iconst (v := 1) M dX0_apartFromJib_64 (by decide) ?_
      refine j_ishr M dX0_apartFromJib_65 ?_
      refine j_istore (lv' := [(7, .int ((((r - (sI S 3 a)) * (rwV ((sI S 8 a) &&& 7).toNatClampNeg)) + ((q - (sI S 4 a)) * (clV ((sI S 8 a) &&& 7).toNatClampNeg))) >>> (1 &&& 31))), (6, .int (q - (sI S 4 a))), (5, .int (r - (sI S 3 a))), (4, .int (clV ((sI S 8 a) &&& 7).toNatClampNeg)), (3, .int (rwV ((sI S 8 a) &&& 7).toNatClampNeg)), (0, .ref a), (1, .int r), (2, .int q)]) M dX0_apartFromJib_66 (by decide) rfl ?_
      refine j_iconst (v := 0) M dX0_apartFromJib_68 (by decide) ?_
      refine j_iload M dX0_apartFromJib_69 rfl ?_
      refine j_aload_n M dX0_apartFromJib_71 rfl ?_
      refine j_get (v := .int (sI S 9 a)) M haL (pAt_0 E _ haK) rfl inU_X0 9 (by decide) wF_X0_15 (fun _ h => h) rfl dX0_apartFromJib_72 ?_
      refine j_min M wM_X0_85 dX0_apartFromJib_75 (Nat.le_of_ble_eq_true rfl) (Nat.le_of_ble_eq_true rfl) ⟨Nat.zero_le _, Nat.zero_le _⟩ ?_
      refine j_max M wM_X0_94 dX0_apartFromJib_78 (Nat.le_of_ble_eq_true rfl) (Nat.le_of_ble_eq_true rfl) ⟨Nat.zero_le _, Nat.zero_le _⟩ ?_
      refine j_istore (lv' := [(7, .int (imax 0 (imin ((((r - (sI S 3 a)) * (rwV ((sI S 8 a) &&& 7).toNatClampNeg)) + ((q - (sI S 4 a)) * (clV ((sI S 8 a) &&& 7).toNatClampNeg))) >>> (1 &&& 31)) (sI S 9 a)))), (6, .int (q - (sI S 4 a))), (5, .int (r - (sI S 3 a))), (4, .int (clV ((sI S 8 a) &&& 7).toNatClampNeg)), (3, .int (rwV ((sI S 8 a) &&& 7).toNatClampNeg)), (0, .ref a), (1, .int r), (2, .int q)]) M dX0_apartFromJib_81 (by decide) rfl ?_
      refine j_iload M dX0_apartFromJib_83 rfl ?_
      refine j_iload M dX0_apartFromJib_85 rfl ?_
      refine j_iload_n M dX0_apartFromJib_87 rfl ?_
      refine j_imul M dX0_apartFromJib_88 ?_
      refine j_isub M dX0_apartFromJib_89 ?_
      refine j_abs M wM_X0_121 dX0_apartFromJib_90 (Nat.le_of_ble_eq_true rfl) (Nat.le_of_ble_eq_true rfl) ⟨Nat.zero_le _, Nat.zero_le _⟩ ?_
      refine j_iload M dX0_apartFromJib_93 rfl ?_
      refine j_iload M dX0_apartFromJib_95 rfl ?_
      refine j_iload M dX0_apartFromJib_97 rfl ?_
      refine j_imul M dX0_apartFromJib_99 ?_
      refine j_isub M dX0_apartFromJib_100 ?_
      refine j_abs M wM_X0_121 dX0_apartFromJib_101 (Nat.le_of_ble_eq_true rfl) (Nat.le_of_ble_eq_true rfl) ⟨Nat.zero_le _, Nat.zero_le _⟩ ?_
      refine j_max M wM_X0_94 dX0_apartFromJib_104 (Nat.le_of_ble_eq_true rfl) (Nat.le_of_ble_eq_true rfl) ⟨Nat.zero_le _, Nat.zero_le _⟩ ?_
      exact j_iret (v := (imax (iabs ((r - (sI S 3 a)) - ((imax 0 (imin ((((r - (sI S 3 a)) * (rwV ((sI S 8 a) &&& 7).toNatClampNeg)) + ((q - (sI S 4 a)) * (clV ((sI S 8 a) &&& 7).toNatClampNeg))) >>> (1 &&& 31)) (sI S 9 a))) * (rwV ((sI S 8 a) &&& 7).toNatClampNeg)))) (iabs ((q - (sI S 4 a)) - ((imax 0 (imin ((((r - (sI S 3 a)) * (rwV ((sI S 8 a) &&& 7).toNatClampNeg)) + ((q - (sI S 4 a)) * (clV ((sI S 8 a) &&& 7).toNatClampNeg))) >>> (1 &&& 31)) (sI S 9 a))) * (clV ((sI S 8 a) &&& 7).toNatClampNeg)))))) M dX0_apartFromJib_107 (Nat.le_refl _) (Nat.le_refl _) ⟨congrArg (fun z => some (Value.int z)) (show (imax (iabs ((r - (sI S 3 a)) - ((imax 0 (imin ((((r - (sI S 3 a)) * (rwV ((sI S 8 a) &&& 7).toNatClampNeg)) + ((q - (sI S 4 a)) * (clV ((sI S 8 a) &&& 7).toNatClampNeg))) >>> (1 &&& 31)) (sI S 9 a))) * (rwV ((sI S 8 a) &&& 7).toNatClampNeg)))) (iabs ((q - (sI S 4 a)) - ((imax 0 (imin ((((r - (sI S 3 a)) * (rwV ((sI S 8 a) &&& 7).toNatClampNeg)) + ((q - (sI S 4 a)) * (clV ((sI S 8 a) &&& 7).toNatClampNeg))) >>> (1 &&& 31)) (sI S 9 a))) * (clV ((sI S 8 a) &&& 7).toNatClampNeg))))) = m_apartFromJib K S a r q from (by unfold m_apartFromJib; rw [if_neg c1, if_neg c2])), rfl⟩
def m_sweepsOn (K : Nat → Nat) (S : PS) (a : Nat) (b : Nat) (t : Int32) : Int32 :=
  if (sI S 5 b) ≤ ((sI S 5 a) - 3) then
    0
  else
    if t < (m_apartFromJib K S a (sI S 3 b) (sI S 4 b)) then
      0
    else
      1
theorem cf_X0_sweepsOn : CFv yX0_sweepsOn RX0 cX0_sweepsOn 3 (some .boolean) 2 := ⟨wC_X0_sweepsOn, wI_X0_sweepsOn, wV_X0_X0_sweepsOn, wN_X0, by decide +kernel⟩
set_option maxHeartbeats 4000000 in
set_option maxRecDepth 100000 in
theorem c_sweepsOn {l : Launch} {E : EV} {K : Nat → Nat} {S : PS} (hW : WS K S) {a : Nat} (haL : a ∈ sL S) (haK : sK S a = 0) {b : Nat} (hbL : b ∈ sL S) (hbK : sK S b = 0) (t : Int32) : CT l yX0_sweepsOn cX0_sweepsOn 3 (some .boolean) 2 41 0 0 E [.ref a, .ref b, .int t] S (pv (.int (m_sweepsOn K S a b t)) S) := by
  refine CT.of (by decide) (Nat.le_of_ble_eq_true rfl) ?_
  intro p e s m below meth c M hin
  have M : MC E p s m _ meth c cX0_sweepsOn RX0 3 (some .boolean) := M
  show J p l e _ s m _ below meth c _ E 3 0 [(0, .ref a), (1, .ref b), (2, .int t)] [] S 0 0
  refine j_aload_n M dX0_sweepsOn_0 rfl ?_
  refine j_get (v := .int (sI S 5 b)) M hbL (pAt_0 E _ hbK) rfl inU_X0 5 (by decide) wF_X0_59 (fun _ h => h) rfl dX0_sweepsOn_1 ?_
  refine j_aload_n M dX0_sweepsOn_4 rfl ?_
  refine j_get (v := .int (sI S 5 a)) M haL (pAt_0 E _ haK) rfl inU_X0 5 (by decide) wF_X0_59 (fun _ h => h) rfl dX0_sweepsOn_5 ?_
  refine j_iconst (v := 3) M dX0_sweepsOn_8 (by decide) ?_
  refine j_isub M dX0_sweepsOn_9 ?_
  refine j_icmp_le (tgt := 33) M dX0_sweepsOn_10 (by decide) (fun c1 => ?_) (fun c1 => ?_)
  · refine j_iconst (v := 0) M dX0_sweepsOn_33 (by decide) ?_
    exact j_zret (v := 0) M dX0_sweepsOn_34 (Nat.le_refl _) (Nat.le_refl _) rfl ⟨congrArg (fun z => some (Value.int z)) (show 0 = m_sweepsOn K S a b t from (by unfold m_sweepsOn; rw [if_pos c1])), rfl⟩
  · refine j_aload_n M dX0_sweepsOn_13 rfl ?_
    refine j_aload_n M dX0_sweepsOn_14 rfl ?_
    refine j_get (v := .int (sI S 3 b)) M hbL (pAt_0 E _ hbK) rfl inU_X0 3 (by decide) wF_X0_50 (fun _ h => h) rfl dX0_sweepsOn_15 ?_
    refine j_aload_n M dX0_sweepsOn_18 rfl ?_
    refine j_get (v := .int (sI S 4 b)) M hbL (pAt_0 E _ hbK) rfl inU_X0 4 (by decide) wF_X0_56 (fun _ h => h) rfl dX0_sweepsOn_19 ?_
    refine j_callV1 (As := [.int (sI S 3 b), .int (sI S 4 b)]) M cf_X0_apartFromJib wM_X0_124 (c_apartFromJib hW haL haK (sI S 3 b) (sI S 4 b)) haL (pAt_0 E _ haK) rfl rfl ⟨Nat.le_of_ble_eq_true rfl, Nat.le_of_ble_eq_true rfl⟩ (Nat.le_of_ble_eq_true rfl) ⟨Nat.zero_le _, Nat.zero_le _⟩ dX0_sweepsOn_22 rfl ?_
    refine j_iload_n M dX0_sweepsOn_25 rfl ?_
    refine j_icmp_gt (tgt := 33) M dX0_sweepsOn_26 (by decide) (fun c2 => ?_) (fun c2 => ?_)
    · refine j_iconst (v := 0) M dX0_sweepsOn_33 (by decide) ?_
      exact j_zret (v := 0) M dX0_sweepsOn_34 (Nat.le_refl _) (Nat.le_refl _) rfl ⟨congrArg (fun z => some (Value.int z)) (show 0 = m_sweepsOn K S a b t from (by unfold m_sweepsOn; rw [if_neg c1, if_pos c2])), rfl⟩
    · refine j_iconst (v := 1) M dX0_sweepsOn_29 (by decide) ?_
      refine j_goto (tgt := 34) M dX0_sweepsOn_30 (by decide) ?_
      exact j_zret (v := 1) M dX0_sweepsOn_34 (Nat.le_refl _) (Nat.le_refl _) rfl ⟨congrArg (fun z => some (Value.int z)) (show 1 = m_sweepsOn K S a b t from (by unfold m_sweepsOn; rw [if_neg c1, if_neg c2])), rfl⟩
def m_isWithinBounds (K : Nat → Nat) (S : PS) (a : Nat) : Int32 :=
  if (sI S 10 a) < 1 then
    0
  else
    if (sI S 6 a) < (sI S 10 a) then
      0
    else
      if (sI S 11 a) < 1 then
        0
      else
        if ((sI S 5 a) - 1) < (sI S 11 a) then
          0
        else
          if (sI S 12 a) < 0 then
            0
          else
            if 20 < (sI S 12 a) then
              0
            else
              if (m_plumb K S a) = (-1) then
                0
              else
                1
theorem cf_X0_isWithinBounds : CFv yX0_isWithinBounds RX0 cX0_isWithinBounds 1 (some .boolean) 0 := ⟨wC_X0_isWithinBounds, wI_X0_isWithinBounds, wV_X0_X0_isWithinBounds, wN_X0, by decide +kernel⟩
set_option maxHeartbeats 4000000 in
set_option maxRecDepth 100000 in
theorem c_isWithinBounds {l : Launch} {E : EV} {K : Nat → Nat} {S : PS} (hW : WS K S) {a : Nat} (haL : a ∈ sL S) (haK : sK S a = 0) : CT l yX0_isWithinBounds cX0_isWithinBounds 1 (some .boolean) 3 64 0 0 E [.ref a] S (pv (.int (m_isWithinBounds K S a)) S) := by
  refine CT.of (by decide) (Nat.le_of_ble_eq_true rfl) ?_
  intro p e s m below meth c M hin
  have M : MC E p s m _ meth c cX0_isWithinBounds RX0 1 (some .boolean) := M
  show J p l e _ s m _ below meth c _ E 1 0 [(0, .ref a)] [] S 0 0
  refine j_aload_n M dX0_isWithinBounds_0 rfl ?_
  refine j_get (v := .int (sI S 10 a)) M haL (pAt_0 E _ haK) rfl inU_X0 10 (by decide) wF_X0_18 (fun _ h => h) rfl dX0_isWithinBounds_1 ?_
  refine j_iconst (v := 1) M dX0_isWithinBounds_4 (by decide) ?_
  refine j_icmp_lt (tgt := 68) M dX0_isWithinBounds_5 (by decide) (fun c1 => ?_) (fun c1 => ?_)
  · refine j_iconst (v := 0) M dX0_isWithinBounds_68 (by decide) ?_
    exact j_zret (v := 0) M dX0_isWithinBounds_69 (Nat.le_refl _) (Nat.le_refl _) rfl ⟨congrArg (fun z => some (Value.int z)) (show 0 = m_isWithinBounds K S a from (by unfold m_isWithinBounds; rw [if_pos c1])), rfl⟩
  · refine j_aload_n M dX0_isWithinBounds_8 rfl ?_
    refine j_get (v := .int (sI S 10 a)) M haL (pAt_0 E _ haK) rfl inU_X0 10 (by decide) wF_X0_18 (fun _ h => h) rfl dX0_isWithinBounds_9 ?_
    refine j_aload_n M dX0_isWithinBounds_12 rfl ?_
    refine j_get (v := .int (sI S 6 a)) M haL (pAt_0 E _ haK) rfl inU_X0 6 (by decide) wF_X0_62 (fun _ h => h) rfl dX0_isWithinBounds_13 ?_
    refine j_icmp_gt (tgt := 68) M dX0_isWithinBounds_16 (by decide) (fun c2 => ?_) (fun c2 => ?_)
    · refine j_iconst (v := 0) M dX0_isWithinBounds_68 (by decide) ?_
      exact j_zret (v := 0) M dX0_isWithinBounds_69 (Nat.le_refl _) (Nat.le_refl _) rfl ⟨congrArg (fun z => some (Value.int z)) (show 0 = m_isWithinBounds K S a from (by unfold m_isWithinBounds; rw [if_neg c1, if_pos c2])), rfl⟩
    · refine j_aload_n M dX0_isWithinBounds_19 rfl ?_
      refine j_get (v := .int (sI S 11 a)) M haL (pAt_0 E _ haK) rfl inU_X0 11 (by decide) wF_X0_68 (fun _ h => h) rfl dX0_isWithinBounds_20 ?_
      refine j_iconst (v := 1) M dX0_isWithinBounds_23 (by decide) ?_
      refine j_icmp_lt (tgt := 68) M dX0_isWithinBounds_24 (by decide) (fun c3 => ?_) (fun c3 => ?_)
      · refine j_iconst (v := 0) M dX0_isWithinBounds_68 (by decide) ?_
        exact j_zret (v := 0) M dX0_isWithinBounds_69 (Nat.le_refl _) (Nat.le_refl _) rfl ⟨congrArg (fun z => some (Value.int z)) (show 0 = m_isWithinBounds K S a from (by unfold m_isWithinBounds; rw [if_neg c1, if_neg c2, if_pos c3])), rfl⟩
      · refine j_aload_n M dX0_isWithinBounds_27 rfl ?_
        refine j_get (v := .int (sI S 11 a)) M haL (pAt_0 E _ haK) rfl inU_X0 11 (by decide) wF_X0_68 (fun _ h => h) rfl dX0_isWithinBounds_28 ?_
        refine j_aload_n M dX0_isWithinBounds_31 rfl ?_
        refine j_get (v := .int (sI S 5 a)) M haL (pAt_0 E _ haK) rfl inU_X0 5 (by decide) wF_X0_59 (fun _ h => h) rfl dX0_isWithinBounds_32 ?_
        refine j_iconst (v := 1) M dX0_isWithinBounds_35 (by decide) ?_
        refine j_isub M dX0_isWithinBounds_36 ?_
        refine j_icmp_gt (tgt := 68) M dX0_isWithinBounds_37 (by decide) (fun c4 => ?_) (fun c4 => ?_)
        · refine j_iconst (v := 0) M dX0_isWithinBounds_68 (by decide) ?_
          exact j_zret (v := 0) M dX0_isWithinBounds_69 (Nat.le_refl _) (Nat.le_refl _) rfl ⟨congrArg (fun z => some (Value.int z)) (show 0 = m_isWithinBounds K S a from (by unfold m_isWithinBounds; rw [if_neg c1, if_neg c2, if_neg c3, if_pos c4])), rfl⟩
        · refine j_aload_n M dX0_isWithinBounds_40 rfl ?_
          refine j_get (v := .int (sI S 12 a)) M haL (pAt_0 E _ haK) rfl inU_X0 12 (by decide) wF_X0_21 (fun _ h => h) rfl dX0_isWithinBounds_41 ?_
          refine j_if_lt (tgt := 68) M dX0_isWithinBounds_44 (by decide) (fun c5 => ?_) (fun c5 => ?_)
          · refine j_iconst (v := 0) M dX0_isWithinBounds_68 (by decide) ?_
            exact j_zret (v := 0) M dX0_isWithinBounds_69 (Nat.le_refl _) (Nat.le_refl _) rfl ⟨congrArg (fun z => some (Value.int z)) (show 0 = m_isWithinBounds K S a from (by unfold m_isWithinBounds; rw [if_neg c1, if_neg c2, if_neg c3, if_neg c4, if_pos c5])), rfl⟩
          · refine j_aload_n M dX0_isWithinBounds_47 rfl ?_
            refine j_get (v := .int (sI S 12 a)) M haL (pAt_0 E _ haK) rfl inU_X0 12 (by decide) wF_X0_21 (fun _ h => h) rfl dX0_isWithinBounds_48 ?_
            refine j_bipush (v := 20) M dX0_isWithinBounds_51 (by decide) ?_
            refine j_icmp_gt (tgt := 68) M dX0_isWithinBounds_53 (by decide) (fun c6 => ?_) (fun c6 => ?_)
            · refine j_iconst (v := 0) M dX0_isWithinBounds_68 (by decide) ?_
              exact j_zret (v := 0) M dX0_isWithinBounds_69 (Nat.le_refl _) (Nat.le_refl _) rfl ⟨congrArg (fun z => some (Value.int z)) (show 0 = m_isWithinBounds K S a from (by unfold m_isWithinBounds; rw [if_neg c1, if_neg c2, if_neg c3, if_neg c4, if_neg c5, if_pos c6])), rfl⟩
            · refine j_aload_n M dX0_isWithinBounds_56 rfl ?_
              refine j_callV1 (As := []) M cf_X0_plumb wM_X0_107 (c_plumb hW haL haK) haL (pAt_0 E _ haK) rfl rfl ⟨Nat.le_of_ble_eq_true rfl, Nat.le_of_ble_eq_true rfl⟩ (Nat.le_of_ble_eq_true rfl) ⟨Nat.zero_le _, Nat.zero_le _⟩ dX0_isWithinBounds_57 rfl ?_
              refine j_iconst (v := (-1)) M dX0_isWithinBounds_60 (by decide) ?_
              refine j_icmp_eq (tgt := 68) M dX0_isWithinBounds_61 (by decide) (fun c7 => ?_) (fun c7 => ?_)
              · refine j_iconst (v := 0) M dX0_isWithinBounds_68 (by decide) ?_
                exact j_zret (v := 0) M dX0_isWithinBounds_69 (Nat.le_refl _) (Nat.le_refl _) rfl ⟨congrArg (fun z => some (Value.int z)) (show 0 = m_isWithinBounds K S a from (by unfold m_isWithinBounds; rw [if_neg c1, if_neg c2, if_neg c3, if_neg c4, if_neg c5, if_neg c6, if_pos c7])), rfl⟩
              · refine j_iconst (v := 1) M dX0_isWithinBounds_64 (by decide) ?_
                refine j_goto (tgt := 69) M dX0_isWithinBounds_65 (by decide) ?_
                exact j_zret (v := 1) M dX0_isWithinBounds_69 (Nat.le_refl _) (Nat.le_refl _) rfl ⟨congrArg (fun z => some (Value.int z)) (show 1 = m_isWithinBounds K S a from (by unfold m_isWithinBounds; rw [if_neg c1, if_neg c2, if_neg c3, if_neg c4, if_neg c5, if_neg c6, if_neg c7])), rfl⟩
def m_hour (K : Nat → Nat) (S : PS) : Int32 :=
  ((sI S 39 (K 1)) / 20) - ((sI S 39 (K 1)) / 20) / 24 * 24
theorem cf_X5_hour : CFv yX5_hour RX5 cX5_hour 1 (some .int) 0 := ⟨wC_X5_hour, wI_X5_hour, wV_X5_X5_hour, wN_X5, by decide +kernel⟩
set_option maxHeartbeats 4000000 in
set_option maxRecDepth 100000 in
theorem c_hour {l : Launch} {E : EV} {K : Nat → Nat} {S : PS} (hW : WS K S) : CT l yX5_hour cX5_hour 1 (some .int) 0 0 0 0 E [.ref (K 1)] S (pv (.int (m_hour K S)) S) := by
  refine CT.of (by decide) (Nat.le_of_ble_eq_true rfl) ?_
  intro p e s m below meth c M hin
  have M : MC E p s m _ meth c cX5_hour RX5 1 (some .int) := M
  show J p l e _ s m _ below meth c _ E 1 0 [(0, .ref (K 1))] [] S 0 0
  refine j_aload_n M dX5_hour_0 rfl ?_
  refine j_get (v := .int (sI S 39 (K 1))) M hW.k1.1 (pAt_5 E _ hW.k1.2) rfl inU_X5 7 (by decide) wF_X5_36 (fun _ h => h) rfl dX5_hour_1 ?_
  refine j_bipush (v := 20) M dX5_hour_4 (by decide) ?_
  refine j_idiv M dX5_hour_6 (by decide) ?_
  refine j_bipush (v := 24) M dX5_hour_7 (by decide) ?_
  refine j_irem M dX5_hour_9 (by decide) ?_
  exact j_iret (v := (((sI S 39 (K 1)) / 20) - ((sI S 39 (K 1)) / 20) / 24 * 24)) M dX5_hour_10 (Nat.le_refl _) (Nat.le_refl _) ⟨congrArg (fun z => some (Value.int z)) (show (((sI S 39 (K 1)) / 20) - ((sI S 39 (K 1)) / 20) / 24 * 24) = m_hour K S from rfl), rfl⟩
def m_covers (K : Nat → Nat) (S : PS) (a : Nat) (r : Int32) (q : Int32) : Int32 :=
  if r < (sI S 42 a) then
    0
  else
    if (sI S 44 a) < r then
      0
    else
      if q < (sI S 43 a) then
        0
      else
        if (sI S 45 a) < q then
          0
        else
          1
theorem cf_X6_covers : CFv yX6_covers RX6 cX6_covers 3 (some .boolean) 2 := ⟨wC_X6_covers, wI_X6_covers, wV_X6_X6_covers, wN_X6, by decide +kernel⟩
set_option maxHeartbeats 4000000 in
set_option maxRecDepth 100000 in
theorem c_covers {l : Launch} {E : EV} {K : Nat → Nat} {S : PS} (hW : WS K S) {a : Nat} (haL : a ∈ sL S) (haK : sK S a = 6) (r : Int32) (q : Int32) : CT l yX6_covers cX6_covers 3 (some .boolean) 0 0 0 0 E [.ref a, .int r, .int q] S (pv (.int (m_covers K S a r q)) S) := by
  refine CT.of (by decide) (Nat.le_of_ble_eq_true rfl) ?_
  intro p e s m below meth c M hin
  have M : MC E p s m _ meth c cX6_covers RX6 3 (some .boolean) := M
  show J p l e _ s m _ below meth c _ E 3 0 [(0, .ref a), (1, .int r), (2, .int q)] [] S 0 0
  refine j_iload_n M dX6_covers_0 rfl ?_
  refine j_aload_n M dX6_covers_1 rfl ?_
  refine j_get (v := .int (sI S 42 a)) M haL (pAt_6 E _ haK) rfl inU_X6 0 (by decide) wF_X6_7 (fun _ h => h) rfl dX6_covers_2 ?_
  refine j_icmp_lt (tgt := 36) M dX6_covers_5 (by decide) (fun c1 => ?_) (fun c1 => ?_)
  · refine j_iconst (v := 0) M dX6_covers_36 (by decide) ?_
    exact j_zret (v := 0) M dX6_covers_37 (Nat.le_refl _) (Nat.le_refl _) rfl ⟨congrArg (fun z => some (Value.int z)) (show 0 = m_covers K S a r q from (by unfold m_covers; rw [if_pos c1])), rfl⟩
  · refine j_iload_n M dX6_covers_8 rfl ?_
    refine j_aload_n M dX6_covers_9 rfl ?_
    refine j_get (v := .int (sI S 44 a)) M haL (pAt_6 E _ haK) rfl inU_X6 2 (by decide) wF_X6_16 (fun _ h => h) rfl dX6_covers_10 ?_
    refine j_icmp_gt (tgt := 36) M dX6_covers_13 (by decide) (fun c2 => ?_) (fun c2 => ?_)
    · refine j_iconst (v := 0) M dX6_covers_36 (by decide) ?_
      exact j_zret (v := 0) M dX6_covers_37 (Nat.le_refl _) (Nat.le_refl _) rfl ⟨congrArg (fun z => some (Value.int z)) (show 0 = m_covers K S a r q from (by unfold m_covers; rw [if_neg c1, if_pos c2])), rfl⟩
    · refine j_iload_n M dX6_covers_16 rfl ?_
      refine j_aload_n M dX6_covers_17 rfl ?_
      refine j_get (v := .int (sI S 43 a)) M haL (pAt_6 E _ haK) rfl inU_X6 1 (by decide) wF_X6_13 (fun _ h => h) rfl dX6_covers_18 ?_
      refine j_icmp_lt (tgt := 36) M dX6_covers_21 (by decide) (fun c3 => ?_) (fun c3 => ?_)
      · refine j_iconst (v := 0) M dX6_covers_36 (by decide) ?_
        exact j_zret (v := 0) M dX6_covers_37 (Nat.le_refl _) (Nat.le_refl _) rfl ⟨congrArg (fun z => some (Value.int z)) (show 0 = m_covers K S a r q from (by unfold m_covers; rw [if_neg c1, if_neg c2, if_pos c3])), rfl⟩
      · refine j_iload_n M dX6_covers_24 rfl ?_
        refine j_aload_n M dX6_covers_25 rfl ?_
        refine j_get (v := .int (sI S 45 a)) M haL (pAt_6 E _ haK) rfl inU_X6 3 (by decide) wF_X6_19 (fun _ h => h) rfl dX6_covers_26 ?_
        refine j_icmp_gt (tgt := 36) M dX6_covers_29 (by decide) (fun c4 => ?_) (fun c4 => ?_)
        · refine j_iconst (v := 0) M dX6_covers_36 (by decide) ?_
          exact j_zret (v := 0) M dX6_covers_37 (Nat.le_refl _) (Nat.le_refl _) rfl ⟨congrArg (fun z => some (Value.int z)) (show 0 = m_covers K S a r q from (by unfold m_covers; rw [if_neg c1, if_neg c2, if_neg c3, if_pos c4])), rfl⟩
        · refine j_iconst (v := 1) M dX6_covers_32 (by decide) ?_
          refine j_goto (tgt := 37) M dX6_covers_33 (by decide) ?_
          exact j_zret (v := 1) M dX6_covers_37 (Nat.le_refl _) (Nat.le_refl _) rfl ⟨congrArg (fun z => some (Value.int z)) (show 1 = m_covers K S a r q from (by unfold m_covers; rw [if_neg c1, if_neg c2, if_neg c3, if_neg c4])), rfl⟩
def m_isShutAt (K : Nat → Nat) (S : PS) (a : Nat) (h : Int32) : Int32 :=
  if (sI S 46 a) ≤ (sI S 47 a) then
    if h < (sI S 46 a) then
      0
    else
      if (sI S 47 a) < h then
        0
      else
        1
  else
    if (sI S 46 a) ≤ h then
      1
    else
      if (sI S 47 a) < h then
        0
      else
        1
theorem cf_X6_isShutAt : CFv yX6_isShutAt RX6 cX6_isShutAt 2 (some .boolean) 1 := ⟨wC_X6_isShutAt, wI_X6_isShutAt, wV_X6_X6_isShutAt, wN_X6, by decide +kernel⟩
set_option maxHeartbeats 4000000 in
set_option maxRecDepth 100000 in
theorem c_isShutAt {l : Launch} {E : EV} {K : Nat → Nat} {S : PS} (hW : WS K S) {a : Nat} (haL : a ∈ sL S) (haK : sK S a = 6) (h : Int32) : CT l yX6_isShutAt cX6_isShutAt 2 (some .boolean) 0 0 0 0 E [.ref a, .int h] S (pv (.int (m_isShutAt K S a h)) S) := by
  refine CT.of (by decide) (Nat.le_of_ble_eq_true rfl) ?_
  intro p e s m below meth c M hin
  have M : MC E p s m _ meth c cX6_isShutAt RX6 2 (some .boolean) := M
  show J p l e _ s m _ below meth c _ E 2 0 [(0, .ref a), (1, .int h)] [] S 0 0
  refine j_aload_n M dX6_isShutAt_0 rfl ?_
  refine j_get (v := .int (sI S 46 a)) M haL (pAt_6 E _ haK) rfl inU_X6 4 (by decide) wF_X6_22 (fun _ h => h) rfl dX6_isShutAt_1 ?_
  refine j_aload_n M dX6_isShutAt_4 rfl ?_
  refine j_get (v := .int (sI S 47 a)) M haL (pAt_6 E _ haK) rfl inU_X6 5 (by decide) wF_X6_25 (fun _ h => h) rfl dX6_isShutAt_5 ?_
  refine j_icmp_le (tgt := 33) M dX6_isShutAt_8 (by decide) (fun c1 => ?_) (fun c1 => ?_)
  · refine j_iload_n M dX6_isShutAt_33 rfl ?_
    refine j_aload_n M dX6_isShutAt_34 rfl ?_
    refine j_get (v := .int (sI S 46 a)) M haL (pAt_6 E _ haK) rfl inU_X6 4 (by decide) wF_X6_22 (fun _ h => h) rfl dX6_isShutAt_35 ?_
    refine j_icmp_lt (tgt := 53) M dX6_isShutAt_38 (by decide) (fun c2 => ?_) (fun c2 => ?_)
    · refine j_iconst (v := 0) M dX6_isShutAt_53 (by decide) ?_
      exact j_zret (v := 0) M dX6_isShutAt_54 (Nat.le_refl _) (Nat.le_refl _) rfl ⟨congrArg (fun z => some (Value.int z)) (show 0 = m_isShutAt K S a h from (by unfold m_isShutAt; rw [if_pos c1, if_pos c2])), rfl⟩
    · refine j_iload_n M dX6_isShutAt_41 rfl ?_
      refine j_aload_n M dX6_isShutAt_42 rfl ?_
      refine j_get (v := .int (sI S 47 a)) M haL (pAt_6 E _ haK) rfl inU_X6 5 (by decide) wF_X6_25 (fun _ h => h) rfl dX6_isShutAt_43 ?_
      refine j_icmp_gt (tgt := 53) M dX6_isShutAt_46 (by decide) (fun c3 => ?_) (fun c3 => ?_)
      · refine j_iconst (v := 0) M dX6_isShutAt_53 (by decide) ?_
        exact j_zret (v := 0) M dX6_isShutAt_54 (Nat.le_refl _) (Nat.le_refl _) rfl ⟨congrArg (fun z => some (Value.int z)) (show 0 = m_isShutAt K S a h from (by unfold m_isShutAt; rw [if_pos c1, if_neg c2, if_pos c3])), rfl⟩
      · refine j_iconst (v := 1) M dX6_isShutAt_49 (by decide) ?_
        refine j_goto (tgt := 54) M dX6_isShutAt_50 (by decide) ?_
        exact j_zret (v := 1) M dX6_isShutAt_54 (Nat.le_refl _) (Nat.le_refl _) rfl ⟨congrArg (fun z => some (Value.int z)) (show 1 = m_isShutAt K S a h from (by unfold m_isShutAt; rw [if_pos c1, if_neg c2, if_neg c3])), rfl⟩
  · refine j_iload_n M dX6_isShutAt_11 rfl ?_
    refine j_aload_n M dX6_isShutAt_12 rfl ?_
    refine j_get (v := .int (sI S 46 a)) M haL (pAt_6 E _ haK) rfl inU_X6 4 (by decide) wF_X6_22 (fun _ h => h) rfl dX6_isShutAt_13 ?_
    refine j_icmp_ge (tgt := 27) M dX6_isShutAt_16 (by decide) (fun c4 => ?_) (fun c4 => ?_)
    · refine j_iconst (v := 1) M dX6_isShutAt_27 (by decide) ?_
      refine j_goto (tgt := 32) M dX6_isShutAt_28 (by decide) ?_
      exact j_zret (v := 1) M dX6_isShutAt_32 (Nat.le_refl _) (Nat.le_refl _) rfl ⟨congrArg (fun z => some (Value.int z)) (show 1 = m_isShutAt K S a h from (by unfold m_isShutAt; rw [if_neg c1, if_pos c4])), rfl⟩
    · refine j_iload_n M dX6_isShutAt_19 rfl ?_
      refine j_aload_n M dX6_isShutAt_20 rfl ?_
      refine j_get (v := .int (sI S 47 a)) M haL (pAt_6 E _ haK) rfl inU_X6 5 (by decide) wF_X6_25 (fun _ h => h) rfl dX6_isShutAt_21 ?_
      refine j_icmp_gt (tgt := 31) M dX6_isShutAt_24 (by decide) (fun c5 => ?_) (fun c5 => ?_)
      · refine j_iconst (v := 0) M dX6_isShutAt_31 (by decide) ?_
        exact j_zret (v := 0) M dX6_isShutAt_32 (Nat.le_refl _) (Nat.le_refl _) rfl ⟨congrArg (fun z => some (Value.int z)) (show 0 = m_isShutAt K S a h from (by unfold m_isShutAt; rw [if_neg c1, if_neg c4, if_pos c5])), rfl⟩
      · refine j_iconst (v := 1) M dX6_isShutAt_27 (by decide) ?_
        refine j_goto (tgt := 32) M dX6_isShutAt_28 (by decide) ?_
        exact j_zret (v := 1) M dX6_isShutAt_32 (Nat.le_refl _) (Nat.le_refl _) rfl ⟨congrArg (fun z => some (Value.int z)) (show 1 = m_isShutAt K S a h from (by unfold m_isShutAt; rw [if_neg c1, if_neg c4, if_neg c5])), rfl⟩
