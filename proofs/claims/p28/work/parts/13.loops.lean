def m_liesOn (K : Nat → Nat) (S : PS) (a : Nat) (x : Int32) : Int32 :=
  if sM S 22 a = none then
    if (sI S 21 a) = x then
      1
    else
      0
  else
    0
theorem cf_X2_liesOn : CFv yX2_liesOn RX2 cX2_liesOn 2 (some .boolean) 1 := ⟨wC_X2_liesOn, wI_X2_liesOn, wV_X2_X2_liesOn, wN_X2, by decide +kernel⟩
set_option maxHeartbeats 4000000 in
set_option maxRecDepth 100000 in
theorem c_liesOn {l : Launch} {E : EV} {K : Nat → Nat} {S : PS} (hW : WS K S) (hA : AW S) (hM : WM S) {a : Nat} (haL : a ∈ sL S) (haK : sK S a = 2) (x : Int32) : CT l yX2_liesOn cX2_liesOn 2 (some .boolean) 0 0 0 0 E [.ref a, .int x] S (pv (.int (m_liesOn K S a x)) S) := by
  refine CT.of (by decide) (Nat.le_of_ble_eq_true rfl) ?_
  intro p e s m below meth c M hin
  have M : MC E p s m _ meth c cX2_liesOn RX2 2 (some .boolean) := M
  show J p l e _ s m _ below meth c _ E 2 0 [(0, .ref a), (1, .int x)] [] S 0 0
  refine j_aload_n M dX2_liesOn_0 rfl ?_
  refine j_get (v := va_rf (sM S 22 a)) M haL (pAt_2 E _ haK) rfl inU_X2 3 (by decide) wF_X2_7 (fun _ h => h) rfl dX2_liesOn_1 ?_
  refine j_opt (fun c1 => ?_) (fun c1s c1 => ?_)
  · refine j_ifnonnullN M dX2_liesOn_4 ?_
    refine j_aload_n M dX2_liesOn_7 rfl ?_
    refine j_get (v := .int (sI S 21 a)) M haL (pAt_2 E _ haK) rfl inU_X2 2 (by decide) wF_X2_17 (fun _ h => h) rfl dX2_liesOn_8 ?_
    refine j_iload_n M dX2_liesOn_11 rfl ?_
    refine j_icmp_ne (tgt := 19) M dX2_liesOn_12 (by decide) (fun c2 => ?_) (fun c2 => ?_)
    · refine j_iconst (v := 0) M dX2_liesOn_19 (by decide) ?_
      exact j_zret (v := 0) M dX2_liesOn_20 (Nat.le_refl _) (Nat.le_refl _) rfl ⟨congrArg (fun z => some (Value.int z)) (show 0 = m_liesOn K S a x from (by unfold m_liesOn; rw [if_pos c1, if_neg c2])), rfl⟩
    · refine j_iconst (v := 1) M dX2_liesOn_15 (by decide) ?_
      refine j_goto (tgt := 20) M dX2_liesOn_16 (by decide) ?_
      exact j_zret (v := 1) M dX2_liesOn_20 (Nat.le_refl _) (Nat.le_refl _) rfl ⟨congrArg (fun z => some (Value.int z)) (show 1 = m_liesOn K S a x from (by unfold m_liesOn; rw [if_pos c1, if_pos c2])), rfl⟩
  · refine j_ifnonnull (tgt := 19) M dX2_liesOn_4 (by decide) ?_
    refine j_iconst (v := 0) M dX2_liesOn_19 (by decide) ?_
    exact j_zret (v := 0) M dX2_liesOn_20 (Nat.le_refl _) (Nat.le_refl _) rfl ⟨congrArg (fun z => some (Value.int z)) (show 0 = m_liesOn K S a x from (by unfold m_liesOn; rw [if_neg c1])), rfl⟩
def m_place (K : Nat → Nat) (S : PS) (a : Nat) : Int32 :=
  if sM S 22 a = none then
    sI S 21 a
  else
    m_plumb K S ((sM S 22 a).getD 0)
theorem cf_X2_place : CFv yX2_place RX2 cX2_place 1 (some .int) 0 := ⟨wC_X2_place, wI_X2_place, wV_X2_X2_place, wN_X2, by decide +kernel⟩
set_option maxHeartbeats 4000000 in
set_option maxRecDepth 100000 in
theorem c_place {l : Launch} {E : EV} {K : Nat → Nat} {S : PS} (hW : WS K S) (hA : AW S) (hM : WM S) {a : Nat} (haL : a ∈ sL S) (haK : sK S a = 2) : CT l yX2_place cX2_place 1 (some .int) 3 64 0 0 E [.ref a] S (pv (.int (m_place K S a)) S) := by
  refine CT.of (by decide) (Nat.le_of_ble_eq_true rfl) ?_
  intro p e s m below meth c M hin
  have M : MC E p s m _ meth c cX2_place RX2 1 (some .int) := M
  show J p l e _ s m _ below meth c _ E 1 0 [(0, .ref a)] [] S 0 0
  refine j_aload_n M dX2_place_0 rfl ?_
  refine j_get (v := va_rf (sM S 22 a)) M haL (pAt_2 E _ haK) rfl inU_X2 3 (by decide) wF_X2_7 (fun _ h => h) rfl dX2_place_1 ?_
  refine j_opt (fun c1 => ?_) (fun c1s c1 => ?_)
  · refine j_ifnonnullN M dX2_place_4 ?_
    refine j_aload_n M dX2_place_7 rfl ?_
    refine j_get (v := .int (sI S 21 a)) M haL (pAt_2 E _ haK) rfl inU_X2 2 (by decide) wF_X2_17 (fun _ h => h) rfl dX2_place_8 ?_
    refine j_goto (tgt := 21) M dX2_place_11 (by decide) ?_
    exact j_iret (v := (sI S 21 a)) M dX2_place_21 (Nat.le_refl _) (Nat.le_refl _) ⟨congrArg (fun z => some (Value.int z)) (show (sI S 21 a) = m_place K S a from (by unfold m_place; rw [if_pos c1])), rfl⟩
  · refine j_ifnonnull (tgt := 14) M dX2_place_4 (by decide) ?_
    refine j_aload_n M dX2_place_14 rfl ?_
    refine j_get (v := .ref ((sM S 22 a).getD 0)) M haL (pAt_2 E _ haK) rfl inU_X2 3 (by decide) wF_X2_7 (fun _ h => h) (rfv c1s) dX2_place_15 ?_
    refine j_callV1 (As := []) M cf_X0_plumb wM_X2_23 (c_plumb hW ((hM.ca haL haK c1s).1) ((hM.ca haL haK c1s).2)) ((hM.ca haL haK c1s).1) (pAt_0 E _ ((hM.ca haL haK c1s).2)) rfl rfl ⟨Nat.le_of_ble_eq_true rfl, Nat.le_of_ble_eq_true rfl⟩ (Nat.le_of_ble_eq_true rfl) ⟨Nat.zero_le _, Nat.zero_le _⟩ dX2_place_18 rfl ?_
    exact j_iret (v := (m_plumb K S ((sM S 22 a).getD 0))) M dX2_place_21 (Nat.le_refl _) (Nat.le_refl _) ⟨congrArg (fun z => some (Value.int z)) (show (m_plumb K S ((sM S 22 a).getD 0)) = m_place K S a from (by unfold m_place; rw [if_neg c1])), rfl⟩
def m_towerOn_lp (K : Nat → Nat) (S : PS) (x : Int32) : Nat → Nat → Int32
  | 0, j => (-1)
  | r + 1, j => if (sI S 2 (el S (K 13) j)) = x then
      nI j
    else
      m_towerOn_lp K S x r (j + 1)
def m_towerOn (K : Nat → Nat) (S : PS) (x : Int32) : Int32 :=
  m_towerOn_lp K S x (sZ S (K 13)) 0
theorem cf_X5_towerOn : CFv yX5_towerOn RX5 cX5_towerOn 3 (some .int) 1 := ⟨wC_X5_towerOn, wI_X5_towerOn, wV_X5_X5_towerOn, wN_X5, by decide +kernel⟩
set_option maxHeartbeats 4000000 in
set_option maxRecDepth 100000 in
theorem c_towerOn {l : Launch} {E : EV} {K : Nat → Nat} {S : PS} (hW : WS K S) (hA : AW S) (hM : WM S) (x : Int32) : CT l yX5_towerOn cX5_towerOn 3 (some .int) 3 64 0 0 E [.ref (K 1), .int x] S (pv (.int (m_towerOn K S x)) S) := by
  refine CT.of (by decide) (Nat.le_of_ble_eq_true rfl) ?_
  intro p e s m below meth c M hin
  have M : MC E p s m _ meth c cX5_towerOn RX5 3 (some .int) := M
  show J p l e _ s m _ below meth c _ E 3 0 [(0, .ref (K 1)), (1, .int x)] [] S 0 0
  refine j_iconst (v := 0) M dX5_towerOn_0 (by decide) ?_
  refine j_istore_n (lv' := [(2, .int 0), (0, .ref (K 1)), (1, .int x)]) M dX5_towerOn_1 rfl (by decide) rfl ?_
  have hz13 := hW.l13.2.1
  have lp : ∀ (r j : Nat), j + r = sZ S (K 13) → m_towerOn K S x = m_towerOn_lp K S x r j → J p l e { frames := 3, cells := 0, slots := 0, locals := 64 } s m ([.ref (K 1), .int x] : List Value).toArray below meth c (MQ below (QC E (pv (.int (m_towerOn K S x)) S)) ([.ref (K 1), .int x] : List Value).toArray s 0 0 (AE E)) E 3 2 [(0, .ref (K 1)), (1, .int x), (2, .int (nI j))] [] S 0 0 := by
    intro r
    induction r with
    | zero =>
      intro j hj hq
      refine j_iload_n M dX5_towerOn_2 rfl ?_
      refine j_aload_n M dX5_towerOn_3 rfl ?_
      refine j_get (v := .ref (K 13)) M hW.k1.1 (pAt_5 E _ hW.k1.2) rfl inU_X5 3 (by decide) wF_X5_21 (fun _ h => h) (rfv hW.r35) dX5_towerOn_4 ?_
      refine j_callV1 (As := []) (x := .int (nI (sZ S (K 13)))) M cf_size wM_X5_68 (c_size hW.l13) hW.l13.1.1 (pAt_8 E _ hW.l13.1.2) rfl rfl ⟨Nat.le_of_ble_eq_true rfl, Nat.le_of_ble_eq_true rfl⟩ (Nat.le_of_ble_eq_true rfl) ⟨Nat.zero_le _, Nat.zero_le _⟩ dX5_towerOn_7 rfl ?_
      refine j_icmp_ge (tgt := 39) M dX5_towerOn_10 (by decide) (fun _ => ?_) (fun z => absurd (nI_le (by omega) (by omega)) z)
      refine j_iconst (v := (-1)) M dX5_towerOn_39 (by decide) ?_
      exact j_iret (v := (-1)) M dX5_towerOn_40 (Nat.le_refl _) (Nat.le_refl _) ⟨congrArg (fun z => some (Value.int z)) (show (-1) = m_towerOn K S x from (hq.trans (by simp only [m_towerOn_lp])).symm), rfl⟩
    | succ r ih =>
      intro j hj hq
      refine j_iload_n M dX5_towerOn_2 rfl ?_
      refine j_aload_n M dX5_towerOn_3 rfl ?_
      refine j_get (v := .ref (K 13)) M hW.k1.1 (pAt_5 E _ hW.k1.2) rfl inU_X5 3 (by decide) wF_X5_21 (fun _ h => h) (rfv hW.r35) dX5_towerOn_4 ?_
      refine j_callV1 (As := []) (x := .int (nI (sZ S (K 13)))) M cf_size wM_X5_68 (c_size hW.l13) hW.l13.1.1 (pAt_8 E _ hW.l13.1.2) rfl rfl ⟨Nat.le_of_ble_eq_true rfl, Nat.le_of_ble_eq_true rfl⟩ (Nat.le_of_ble_eq_true rfl) ⟨Nat.zero_le _, Nat.zero_le _⟩ dX5_towerOn_7 rfl ?_
      refine j_icmp_ge (tgt := 39) M dX5_towerOn_10 (by decide) (fun z => absurd z (nI_ge (by omega) (by omega))) (fun _ => ?_)
      refine j_aload_n M dX5_towerOn_13 rfl ?_
      refine j_get (v := .ref (K 13)) M hW.k1.1 (pAt_5 E _ hW.k1.2) rfl inU_X5 3 (by decide) wF_X5_21 (fun _ h => h) (rfv hW.r35) dX5_towerOn_14 ?_
      refine j_iload_n M dX5_towerOn_17 rfl ?_
      refine j_callV1 (As := [.int (nI j)]) (x := .ref (el S (K 13) j)) M cf_get wM_X5_72 (c_get hW.l13 (by decide) (show j < sZ S (K 13) by omega)) hW.l13.1.1 (pAt_8 E _ hW.l13.1.2) rfl rfl ⟨Nat.le_of_ble_eq_true rfl, Nat.le_of_ble_eq_true rfl⟩ (Nat.le_of_ble_eq_true rfl) ⟨Nat.zero_le _, Nat.zero_le _⟩ dX5_towerOn_18 rfl ?_
      refine j_cast M ((LSt.el hW.l13 (show j < sZ S (K 13) by omega)).1) (pAt_0 E _ ((LSt.el hW.l13 (show j < sZ S (K 13) by omega)).2)) rfl wL_X5_50 dX5_towerOn_21 ?_
      refine j_getN (v := .int (sI S 2 (el S (K 13) j))) M ((LSt.el hW.l13 (show j < sZ S (K 13) by omega)).1) (pAt_0 E _ ((LSt.el hW.l13 (show j < sZ S (K 13) by omega)).2)) rfl inU_X0 2 (by decide) nF_X5_107 (fun _ h => h) rfl dX5_towerOn_24 ?_
      refine j_iload_n M dX5_towerOn_27 rfl ?_
      refine j_icmp_ne (tgt := 33) M dX5_towerOn_28 (by decide) (fun c1 => ?_) (fun c1 => ?_)
      · refine j_iinc (v := (nI (j + 1))) (lv' := [(2, .int (nI (j + 1))), (0, .ref (K 1)), (1, .int x)]) M dX5_towerOn_33 rfl (nI_1 _) (by decide) rfl ?_
        refine j_goto (tgt := 2) M dX5_towerOn_36 (by decide) ?_
        refine j_pick [1, 2, 0] rfl ?_
        exact ih (j + 1) (by omega) (hq.trans (by simp only [m_towerOn_lp, if_neg c1]))
      · refine j_iload_n M dX5_towerOn_31 rfl ?_
        exact j_iret (v := (nI j)) M dX5_towerOn_32 (Nat.le_refl _) (Nat.le_refl _) ⟨congrArg (fun z => some (Value.int z)) (show (nI j) = m_towerOn K S x from (hq.trans (by simp only [m_towerOn_lp, if_pos c1])).symm), rfl⟩
  refine j_pick (lv' := [(0, .ref (K 1)), (1, .int x), (2, .int (nI 0))]) [1, 2, 0] rfl ?_
  exact lp (sZ S (K 13)) 0 (by omega) (by unfold m_towerOn; rfl)
def m_loadsOn_lp (K : Nat → Nat) (S : PS) (x : Int32) : Nat → Nat → Int32 → Int32
  | 0, j, n => n
  | r + 1, j, n => if (m_liesOn K S (el S (K 14) j) x) = 0 then
      m_loadsOn_lp K S x r (j + 1) n
    else
      m_loadsOn_lp K S x r (j + 1) (n + 1)
def m_loadsOn (K : Nat → Nat) (S : PS) (x : Int32) : Int32 :=
  m_loadsOn_lp K S x (sZ S (K 14)) 0 0
theorem cf_X5_loadsOn : CFv yX5_loadsOn RX5 cX5_loadsOn 4 (some .int) 1 := ⟨wC_X5_loadsOn, wI_X5_loadsOn, wV_X5_X5_loadsOn, wN_X5, by decide +kernel⟩
set_option maxHeartbeats 4000000 in
set_option maxRecDepth 100000 in
theorem c_loadsOn {l : Launch} {E : EV} {K : Nat → Nat} {S : PS} (hW : WS K S) (hA : AW S) (hM : WM S) (x : Int32) : CT l yX5_loadsOn cX5_loadsOn 4 (some .int) 3 64 0 0 E [.ref (K 1), .int x] S (pv (.int (m_loadsOn K S x)) S) := by
  refine CT.of (by decide) (Nat.le_of_ble_eq_true rfl) ?_
  intro p e s m below meth c M hin
  have M : MC E p s m _ meth c cX5_loadsOn RX5 4 (some .int) := M
  show J p l e _ s m _ below meth c _ E 4 0 [(0, .ref (K 1)), (1, .int x)] [] S 0 0
  refine j_iconst (v := 0) M dX5_loadsOn_0 (by decide) ?_
  refine j_istore_n (lv' := [(2, .int 0), (0, .ref (K 1)), (1, .int x)]) M dX5_loadsOn_1 rfl (by decide) rfl ?_
  refine j_iconst (v := 0) M dX5_loadsOn_2 (by decide) ?_
  refine j_istore_n (lv' := [(3, .int 0), (2, .int 0), (0, .ref (K 1)), (1, .int x)]) M dX5_loadsOn_3 rfl (by decide) rfl ?_
  have hz14 := hW.l14.2.1
  have lp : ∀ (r j : Nat) (n : Int32), j + r = sZ S (K 14) → m_loadsOn K S x = m_loadsOn_lp K S x r j n → J p l e { frames := 3, cells := 0, slots := 0, locals := 64 } s m ([.ref (K 1), .int x] : List Value).toArray below meth c (MQ below (QC E (pv (.int (m_loadsOn K S x)) S)) ([.ref (K 1), .int x] : List Value).toArray s 0 0 (AE E)) E 4 4 [(0, .ref (K 1)), (1, .int x), (2, .int n), (3, .int (nI j))] [] S 0 0 := by
    intro r
    induction r with
    | zero =>
      intro j n hj hq
      refine j_iload_n M dX5_loadsOn_4 rfl ?_
      refine j_aload_n M dX5_loadsOn_5 rfl ?_
      refine j_get (v := .ref (K 14)) M hW.k1.1 (pAt_5 E _ hW.k1.2) rfl inU_X5 4 (by decide) wF_X5_24 (fun _ h => h) (rfv hW.r36) dX5_loadsOn_6 ?_
      refine j_callV1 (As := []) (x := .int (nI (sZ S (K 14)))) M cf_size wM_X5_68 (c_size hW.l14) hW.l14.1.1 (pAt_8 E _ hW.l14.1.2) rfl rfl ⟨Nat.le_of_ble_eq_true rfl, Nat.le_of_ble_eq_true rfl⟩ (Nat.le_of_ble_eq_true rfl) ⟨Nat.zero_le _, Nat.zero_le _⟩ dX5_loadsOn_9 rfl ?_
      refine j_icmp_ge (tgt := 42) M dX5_loadsOn_12 (by decide) (fun _ => ?_) (fun z => absurd (nI_le (by omega) (by omega)) z)
      refine j_iload_n M dX5_loadsOn_42 rfl ?_
      exact j_iret (v := n) M dX5_loadsOn_43 (Nat.le_refl _) (Nat.le_refl _) ⟨congrArg (fun z => some (Value.int z)) (show n = m_loadsOn K S x from (hq.trans (by simp only [m_loadsOn_lp])).symm), rfl⟩
    | succ r ih =>
      intro j n hj hq
      refine j_iload_n M dX5_loadsOn_4 rfl ?_
      refine j_aload_n M dX5_loadsOn_5 rfl ?_
      refine j_get (v := .ref (K 14)) M hW.k1.1 (pAt_5 E _ hW.k1.2) rfl inU_X5 4 (by decide) wF_X5_24 (fun _ h => h) (rfv hW.r36) dX5_loadsOn_6 ?_
      refine j_callV1 (As := []) (x := .int (nI (sZ S (K 14)))) M cf_size wM_X5_68 (c_size hW.l14) hW.l14.1.1 (pAt_8 E _ hW.l14.1.2) rfl rfl ⟨Nat.le_of_ble_eq_true rfl, Nat.le_of_ble_eq_true rfl⟩ (Nat.le_of_ble_eq_true rfl) ⟨Nat.zero_le _, Nat.zero_le _⟩ dX5_loadsOn_9 rfl ?_
      refine j_icmp_ge (tgt := 42) M dX5_loadsOn_12 (by decide) (fun z => absurd z (nI_ge (by omega) (by omega))) (fun _ => ?_)
      refine j_aload_n M dX5_loadsOn_15 rfl ?_
      refine j_get (v := .ref (K 14)) M hW.k1.1 (pAt_5 E _ hW.k1.2) rfl inU_X5 4 (by decide) wF_X5_24 (fun _ h => h) (rfv hW.r36) dX5_loadsOn_16 ?_
      refine j_iload_n M dX5_loadsOn_19 rfl ?_
      refine j_callV1 (As := [.int (nI j)]) (x := .ref (el S (K 14) j)) M cf_get wM_X5_72 (c_get hW.l14 (by decide) (show j < sZ S (K 14) by omega)) hW.l14.1.1 (pAt_8 E _ hW.l14.1.2) rfl rfl ⟨Nat.le_of_ble_eq_true rfl, Nat.le_of_ble_eq_true rfl⟩ (Nat.le_of_ble_eq_true rfl) ⟨Nat.zero_le _, Nat.zero_le _⟩ dX5_loadsOn_20 rfl ?_
      refine j_cast M ((LSt.el hW.l14 (show j < sZ S (K 14) by omega)).1) (pAt_2 E _ ((LSt.el hW.l14 (show j < sZ S (K 14) by omega)).2)) rfl wL_X5_110 dX5_loadsOn_23 ?_
      refine j_iload_n M dX5_loadsOn_26 rfl ?_
      refine j_callV1 (As := [.int x]) M cf_X2_liesOn wM_X5_112 (c_liesOn hW hA hM ((LSt.el hW.l14 (show j < sZ S (K 14) by omega)).1) ((LSt.el hW.l14 (show j < sZ S (K 14) by omega)).2) x) ((LSt.el hW.l14 (show j < sZ S (K 14) by omega)).1) (pAt_2 E _ ((LSt.el hW.l14 (show j < sZ S (K 14) by omega)).2)) rfl rfl ⟨Nat.le_of_ble_eq_true rfl, Nat.le_of_ble_eq_true rfl⟩ (Nat.le_of_ble_eq_true rfl) ⟨Nat.zero_le _, Nat.zero_le _⟩ dX5_loadsOn_27 rfl ?_
      refine j_if_eq (tgt := 36) M dX5_loadsOn_30 (by decide) (fun c1 => ?_) (fun c1 => ?_)
      · refine j_iinc (v := (nI (j + 1))) (lv' := [(3, .int (nI (j + 1))), (0, .ref (K 1)), (1, .int x), (2, .int n)]) M dX5_loadsOn_36 rfl (nI_1 _) (by decide) rfl ?_
        refine j_goto (tgt := 4) M dX5_loadsOn_39 (by decide) ?_
        refine j_pick [1, 2, 3, 0] rfl ?_
        exact ih (j + 1) n (by omega) (hq.trans (by simp only [m_loadsOn_lp, if_pos c1]))
      · refine j_iinc (v := (n + 1)) (lv' := [(2, .int (n + 1)), (0, .ref (K 1)), (1, .int x), (3, .int (nI j))]) M dX5_loadsOn_33 rfl rfl (by decide) rfl ?_
        refine j_iinc (v := (nI (j + 1))) (lv' := [(3, .int (nI (j + 1))), (2, .int (n + 1)), (0, .ref (K 1)), (1, .int x)]) M dX5_loadsOn_36 rfl (nI_1 _) (by decide) rfl ?_
        refine j_goto (tgt := 4) M dX5_loadsOn_39 (by decide) ?_
        refine j_pick [2, 3, 1, 0] rfl ?_
        exact ih (j + 1) (n + 1) (by omega) (hq.trans (by simp only [m_loadsOn_lp, if_neg c1]))
  refine j_pick (lv' := [(0, .ref (K 1)), (1, .int x), (2, .int 0), (3, .int (nI 0))]) [2, 3, 1, 0] rfl ?_
  exact lp (sZ S (K 14)) 0 0 (by omega) (by unfold m_loadsOn; rfl)
