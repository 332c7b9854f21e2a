def m_liesOn (K : Nat → Nat) (S : PS) (a : Nat) (x : Int32) : Int32 :=
  if sM S 22 a = none then
    if (sI S 21 a) = x then
      1
    else
      0
  else
    0
theorem cf_X2_liesOn : CFv yX2_liesOn RX2 cX2_liesOn 2 (some .boolean) 1 := ⟨wC_X2_liesOn, wI_X2_liesOn, wV_X2_X2_liesOn, wN_X2, by decide +kernel⟩
set_option maxHeartbeats 4000000 in
set_option maxRecDepth 100000 in
theorem c_liesOn {l : Launch} {E : EV} {K : Nat → Nat} {S : PS} (hW : WS K S) (hA : AW S) (hM : WM S) {a : Nat} (haL : a ∈ sL S) (haK : sK S a = 2) (x : Int32) : CT l yX2_liesOn cX2_liesOn 2 (some .boolean) 0 0 0 0 E [.ref a, .int x] S (pv (.int (m_liesOn K S a x)) S) := by
  refine CT.of (by decide) (Nat.le_of_ble_eq_true rfl) ?_
  intro p e s m below meth c M hin
  have M : MC E p s m _ meth c cX2_liesOn RX2 2 (some .boolean) := M
  show J p l e _ s m _ below meth c _ E 2 0 [(0, .ref a), (1, .int x)] [] S 0 0
  refine j_aload_n M dX2_liesOn_0 rfl ?_
  refine j_get (v := va_rf (sM S 22 a)) M haL (pAt_2 E _ haK) rfl inU_X2 3 (by decide) wF_X2_7 (fun _ h => h) rfl dX2_liesOn_1 ?_
  refine j_opt (fun c1 => ?_) (fun c1s c1 => ?_)
  · refine j_ifnonnullN M dX2_liesOn_4 ?_
    refine j_aload_n M dX2_liesOn_7 rfl ?_
    refine j_get (v := .int (sI S 21 a)) M haL (pAt_2 E _ haK) rfl inU_X2 2 (by decide) wF_X2_17 (fun _ h => h) rfl dX2_liesOn_8 ?_
    refine j_iload_n M dX2_liesOn_11 rfl ?_
    refine j_icmp_ne (tgt := 19) M dX2_liesOn_12 (by decide) (fun c2 => ?_) (fun c2 => ?_)
    · refine j_iconst (v := 0) M dX2_liesOn_19 (by decide) ?_
      exact j_zret (v := 0) M dX2_liesOn_20 (Nat.le_refl _) (Nat.le_refl _) rfl ⟨congrArg (fun z => some (Value.int z)) (show 0 = m_liesOn K S a x from (by unfold m_liesOn; rw [if_pos c1, if_neg c2])), rfl⟩
    · refine j_iconst (v := 1) M dX2_liesOn_15 (by decide) ?_
      refine j_goto (tgt := 20) M dX2_liesOn_16 (by decide) ?_
      exact j_zret (v := 1) M dX2_liesOn_20 (Nat.le_refl _) (Nat.le_refl _) rfl ⟨congrArg (fun z => some (Value.int z)) (show 1 = m_liesOn K S a x from (by unfold m_liesOn; rw [if_pos c1, if_pos c2])), rfl⟩
  · refine j_ifnonnull (tgt := 19) M dX2_liesOn_4 (by decide) ?_
    refine j_iconst (v := 0) M dX2_liesOn_19 (by decide) ?_
    exact j_zret (v := 0) M dX2_liesOn_20 (Nat.le_refl _) (Nat.le_refl _) rfl ⟨congrArg (fun z => some (Value.int z)) (show 0 = m_liesOn K S a x from (by unfold m_liesOn; rw [if_neg c1])), rfl⟩
def m_place (K : Nat → Nat) (S : PS) (a : Nat) : Int32 :=
  if sM S 22 a = none then
    sI S 21 a
  else
    m_plumb K S ((sM S 22 a).getD 0)
theorem cf_X2_place : CFv yX2_place RX2 cX2_place 1 (some .int) 0 := ⟨wC_X2_place, wI_X2_place, wV_X2_X2_place, wN_X2, by decide +kernel⟩
set_option maxHeartbeats 4000000 in
set_option maxRecDepth 100000 in
theorem c_place {l : Launch} {E : EV} {K : Nat → Nat} {S : PS} (hW : WS K S) (hA : AW S) (hM : WM S) {a : Nat} (haL : a ∈ sL S) (haK : sK S a = 2) : CT l yX2_place cX2_place 1 (some .int) 3 64 0 0 E [.ref a] S (pv (.int (m_place K S a)) S) := by
  refine CT.of (by decide) (Nat.le_of_ble_eq_true rfl) ?_
  intro p e s m below meth c M hin
  have M : MC E p s m _ meth c cX2_place RX2 1 (some .int) := M
  show J p l e _ s m _ below meth c _ E 1 0 [(0, .ref a)] [] S 0 0
  refine j_aload_n M dX2_place_0 rfl ?_
  refine j_get (v := va_rf (sM S 22 a)) M haL (pAt_2 E _ haK) rfl inU_X2 3 (by decide) wF_X2_7 (fun _ h => h) rfl dX2_place_1 ?_
  refine j_opt (fun c1 => ?_) (fun c1s c1 => ?_)
  · refine j_ifnonnullN M dX2_place_4 ?_
    refine j_aload_n M dX2_place_7 rfl ?_
    refine j_get (v := .int (sI S 21 a)) M haL (pAt_2 E _ haK) rfl inU_X2 2 (by decide) wF_X2_17 (fun _ h => h) rfl dX2_place_8 ?_
    refine j_goto (tgt := 21) M dX2_place_11 (by decide) ?_
    exact j_iret (v := (sI S 21 a)) M dX2_place_21 (Nat.le_refl _) (Nat.le_refl _) ⟨congrArg (fun z => some (Value.int z)) (show (sI S 21 a) = m_place K S a from (by unfold m_place; rw [if_pos c1])), rfl⟩
  · refine j_ifnonnull (tgt := 14) M dX2_place_4 (by decide) ?_
    refine j_aload_n M dX2_place_14 rfl ?_
    refine j_get (v := .ref ((sM S 22 a).getD 0)) M haL (pAt_2 E _ haK) rfl inU_X2 3 (by decide) wF_X2_7 (fun _ h => h) (rfv c1s) dX2_place_15 ?_
    refine j_callV1 (As := []) M cf_X0_plumb wM_X2_23 (c_plumb hW ((hM.ca haL haK c1s).1) ((hM.ca haL haK c1s).2)) ((hM.ca haL haK c1s).1) (pAt_0 E _ ((hM.ca haL haK c1s).2)) rfl rfl ⟨Nat.le_of_ble_eq_true rfl, Nat.le_of_ble_eq_true rfl⟩ (Nat.le_of_ble_eq_true rfl) ⟨Nat.zero_le _, Nat.zero_le _⟩ dX2_place_18 rfl ?_
    exact j_iret (v := (m_plumb K S ((sM S 22 a).getD 0))) M dX2_place_21 (Nat.le_refl _) (Nat.le_refl _) ⟨congrArg (fun z => some (Value.int z)) (show (m_plumb K S ((sM S 22 a).getD 0)) = m_place K S a from (by unfold m_place; rw [if_neg c1])), rfl⟩
def m_towerOn_lp (K : Nat → Nat) (S : PS) (x : Int32) : Nat → Nat → Int32
  | 0, j => (-1)
  | r + 1, j => if (sI S 2 (el S (K 13) j)) = x then
      nI j
    else
      m_towerOn_lp K S x r (j + 1)
def m_towerOn (K : Nat → Nat) (S : PS) (x : Int32) : Int32 :=
  m_towerOn_lp K S x (sZ S (K 13)) 0
theorem cf_X5_towerOn : CFv yX5_towerOn RX5 cX5_towerOn 3 (some .int) 1 := ⟨wC_X5_towerOn, wI_X5_towerOn, wV_X5_X5_towerOn, wN_X5, by decide +kernel⟩
set_option maxHeartbeats 4000000 in
set_option maxRecDepth 100000 in
theorem c_towerOn {l : Launch} {E : EV} {K : Nat → Nat} {S : PS} (hW : WS K S) (hA : AW S) (hM : WM S) (x : Int32) : CT l yX5_towerOn cX5_towerOn 3 (some .int) 3 64 0 0 E [.ref (K 1), .int x] S (pv (.int (m_towerOn K S x)) S) := by
  refine CT.of (by decide) (Nat.le_of_ble_eq_true rfl) ?_
  intro p e s m below meth c M hin
  have M : MC E p s m _ meth c cX5_towerOn RX5 3 (some .int) := M
  show J p l e _ s m _ below meth c _ E 3 0 [(0, .ref (K 1)), (1, .int x)] [] S 0 0
  refine j_iconst (v := 0) M dX5_towerOn_0 (by decide) ?_
  refine j_istore_n (lv' := [(2, .int 0), (0, .ref (K 1)), (1, .int x)]) M dX5_towerOn_1 rfl (by decide) rfl ?_
  have hz13 := hW.l13.2.1
  have lp : ∀ (r j : Nat), j + r = sZ S (K 13) → m_towerOn K S x = m_towerOn_lp K S x r j → J p l e { frames := 3, cells := 0, slots := 0, locals := 64 } s m ([.ref (K 1), .int x] : List Value).toArray below meth c (MQ below (QC E (pv (.int (m_towerOn K S x)) S)) ([.ref (K 1), .int x] : List Value).toArray s 0 0 (AE E)) E 3 2 [(0, .ref (K 1)), (1, .int x), (2, .int (nI j))] [] S 0 0 := by
    intro r
    induction r with
    | zero =>
      intro j hj hq
      refine j_iload_n M dX5_towerOn_2 rfl ?_
      refine j_aload_n M dX5_towerOn_3 rfl ?_
      refine j_get (v := .ref (K 13)) M hW.k1.1 (pAt_5 E _ hW.k1.2) rfl inU_X5 3 (by decide) wF_X5_21 (fun _ h => h) (rfv hW.r35) dX5_towerOn_4 ?_
      refine j_callV1 (As := []) (x := .int (nI (sZ S (K 13)))) M cf_size wM_X5_68 (c_size hW.l13) hW.l13.1.1 (pAt_8 E _ hW.l13.1.2) rfl rfl ⟨Nat.le_of_ble_eq_true rfl, Nat.le_of_ble_eq_true rfl⟩ (Nat.le_of_ble_eq_true rfl) ⟨Nat.zero_le _, Nat.zero_le _⟩ dX5_towerOn_7 rfl ?_
      refine j_icmp_ge (tgt := 39) M dX5_towerOn_10 (by decide) (fun _ => ?_) (fun z => absurd (nI_le (by omega) (by omega)) z)
      refine j_iconst (v := (-1)) M dX5_towerOn_39 (by decide) ?_
      exact j_iret (v := (-1)) M dX5_towerOn_40 (Nat.le_refl _) (Nat.le_refl _) ⟨congrArg (fun z => some (Value.int z)) (show (-1) = m_towerOn K S x from (hq.trans (by simp only [m_towerOn_lp])).symm), rfl⟩
    | succ r ih =>
      intro j hj hq
      refine j_iload_n M dX5_towerOn_2 rfl ?_
      refine j_aload_n M dX5_towerOn_3 rfl ?_
      refine j_get (v := .ref (K 13)) M hW.k1.1 (pAt_5 E _ hW.k1.2) rfl inU_X5 3 (by decide) wF_X5_21 (fun _ h => h) (rfv hW.r35) dX5_towerOn_4 ?_
      refine j_callV1 (As := []) (x := .int (nI (sZ S (K 13)))) M cf_size wM_X5_68 (c_size hW.l13) hW.l13.1.1 (pAt_8 E _ hW.l13.1.2) rfl rfl ⟨Nat.le_of_ble_eq_true rfl, Nat.le_of_ble_eq_true rfl⟩ (Nat.le_of_ble_eq_true rfl) ⟨Nat.zero_le _, Nat.zero_le _⟩ dX5_towerOn_7 rfl ?_
      refine j_icmp_ge (tgt := 39) M dX5_towerOn_10 (by decide) (fun z => absurd z (nI_ge (by omega) (by omega))) (fun _ => ?_)
      refine j_aload_n M dX5_towerOn_13 rfl ?_
      refine j_get (v := .ref (K 13)) M hW.k1.1 (pAt_5 E _ hW.k1.2) rfl inU_X5 3 (by decide) wF_X5_21 (fun _ h => h) (rfv hW.r35) dX5_towerOn_14 ?_
      refine j_iload_n M dX5_towerOn_17 rfl ?_
      refine j_callV1 (As := [.int (nI j)]) (x := .ref (el S (K 13) j)) M cf_get wM_X5_72 (c_get hW.l13 (by decide) (show j < sZ S (K 13) by omega)) hW.l13.1.1 (pAt_8 E _ hW.l13.1.2) rfl rfl ⟨Nat.le_of_ble_eq_true rfl, Nat.le_of_ble_eq_true rfl⟩ (Nat.le_of_ble_eq_true rfl) ⟨Nat.zero_le _, Nat.zero_le _⟩ dX5_towerOn_18 rfl ?_
      refine j_cast M ((LSt.el hW.l13 (show j < sZ S (K 13) by omega)).1) (pAt_0 E _ ((LSt.el hW.l13 (show j < sZ S (K 13) by omega)).2)) rfl wL_X5_50 dX5_towerOn_21 ?_
      refine j_getN (v := .int (sI S 2 (el S (K 13) j))) M ((LSt.el hW.l13 (show j < sZ S (K 13) by omega)).1) (pAt_0 E _ ((LSt.el hW.l13 (show j < sZ S (K 13) by omega)).2)) rfl inU_X0 2 (by decide) nF_X5_107 (fun _ h => h) rfl dX5_towerOn_24 ?_
      refine j_iload_n M dX5_towerOn_27 rfl ?_
      refine j_icmp_ne (tgt := 33) M dX5_towerOn_28 (by decide) (fun c1 => ?_) (fun c1 => ?_)
      · refine j_iinc (v := (nI (j + 1))) (lv' := [(2, .int (nI (j + 1))), (0, .ref (K 1)), (1, .int x)]) M dX5_towerOn_33 rfl (nI_1 _) (by decide) rfl ?_
        refine j_goto (tgt := 2) M dX5_towerOn_36 (by decide) ?_
        refine j_pick [1, 2, 0] rfl ?_
        exact ih (j + 1) (by omega) (hq.trans (by simp only [m_towerOn_lp, if_neg c1]))
      · refine j_iload_n M dX5_towerOn_31 rfl ?_
        exact j_iret (v := (nI j)) M dX5_towerOn_32 (Nat.le_refl _) (Nat.le_refl _) ⟨congrArg (fun z => some (Value.int z)) (show (nI j) = m_towerOn K S x from (hq.trans (by simp only [m_towerOn_lp, if_pos c1])).symm), rfl⟩
  refine j_pick (lv' := [(0, .ref (K 1)), (1, .int x), (2, .int (nI 0))]) [1, 2, 0] rfl ?_
  exact lp (sZ S (K 13)) 0 (by omega) (by unfold m_towerOn; rfl)
def m_loadsOn_lp (K : Nat → Nat) (S : PS) (x : Int32) : Nat → Nat → Int32 → Int32
  | 0, j, n => n
  | r + 1, j, n => if (m_liesOn K S (el S (K 14) j) x) = 0 then
      m_loadsOn_lp K S x r (j + 1) n
    else
      m_loadsOn_lp K S x r (j + 1) (n + 1)
def m_loadsOn (K : Nat → Nat) (S : PS) (x : Int32) : Int32 :=
  m_loadsOn_lp K S x (sZ S (K 14)) 0 0
theorem cf_X5_loadsOn : CFv yX5_loadsOn RX5 cX5_loadsOn 4 (some .int) 1 := ⟨wC_X5_loadsOn, wI_X5_loadsOn, wV_X5_X5_loadsOn, wN_X5, by decide +kernel⟩
set_option maxHeartbeats 4000000 in
set_option maxRecDepth 100000 in
theorem c_loadsOn {l : Launch} {E : EV} {K : Nat → Nat} {S : PS} (hW : WS K S) (hA : AW S) (hM : WM S) (x : Int32) : CT l yX5_loadsOn cX5_loadsOn 4 (some .int) 3 64 0 0 E [.ref (K 1), .int x] S (pv (.int (m_loadsOn K S x)) S) := by
  refine CT.of (by decide) (Nat.le_of_ble_eq_true rfl) ?_
  intro p e s m below meth c M hin
  have M : MC E p s m _ meth c cX5_loadsOn RX5 4 (some .int) := M
  show J p l e _ s m _ below meth c _ E 4 0 [(0, .ref (K 1)), (1, .int x)] [] S 0 0
  refine j_iconst (v := 0) M dX5_loadsOn_0 (by decide) ?_
  refine j_istore_n (lv' := [(2, .int 0), (0, .ref (K 1)), (1, .int x)]) M dX5_loadsOn_1 rfl (by decide) rfl ?_
  refine j_iconst (v := 0) M dX5_loadsOn_2 (by decide) ?_
  refine j_istore_n (lv' := [(3, .int 0), (2, .int 0), (0, .ref (K 1)), (1, .int x)]) M dX5_loadsOn_3 rfl (by decide) rfl ?_
  have hz14 := hW.l14.2.1
  have lp : ∀ (r j : Nat) (n : Int32), j + r = sZ S (K 14) → m_loadsOn K S x = m_loadsOn_lp K S x r j n → J p l e { frames := 3, cells := 0, slots := 0, locals := 64 } s m ([.ref (K 1), .int x] : List Value).toArray below meth c (MQ below (QC E (pv (.int (m_loadsOn K S x)) S)) ([.ref (K 1), .int x] : List Value).toArray s 0 0 (AE E)) E 4 4 [(0, .ref (K 1)), (1, .int x), (2, .int n), (3, .int (nI j))] [] S 0 0 := by
    intro r
    induction r with
    | zero =>
      intro j n hj hq
      refine j_iload_n M dX5_loadsOn_4 rfl ?_
      refine j_aload_n M dX5_loadsOn_5 rfl ?_
      refine j_get (v := .ref (K 14)) M hW.k1.1 (pAt_5 E _ hW.k1.2) rfl inU_X5 4 (by decide) wF_X5_24 (fun _ h => h) (rfv hW.r36) dX5_loadsOn_6 ?_
      refine j_callV1 (As := []) (x := .int (nI (sZ S (K 14)))) M cf_size wM_X5_68 (c_size hW.l14) hW.l14.1.1 (pAt_8 E _ hW.l14.1.2) rfl rfl ⟨Nat.le_of_ble_eq_true rfl, Nat.le_of_ble_eq_true rfl⟩ (Nat.le_of_ble_eq_true rfl) ⟨Nat.zero_le _, Nat.zero_le _⟩ dX5_loadsOn_9 rfl ?_
      refine j_icmp_ge (tgt := 42) M dX5_loadsOn_12 (by decide) (fun _ => ?_) (fun z => absurd (nI_le (by omega) (by omega)) z)
      refine j_iload_n M dX5_loadsOn_42 rfl ?_
      exact j_iret (v := n) M dX5_loadsOn_43 (Nat.le_refl _) (Nat.le_refl _) ⟨congrArg (fun z => some (Value.int z)) (show n = m_loadsOn K S x from (hq.trans (by simp only [m_loadsOn_lp])).symm), rfl⟩
    | succ r ih =>
      intro j n hj hq
      refine j_iload_n M dX5_loadsOn_4 rfl ?_
      refine j_aload_n M dX5_loadsOn_5 rfl ?_
      refine j_get (v := .ref (K 14)) M hW.k1.1 (pAt_5 E _ hW.k1.2) rfl inU_X5 4 (by decide) wF_X5_24 (fun _ h => h) (rfv hW.r36) dX5_loadsOn_6 ?_
      refine j_callV1 (As := []) (x := .int (nI (sZ S (K 14)))) M cf_size wM_X5_68 (c_size hW.l14) hW.l14.1.1 (pAt_8 E _ hW.l14.1.2) rfl rfl ⟨Nat.le_of_ble_eq_true rfl, Nat.le_of_ble_eq_true rfl⟩ (Nat.le_of_ble_eq_true rfl) ⟨Nat.zero_le _, Nat.zero_le _⟩ dX5_loadsOn_9 rfl ?_
      refine j_icmp_ge (tgt := 42) M dX5_loadsOn_12 (by decide) (fun z => absurd z (nI_ge (by omega) (by omega))) (fun _ => ?_)
      refine j_aload_n M dX5_loadsOn_15 rfl ?_
      refine j_get (v := .ref (K 14)) M hW.k1.1 (pAt_5 E _ hW.k1.2) rfl inU_X5 4 (by decide) wF_X5_24 (fun _ h => h) (rfv hW.r36) dX5_loadsOn_16 ?_
      refine j_iload_n M dX5_loadsOn_19 rfl ?_
      refine j_callV1 (As := [.int (nI j)]) (x := .ref (el S (K 14) j)) M cf_get wM_X5_72 (c_get hW.l14 (by decide) (show j < sZ S (K 14) by omega)) hW.l14.1.1 (pAt_8 E _ hW.l14.1.2) rfl rfl ⟨Nat.le_of_ble_eq_true rfl, Nat.le_of_ble_eq_true rfl⟩ (Nat.le_of_ble_eq_true rfl) ⟨Nat.zero_le _, Nat.zero_le _⟩ dX5_loadsOn_20 rfl ?_
      refine j_cast M ((LSt.el hW.l14 (show j < sZ S (K 14) by omega)).1) (pAt_2 E _ ((LSt.el hW.l14 (show j < sZ S (K 14) by omega)).2)) rfl wL_X5_110 dX5_loadsOn_23 ?_
      refine j_iload_n M dX5_loadsOn_26 rfl ?_
      refine j_callV1 (As := [.int x]) M cf_X2_liesOn wM_X5_112 (c_liesOn hW hA hM ((LSt.el hW.l14 (show j < sZ S (K 14) by omega)).1) ((LSt.el hW.l14 (show j < sZ S (K 14) by omega)).2) x) ((LSt.el hW.l14 (show j < sZ S (K 14) by omega)).1) (pAt_2 E _ ((LSt.el hW.l14 (show j < sZ S (K 14) by omega)).2)) rfl rfl ⟨Nat.le_of_ble_eq_true rfl, Nat.le_of_ble_eq_true rfl⟩ (Nat.le_of_ble_eq_true rfl) ⟨Nat.zero_le _, Nat.zero_le _⟩ dX5_loadsOn_27 rfl ?_
      refine j_if_eq (tgt := 36) M dX5_loadsOn_30 (by decide) (fun c1 => ?_) (fun c1 => ?_)
      · refine j_iinc (v := (nI (j + 1))) (lv' := [(3, .int (nI (j + 1))), (0, .ref (K 1)), (1, .int x), (2, .int n)]) M dX5_loadsOn_36 rfl (nI_1 _) (by decide) rfl ?_
        refine j_goto (tgt := 4) M dX5_loadsOn_39 (by decide) ?_
        refine j_pick [1, 2, 3, 0] rfl ?_
        exact ih (j + 1) n (by omega) (hq.trans (by simp only [m_loadsOn_lp, if_pos c1]))
      · refine j_iinc (v := (n + 1)) (lv' := [(2, .int (n + 1)), (0, .ref (K 1)), (1, .int x), (3, .int (nI j))]) M dX5_loadsOn_33 rfl rfl (by decide) rfl ?_
        refine j_iinc (v := (nI (j + 1))) (lv' := [(3, .int (nI (j + 1))), (2, .int (n + 1)), (0, .ref (K 1)), (1, .int x)]) M dX5_loadsOn_36 rfl (nI_1 _) (by decide) rfl ?_
        refine j_goto (tgt := 4) M dX5_loadsOn_39 (by decide) ?_
        refine j_pick [2, 3, 1, 0] rfl ?_
        exact ih (j + 1) (n + 1) (by omega) (hq.trans (by simp only [m_loadsOn_lp, if_neg c1]))
  refine j_pick (lv' := [(0, .ref (K 1)), (1, .int x), (2, .int 0), (3, .int (nI 0))]) [2, 3, 1, 0] rfl ?_
  exact lp (sZ S (K 14)) 0 0 (by omega) (by unfold m_loadsOn; rfl)
def m_firstLoadOn_lp (K : Nat → Nat) (S : PS) (x : Int32) : Nat → Nat → Option Nat
  | 0, j => none
  | r + 1, j => if (m_liesOn K S (el S (K 14) j) x) = 0 then
      m_firstLoadOn_lp K S x r (j + 1)
    else
      some (el S (K 14) j)
def m_firstLoadOn (K : Nat → Nat) (S : PS) (x : Int32) : Option Nat :=
  m_firstLoadOn_lp K S x (sZ S (K 14)) 0
theorem cf_X5_firstLoadOn : CFv yX5_firstLoadOn RX5 cX5_firstLoadOn 4 (some (.object "Slewyard$Load")) 1 := ⟨wC_X5_firstLoadOn, wI_X5_firstLoadOn, wV_X5_X5_firstLoadOn, wN_X5, by decide +kernel⟩
set_option maxHeartbeats 4000000 in
set_option maxRecDepth 100000 in
theorem c_firstLoadOn {l : Launch} {E : EV} {K : Nat → Nat} {S : PS} (hW : WS K S) (hA : AW S) (hM : WM S) (x : Int32) : CT l yX5_firstLoadOn cX5_firstLoadOn 4 (some (.object "Slewyard$Load")) 3 64 0 0 E [.ref (K 1), .int x] S (pv (va_rf (m_firstLoadOn K S x)) S) := by
  refine CT.of (by decide) (Nat.le_of_ble_eq_true rfl) ?_
  intro p e s m below meth c M hin
  have M : MC E p s m _ meth c cX5_firstLoadOn RX5 4 (some (.object "Slewyard$Load")) := M
  show J p l e _ s m _ below meth c _ E 4 0 [(0, .ref (K 1)), (1, .int x)] [] S 0 0
  refine j_iconst (v := 0) M dX5_firstLoadOn_0 (by decide) ?_
  refine j_istore_n (lv' := [(2, .int 0), (0, .ref (K 1)), (1, .int x)]) M dX5_firstLoadOn_1 rfl (by decide) rfl ?_
  have hz14 := hW.l14.2.1
  have lp : ∀ (r j : Nat), j + r = sZ S (K 14) → m_firstLoadOn K S x = m_firstLoadOn_lp K S x r j → J p l e { frames := 3, cells := 0, slots := 0, locals := 64 } s m ([.ref (K 1), .int x] : List Value).toArray below meth c (MQ below (QC E (pv (va_rf (m_firstLoadOn K S x)) S)) ([.ref (K 1), .int x] : List Value).toArray s 0 0 (AE E)) E 4 2 [(0, .ref (K 1)), (1, .int x), (2, .int (nI j))] [] S 0 0 := by
    intro r
    induction r with
    | zero =>
      intro j hj hq
      refine j_iload_n M dX5_firstLoadOn_2 rfl ?_
      refine j_aload_n M dX5_firstLoadOn_3 rfl ?_
      refine j_get (v := .ref (K 14)) M hW.k1.1 (pAt_5 E _ hW.k1.2) rfl inU_X5 4 (by decide) wF_X5_24 (fun _ h => h) (rfv hW.r36) dX5_firstLoadOn_4 ?_
      refine j_callV1 (As := []) (x := .int (nI (sZ S (K 14)))) M cf_size wM_X5_68 (c_size hW.l14) hW.l14.1.1 (pAt_8 E _ hW.l14.1.2) rfl rfl ⟨Nat.le_of_ble_eq_true rfl, Nat.le_of_ble_eq_true rfl⟩ (Nat.le_of_ble_eq_true rfl) ⟨Nat.zero_le _, Nat.zero_le _⟩ dX5_firstLoadOn_7 rfl ?_
      refine j_icmp_ge (tgt := 41) M dX5_firstLoadOn_10 (by decide) (fun _ => ?_) (fun z => absurd (nI_le (by omega) (by omega)) z)
      refine j_null M dX5_firstLoadOn_41 ?_
      exact j_aret (v := .null) M (Or.inl ⟨_, rfl⟩) (Or.inl rfl) dX5_firstLoadOn_42 (Nat.le_refl _) (Nat.le_refl _) ⟨congrArg (fun z => some (va_rf z)) (show none = m_firstLoadOn K S x from (hq.trans (by simp only [m_firstLoadOn_lp])).symm), rfl⟩
    | succ r ih =>
      intro j hj hq
      refine j_iload_n M dX5_firstLoadOn_2 rfl ?_
      refine j_aload_n M dX5_firstLoadOn_3 rfl ?_
      refine j_get (v := .ref (K 14)) M hW.k1.1 (pAt_5 E _ hW.k1.2) rfl inU_X5 4 (by decide) wF_X5_24 (fun _ h => h) (rfv hW.r36) dX5_firstLoadOn_4 ?_
      refine j_callV1 (As := []) (x := .int (nI (sZ S (K 14)))) M cf_size wM_X5_68 (c_size hW.l14) hW.l14.1.1 (pAt_8 E _ hW.l14.1.2) rfl rfl ⟨Nat.le_of_ble_eq_true rfl, Nat.le_of_ble_eq_true rfl⟩ (Nat.le_of_ble_eq_true rfl) ⟨Nat.zero_le _, Nat.zero_le _⟩ dX5_firstLoadOn_7 rfl ?_
      refine j_icmp_ge (tgt := 41) M dX5_firstLoadOn_10 (by decide) (fun z => absurd z (nI_ge (by omega) (by omega))) (fun _ => ?_)
      refine j_aload_n M dX5_firstLoadOn_13 rfl ?_
      refine j_get (v := .ref (K 14)) M hW.k1.1 (pAt_5 E _ hW.k1.2) rfl inU_X5 4 (by decide) wF_X5_24 (fun _ h => h) (rfv hW.r36) dX5_firstLoadOn_14 ?_
      refine j_iload_n M dX5_firstLoadOn_17 rfl ?_
      refine j_callV1 (As := [.int (nI j)]) (x := .ref (el S (K 14) j)) M cf_get wM_X5_72 (c_get hW.l14 (by decide) (show j < sZ S (K 14) by omega)) hW.l14.1.1 (pAt_8 E _ hW.l14.1.2) rfl rfl ⟨Nat.le_of_ble_eq_true rfl, Nat.le_of_ble_eq_true rfl⟩ (Nat.le_of_ble_eq_true rfl) ⟨Nat.zero_le _, Nat.zero_le _⟩ dX5_firstLoadOn_18 rfl ?_
      refine j_cast M ((LSt.el hW.l14 (show j < sZ S (K 14) by omega)).1) (pAt_2 E _ ((LSt.el hW.l14 (show j < sZ S (K 14) by omega)).2)) rfl wL_X5_110 dX5_firstLoadOn_21 ?_
      refine j_astore_n (lv' := [(3, .ref (el S (K 14) j)), (0, .ref (K 1)), (1, .int x), (2, .int (nI j))]) M dX5_firstLoadOn_24 rfl (by decide) rfl ?_
      refine j_aload_n M dX5_firstLoadOn_25 rfl ?_
      refine j_iload_n M dX5_firstLoadOn_26 rfl ?_
      refine j_callV1 (As := [.int x]) M cf_X2_liesOn wM_X5_112 (c_liesOn hW hA hM ((LSt.el hW.l14 (show j < sZ S (K 14) by omega)).1) ((LSt.el hW.l14 (show j < sZ S (K 14) by omega)).2) x) ((LSt.el hW.l14 (show j < sZ S (K 14) by omega)).1) (pAt_2 E _ ((LSt.el hW.l14 (show j < sZ S (K 14) by omega)).2)) rfl rfl ⟨Nat.le_of_ble_eq_true rfl, Nat.le_of_ble_eq_true rfl⟩ (Nat.le_of_ble_eq_true rfl) ⟨Nat.zero_le _, Nat.zero_le _⟩ dX5_firstLoadOn_27 rfl ?_
      refine j_if_eq (tgt := 35) M dX5_firstLoadOn_30 (by decide) (fun c1 => ?_) (fun c1 => ?_)
      · refine j_iinc (v := (nI (j + 1))) (lv' := [(2, .int (nI (j + 1))), (3, .ref (el S (K 14) j)), (0, .ref (K 1)), (1, .int x)]) M dX5_firstLoadOn_35 rfl (nI_1 _) (by decide) rfl ?_
        refine j_goto (tgt := 2) M dX5_firstLoadOn_38 (by decide) ?_
        refine j_pick [2, 3, 0] rfl ?_
        exact ih (j + 1) (by omega) (hq.trans (by simp only [m_firstLoadOn_lp, if_pos c1]))
      · refine j_aload_n M dX5_firstLoadOn_33 rfl ?_
        exact j_aret (v := .ref (el S (K 14) j)) M (Or.inl ⟨_, rfl⟩) (Or.inr ⟨_, rfl⟩) dX5_firstLoadOn_34 (Nat.le_refl _) (Nat.le_refl _) ⟨congrArg (fun z => some (va_rf z)) (show some (el S (K 14) j) = m_firstLoadOn K S x from (hq.trans (by simp only [m_firstLoadOn_lp, if_neg c1])).symm), rfl⟩
  refine j_pick (lv' := [(0, .ref (K 1)), (1, .int x), (2, .int (nI 0))]) [1, 2, 0] rfl ?_
  exact lp (sZ S (K 14)) 0 (by omega) (by unfold m_firstLoadOn; rfl)
def m_hangingLoads_lp (K : Nat → Nat) (S : PS) : Nat → Nat → Int32 → Int32
  | 0, j, n => n
  | r + 1, j, n => if sM S 22 (el S (K 14) j) = none then
      m_hangingLoads_lp K S r (j + 1) n
    else
      m_hangingLoads_lp K S r (j + 1) (n + 1)
def m_hangingLoads (K : Nat → Nat) (S : PS) : Int32 :=
  m_hangingLoads_lp K S (sZ S (K 14)) 0 0
theorem cf_X5_hangingLoads : CFv yX5_hangingLoads RX5 cX5_hangingLoads 3 (some .int) 0 := ⟨wC_X5_hangingLoads, wI_X5_hangingLoads, wV_X5_X5_hangingLoads, wN_X5, by decide +kernel⟩
set_option maxHeartbeats 4000000 in
set_option maxRecDepth 100000 in
theorem c_hangingLoads {l : Launch} {E : EV} {K : Nat → Nat} {S : PS} (hW : WS K S) (hA : AW S) (hM : WM S) : CT l yX5_hangingLoads cX5_hangingLoads 3 (some .int) 3 64 0 0 E [.ref (K 1)] S (pv (.int (m_hangingLoads K S)) S) := by
  refine CT.of (by decide) (Nat.le_of_ble_eq_true rfl) ?_
  intro p e s m below meth c M hin
  have M : MC E p s m _ meth c cX5_hangingLoads RX5 3 (some .int) := M
  show J p l e _ s m _ below meth c _ E 3 0 [(0, .ref (K 1))] [] S 0 0
  refine j_iconst (v := 0) M dX5_hangingLoads_0 (by decide) ?_
  refine j_istore_n (lv' := [(1, .int 0), (0, .ref (K 1))]) M dX5_hangingLoads_1 rfl (by decide) rfl ?_
  refine j_iconst (v := 0) M dX5_hangingLoads_2 (by decide) ?_
  refine j_istore_n (lv' := [(2, .int 0), (1, .int 0), (0, .ref (K 1))]) M dX5_hangingLoads_3 rfl (by decide) rfl ?_
  have hz14 := hW.l14.2.1
  have lp : ∀ (r j : Nat) (n : Int32), j + r = sZ S (K 14) → m_hangingLoads K S = m_hangingLoads_lp K S r j n → J p l e { frames := 3, cells := 0, slots := 0, locals := 64 } s m ([.ref (K 1)] : List Value).toArray below meth c (MQ below (QC E (pv (.int (m_hangingLoads K S)) S)) ([.ref (K 1)] : List Value).toArray s 0 0 (AE E)) E 3 4 [(0, .ref (K 1)), (1, .int n), (2, .int (nI j))] [] S 0 0 := by
    intro r
    induction r with
    | zero =>
      intro j n hj hq
      refine j_iload_n M dX5_hangingLoads_4 rfl ?_
      refine j_aload_n M dX5_hangingLoads_5 rfl ?_
      refine j_get (v := .ref (K 14)) M hW.k1.1 (pAt_5 E _ hW.k1.2) rfl inU_X5 4 (by decide) wF_X5_24 (fun _ h => h) (rfv hW.r36) dX5_hangingLoads_6 ?_
      refine j_callV1 (As := []) (x := .int (nI (sZ S (K 14)))) M cf_size wM_X5_68 (c_size hW.l14) hW.l14.1.1 (pAt_8 E _ hW.l14.1.2) rfl rfl ⟨Nat.le_of_ble_eq_true rfl, Nat.le_of_ble_eq_true rfl⟩ (Nat.le_of_ble_eq_true rfl) ⟨Nat.zero_le _, Nat.zero_le _⟩ dX5_hangingLoads_9 rfl ?_
      refine j_icmp_ge (tgt := 41) M dX5_hangingLoads_12 (by decide) (fun _ => ?_) (fun z => absurd (nI_le (by omega) (by omega)) z)
      refine j_iload_n M dX5_hangingLoads_41 rfl ?_
      exact j_iret (v := n) M dX5_hangingLoads_42 (Nat.le_refl _) (Nat.le_refl _) ⟨congrArg (fun z => some (Value.int z)) (show n = m_hangingLoads K S from (hq.trans (by simp only [m_hangingLoads_lp])).symm), rfl⟩
    | succ r ih =>
      intro j n hj hq
      refine j_iload_n M dX5_hangingLoads_4 rfl ?_
      refine j_aload_n M dX5_hangingLoads_5 rfl ?_
      refine j_get (v := .ref (K 14)) M hW.k1.1 (pAt_5 E _ hW.k1.2) rfl inU_X5 4 (by decide) wF_X5_24 (fun _ h => h) (rfv hW.r36) dX5_hangingLoads_6 ?_
      refine j_callV1 (As := []) (x := .int (nI (sZ S (K 14)))) M cf_size wM_X5_68 (c_size hW.l14) hW.l14.1.1 (pAt_8 E _ hW.l14.1.2) rfl rfl ⟨Nat.le_of_ble_eq_true rfl, Nat.le_of_ble_eq_true rfl⟩ (Nat.le_of_ble_eq_true rfl) ⟨Nat.zero_le _, Nat.zero_le _⟩ dX5_hangingLoads_9 rfl ?_
      refine j_icmp_ge (tgt := 41) M dX5_hangingLoads_12 (by decide) (fun z => absurd z (nI_ge (by omega) (by omega))) (fun _ => ?_)
      refine j_aload_n M dX5_hangingLoads_15 rfl ?_
      refine j_get (v := .ref (K 14)) M hW.k1.1 (pAt_5 E _ hW.k1.2) rfl inU_X5 4 (by decide) wF_X5_24 (fun _ h => h) (rfv hW.r36) dX5_hangingLoads_16 ?_
      refine j_iload_n M dX5_hangingLoads_19 rfl ?_
      refine j_callV1 (As := [.int (nI j)]) (x := .ref (el S (K 14) j)) M cf_get wM_X5_72 (c_get hW.l14 (by decide) (show j < sZ S (K 14) by omega)) hW.l14.1.1 (pAt_8 E _ hW.l14.1.2) rfl rfl ⟨Nat.le_of_ble_eq_true rfl, Nat.le_of_ble_eq_true rfl⟩ (Nat.le_of_ble_eq_true rfl) ⟨Nat.zero_le _, Nat.zero_le _⟩ dX5_hangingLoads_20 rfl ?_
      refine j_cast M ((LSt.el hW.l14 (show j < sZ S (K 14) by omega)).1) (pAt_2 E _ ((LSt.el hW.l14 (show j < sZ S (K 14) by omega)).2)) rfl wL_X5_110 dX5_hangingLoads_23 ?_
      refine j_getN (v := va_rf (sM S 22 (el S (K 14) j))) M ((LSt.el hW.l14 (show j < sZ S (K 14) by omega)).1) (pAt_2 E _ ((LSt.el hW.l14 (show j < sZ S (K 14) by omega)).2)) rfl inU_X2 3 (by decide) nF_X5_115 (fun _ h => h) rfl dX5_hangingLoads_26 ?_
      refine j_opt (fun c1 => ?_) (fun c1s c1 => ?_)
      · refine j_ifnullN (tgt := 35) M dX5_hangingLoads_29 (by decide) ?_
        refine j_iinc (v := (nI (j + 1))) (lv' := [(2, .int (nI (j + 1))), (0, .ref (K 1)), (1, .int n)]) M dX5_hangingLoads_35 rfl (nI_1 _) (by decide) rfl ?_
        refine j_goto (tgt := 4) M dX5_hangingLoads_38 (by decide) ?_
        refine j_pick [1, 2, 0] rfl ?_
        exact ih (j + 1) n (by omega) (hq.trans (by simp only [m_hangingLoads_lp, if_pos c1]))
      · refine j_ifnull M dX5_hangingLoads_29 ?_
        refine j_iinc (v := (n + 1)) (lv' := [(1, .int (n + 1)), (0, .ref (K 1)), (2, .int (nI j))]) M dX5_hangingLoads_32 rfl rfl (by decide) rfl ?_
        refine j_iinc (v := (nI (j + 1))) (lv' := [(2, .int (nI (j + 1))), (1, .int (n + 1)), (0, .ref (K 1))]) M dX5_hangingLoads_35 rfl (nI_1 _) (by decide) rfl ?_
        refine j_goto (tgt := 4) M dX5_hangingLoads_38 (by decide) ?_
        refine j_pick [2, 1, 0] rfl ?_
        exact ih (j + 1) (n + 1) (by omega) (hq.trans (by simp only [m_hangingLoads_lp, if_neg c1]))
  refine j_pick (lv' := [(0, .ref (K 1)), (1, .int 0), (2, .int (nI 0))]) [2, 1, 0] rfl ?_
  exact lp (sZ S (K 14)) 0 0 (by omega) (by unfold m_hangingLoads; rfl)
def m_jibsOver_lp (K : Nat → Nat) (S : PS) (x : Int32) : Nat → Nat → Int32 → Int32
  | 0, j, n => n
  | r + 1, j, n => if (m_apartFromJib K S (el S (K 13) j) (m_rowOf K S x) (m_columnOf K S x)) = 0 then
      m_jibsOver_lp K S x r (j + 1) (n ||| (1 <<< ((nI j) &&& 31)))
    else
      m_jibsOver_lp K S x r (j + 1) n
def m_jibsOver (K : Nat → Nat) (S : PS) (x : Int32) : Int32 :=
  m_jibsOver_lp K S x (sZ S (K 13)) 0 0
theorem cf_X5_jibsOver : CFv yX5_jibsOver RX5 cX5_jibsOver 6 (some .int) 1 := ⟨wC_X5_jibsOver, wI_X5_jibsOver, wV_X5_X5_jibsOver, wN_X5, by decide +kernel⟩
set_option maxHeartbeats 4000000 in
set_option maxRecDepth 100000 in
theorem c_jibsOver {l : Launch} {E : EV} {K : Nat → Nat} {S : PS} (hW : WS K S) (hA : AW S) (hM : WM S) (x : Int32) : CT l yX5_jibsOver cX5_jibsOver 6 (some .int) 3 64 0 0 E [.ref (K 1), .int x] S (pv (.int (m_jibsOver K S x)) S) := by
  refine CT.of (by decide) (Nat.le_of_ble_eq_true rfl) ?_
  intro p e s m below meth c M hin
  have M : MC E p s m _ meth c cX5_jibsOver RX5 6 (some .int) := M
  show J p l e _ s m _ below meth c _ E 6 0 [(0, .ref (K 1)), (1, .int x)] [] S 0 0
  refine j_aload_n M dX5_jibsOver_0 rfl ?_
  refine j_get (v := .ref (K 2)) M hW.k1.1 (pAt_5 E _ hW.k1.2) rfl inU_X5 0 (by decide) wF_X5_46 (fun _ h => h) (rfv hW.r32) dX5_jibsOver_1 ?_
  refine j_iload_n M dX5_jibsOver_4 rfl ?_
  refine j_callV1 (As := [.int x]) M cf_X1_rowOf wM_X5_87 (c_rowOf hW x) hW.k2.1 (pAt_1 E _ hW.k2.2) rfl rfl ⟨Nat.le_of_ble_eq_true rfl, Nat.le_of_ble_eq_true rfl⟩ (Nat.le_of_ble_eq_true rfl) ⟨Nat.zero_le _, Nat.zero_le _⟩ dX5_jibsOver_5 rfl ?_
  refine j_istore_n (lv' := [(2, .int (m_rowOf K S x)), (0, .ref (K 1)), (1, .int x)]) M dX5_jibsOver_8 rfl (by decide) rfl ?_
  refine j_aload_n M dX5_jibsOver_9 rfl ?_
  refine j_get (v := .ref (K 2)) M hW.k1.1 (pAt_5 E _ hW.k1.2) rfl inU_X5 0 (by decide) wF_X5_46 (fun _ h => h) (rfv hW.r32) dX5_jibsOver_10 ?_
  refine j_iload_n M dX5_jibsOver_13 rfl ?_
  refine j_callV1 (As := [.int x]) M cf_X1_columnOf wM_X5_91 (c_columnOf hW x) hW.k2.1 (pAt_1 E _ hW.k2.2) rfl rfl ⟨Nat.le_of_ble_eq_true rfl, Nat.le_of_ble_eq_true rfl⟩ (Nat.le_of_ble_eq_true rfl) ⟨Nat.zero_le _, Nat.zero_le _⟩ dX5_jibsOver_14 rfl ?_
  refine j_istore_n (lv' := [(3, .int (m_columnOf K S x)), (2, .int (m_rowOf K S x)), (0, .ref (K 1)), (1, .int x)]) M dX5_jibsOver_17 rfl (by decide) rfl ?_
  refine j_iconst (v := 0) M dX5_jibsOver_18 (by decide) ?_
  refine j_istore (lv' := [(4, .int 0), (3, .int (m_columnOf K S x)), (2, .int (m_rowOf K S x)), (0, .ref (K 1)), (1, .int x)]) M dX5_jibsOver_19 (by decide) rfl ?_
  refine j_iconst (v := 0) M dX5_jibsOver_21 (by decide) ?_
  refine j_istore (lv' := [(5, .int 0), (4, .int 0), (3, .int (m_columnOf K S x)), (2, .int (m_rowOf K S x)), (0, .ref (K 1)), (1, .int x)]) M dX5_jibsOver_22 (by decide) rfl ?_
  have hz13 := hW.l13.2.1
  have lp : ∀ (r j : Nat) (n : Int32), j + r = sZ S (K 13) → m_jibsOver K S x = m_jibsOver_lp K S x r j n → J p l e { frames := 3, cells := 0, slots := 0, locals := 64 } s m ([.ref (K 1), .int x] : List Value).toArray below meth c (MQ below (QC E (pv (.int (m_jibsOver K S x)) S)) ([.ref (K 1), .int x] : List Value).toArray s 0 0 (AE E)) E 6 24 [(0, .ref (K 1)), (1, .int x), (2, .int (m_rowOf K S x)), (3, .int (m_columnOf K S x)), (4, .int n), (5, .int (nI j))] [] S 0 0 := by
    intro r
    induction r with
    | zero =>
      intro j n hj hq
      refine j_iload M dX5_jibsOver_24 rfl ?_
      refine j_aload_n M dX5_jibsOver_26 rfl ?_
      refine j_get (v := .ref (K 13)) M hW.k1.1 (pAt_5 E _ hW.k1.2) rfl inU_X5 3 (by decide) wF_X5_21 (fun _ h => h) (rfv hW.r35) dX5_jibsOver_27 ?_
      refine j_callV1 (As := []) (x := .int (nI (sZ S (K 13)))) M cf_size wM_X5_68 (c_size hW.l13) hW.l13.1.1 (pAt_8 E _ hW.l13.1.2) rfl rfl ⟨Nat.le_of_ble_eq_true rfl, Nat.le_of_ble_eq_true rfl⟩ (Nat.le_of_ble_eq_true rfl) ⟨Nat.zero_le _, Nat.zero_le _⟩ dX5_jibsOver_30 rfl ?_
      refine j_icmp_ge (tgt := 71) M dX5_jibsOver_33 (by decide) (fun _ => ?_) (fun z => absurd (nI_le (by omega) (by omega)) z)
      refine j_iload M dX5_jibsOver_71 rfl ?_
      exact j_iret (v := n) M dX5_jibsOver_73 (Nat.le_refl _) (Nat.le_refl _) ⟨congrArg (fun z => some (Value.int z)) (show n = m_jibsOver K S x from (hq.trans (by simp only [m_jibsOver_lp])).symm), rfl⟩
    | succ r ih =>
      intro j n hj hq
      refine j_iload M dX5_jibsOver_24 rfl ?_
      refine j_aload_n M dX5_jibsOver_26 rfl ?_
      refine j_get (v := .ref (K 13)) M hW.k1.1 (pAt_5 E _ hW.k1.2) rfl inU_X5 3 (by decide) wF_X5_21 (fun _ h => h) (rfv hW.r35) dX5_jibsOver_27 ?_
      refine j_callV1 (As := []) (x := .int (nI (sZ S (K 13)))) M cf_size wM_X5_68 (c_size hW.l13) hW.l13.1.1 (pAt_8 E _ hW.l13.1.2) rfl rfl ⟨Nat.le_of_ble_eq_true rfl, Nat.le_of_ble_eq_true rfl⟩ (Nat.le_of_ble_eq_true rfl) ⟨Nat.zero_le _, Nat.zero_le _⟩ dX5_jibsOver_30 rfl ?_
      refine j_icmp_ge (tgt := 71) M dX5_jibsOver_33 (by decide) (fun z => absurd z (nI_ge (by omega) (by omega))) (fun _ => ?_)
      refine j_aload_n M dX5_jibsOver_36 rfl ?_
      refine j_get (v := .ref (K 13)) M hW.k1.1 (pAt_5 E _ hW.k1.2) rfl inU_X5 3 (by decide) wF_X5_21 (fun _ h => h) (rfv hW.r35) dX5_jibsOver_37 ?_
      refine j_iload M dX5_jibsOver_40 rfl ?_
      refine j_callV1 (As := [.int (nI j)]) (x := .ref (el S (K 13) j)) M cf_get wM_X5_72 (c_get hW.l13 (by decide) (show j < sZ S (K 13) by omega)) hW.l13.1.1 (pAt_8 E _ hW.l13.1.2) rfl rfl ⟨Nat.le_of_ble_eq_true rfl, Nat.le_of_ble_eq_true rfl⟩ (Nat.le_of_ble_eq_true rfl) ⟨Nat.zero_le _, Nat.zero_le _⟩ dX5_jibsOver_42 rfl ?_
      refine j_cast M ((LSt.el hW.l13 (show j < sZ S (K 13) by omega)).1) (pAt_0 E _ ((LSt.el hW.l13 (show j < sZ S (K 13) by omega)).2)) rfl wL_X5_50 dX5_jibsOver_45 ?_
      refine j_iload_n M dX5_jibsOver_48 rfl ?_
      refine j_iload_n M dX5_jibsOver_49 rfl ?_
      refine j_callV1 (As := [.int (m_rowOf K S x), .int (m_columnOf K S x)]) M cf_X0_apartFromJib wM_X5_118 (c_apartFromJib hW ((LSt.el hW.l13 (show j < sZ S (K 13) by omega)).1) ((LSt.el hW.l13 (show j < sZ S (K 13) by omega)).2) (m_rowOf K S x) (m_columnOf K S x)) ((LSt.el hW.l13 (show j < sZ S (K 13) by omega)).1) (pAt_0 E _ ((LSt.el hW.l13 (show j < sZ S (K 13) by omega)).2)) rfl rfl ⟨Nat.le_of_ble_eq_true rfl, Nat.le_of_ble_eq_true rfl⟩ (Nat.le_of_ble_eq_true rfl) ⟨Nat.zero_le _, Nat.zero_le _⟩ dX5_jibsOver_50 rfl ?_
      refine j_if_ne (tgt := 65) M dX5_jibsOver_53 (by decide) (fun c1 => ?_) (fun c1 => ?_)
      · refine j_iinc (v := (nI (j + 1))) (lv' := [(5, .int (nI (j + 1))), (0, .ref (K 1)), (1, .int x), (2, .int (m_rowOf K S x)), (3, .int (m_columnOf K S x)), (4, .int n)]) M dX5_jibsOver_65 rfl (nI_1 _) (by decide) rfl ?_
        refine j_goto (tgt := 24) M dX5_jibsOver_68 (by decide) ?_
        refine j_pick [1, 2, 3, 4, 5, 0] rfl ?_
        exact ih (j + 1) n (by omega) (hq.trans (by simp only [m_jibsOver_lp, if_neg c1]))
      · refine j_iload M dX5_jibsOver_56 rfl ?_
        refine j_iconst (v := 1) M dX5_jibsOver_58 (by decide) ?_
        refine j_iload M dX5_jibsOver_59 rfl ?_
        refine j_ishl M dX5_jibsOver_61 ?_
        refine j_ior M dX5_jibsOver_62 ?_
        refine j_istore (lv' := [(4, .int (n ||| (1 <<< ((nI j) &&& 31)))), (0, .ref (K 1)), (1, .int x), (2, .int (m_rowOf K S x)), (3, .int (m_columnOf K S x)), (5, .int (nI j))]) M dX5_jibsOver_63 (by decide) rfl ?_
        refine j_iinc (v := (nI (j + 1))) (lv' := [(5, .int (nI (j + 1))), (4, .int (n ||| (1 <<< ((nI j) &&& 31)))), (0, .ref (K 1)), (1, .int x), (2, .int (m_rowOf K S x)), (3, .int (m_columnOf K S x))]) M dX5_jibsOver_65 rfl (nI_1 _) (by decide) rfl ?_
        refine j_goto (tgt := 24) M dX5_jibsOver_68 (by decide) ?_
        refine j_pick [2, 3, 4, 5, 1, 0] rfl ?_
        exact ih (j + 1) (n ||| (1 <<< ((nI j) &&& 31))) (by omega) (hq.trans (by simp only [m_jibsOver_lp, if_pos c1]))
  refine j_pick (lv' := [(0, .ref (K 1)), (1, .int x), (2, .int (m_rowOf K S x)), (3, .int (m_columnOf K S x)), (4, .int 0), (5, .int (nI 0))]) [4, 5, 3, 2, 1, 0] rfl ?_
  exact lp (sZ S (K 13)) 0 0 (by omega) (by unfold m_jibsOver; rfl)
def m_canBuild_lp (K : Nat → Nat) (S : PS) (x : Int32) (h : Int32) : Nat → Nat → Int32
  | 0, j => 1
  | r + 1, j => if sM S 14 (el S (K 13) j) = none then
      if (m_plumb K S (el S (K 13) j)) = x then
        if 1 ≤ ((sI S 11 (el S (K 13) j)) - h) then
          m_canBuild_lp K S x h r (j + 1)
        else
          0
      else
        m_canBuild_lp K S x h r (j + 1)
    else
      if (m_plumb K S (el S (K 13) j)) = x then
        if 2 ≤ ((sI S 11 (el S (K 13) j)) - h) then
          m_canBuild_lp K S x h r (j + 1)
        else
          0
      else
        m_canBuild_lp K S x h r (j + 1)
def m_canBuild (K : Nat → Nat) (S : PS) (x : Int32) (h : Int32) : Int32 :=
  if (m_towerOn K S x) = (-1) then
    if (m_loadsOn K S x) ≤ 0 then
      m_canBuild_lp K S x h (sZ S (K 13)) 0
    else
      0
  else
    0
theorem cf_X5_canBuild : CFv yX5_canBuild RX5 cX5_canBuild 6 (some .boolean) 2 := ⟨wC_X5_canBuild, wI_X5_canBuild, wV_X5_X5_canBuild, wN_X5, by decide +kernel⟩
set_option maxHeartbeats 4000000 in
set_option maxRecDepth 100000 in
theorem c_canBuild {l : Launch} {E : EV} {K : Nat → Nat} {S : PS} (hW : WS K S) (hA : AW S) (hM : WM S) (x : Int32) (h : Int32) : CT l yX5_canBuild cX5_canBuild 6 (some .boolean) 4 87 0 0 E [.ref (K 1), .int x, .int h] S (pv (.int (m_canBuild K S x h)) S) := by
  refine CT.of (by decide) (Nat.le_of_ble_eq_true rfl) ?_
  intro p e s m below meth c M hin
  have M : MC E p s m _ meth c cX5_canBuild RX5 6 (some .boolean) := M
  show J p l e _ s m _ below meth c _ E 6 0 [(0, .ref (K 1)), (1, .int x), (2, .int h)] [] S 0 0
  refine j_aload_n M dX5_canBuild_0 rfl ?_
  refine j_iload_n M dX5_canBuild_1 rfl ?_
  refine j_callV1 (As := [.int x]) M cf_X5_towerOn wM_X5_125 (c_towerOn hW hA hM x) hW.k1.1 (pAt_5 E _ hW.k1.2) rfl rfl ⟨Nat.le_of_ble_eq_true rfl, Nat.le_of_ble_eq_true rfl⟩ (Nat.le_of_ble_eq_true rfl) ⟨Nat.zero_le _, Nat.zero_le _⟩ dX5_canBuild_2 rfl ?_
  refine j_iconst (v := (-1)) M dX5_canBuild_5 (by decide) ?_
  refine j_icmp_ne (tgt := 17) M dX5_canBuild_6 (by decide) (fun c1 => ?_) (fun c1 => ?_)
  · refine j_iconst (v := 0) M dX5_canBuild_17 (by decide) ?_
    exact j_zret (v := 0) M dX5_canBuild_18 (Nat.le_refl _) (Nat.le_refl _) rfl ⟨congrArg (fun z => some (Value.int z)) (show 0 = m_canBuild K S x h from (by unfold m_canBuild; rw [if_neg c1])), rfl⟩
  · refine j_aload_n M dX5_canBuild_9 rfl ?_
    refine j_iload_n M dX5_canBuild_10 rfl ?_
    refine j_callV1 (As := [.int x]) M cf_X5_loadsOn wM_X5_128 (c_loadsOn hW hA hM x) hW.k1.1 (pAt_5 E _ hW.k1.2) rfl rfl ⟨Nat.le_of_ble_eq_true rfl, Nat.le_of_ble_eq_true rfl⟩ (Nat.le_of_ble_eq_true rfl) ⟨Nat.zero_le _, Nat.zero_le _⟩ dX5_canBuild_11 rfl ?_
    refine j_if_le (tgt := 19) M dX5_canBuild_14 (by decide) (fun c2 => ?_) (fun c2 => ?_)
    · refine j_iconst (v := 0) M dX5_canBuild_19 (by decide) ?_
      refine j_istore_n (lv' := [(3, .int 0), (0, .ref (K 1)), (1, .int x), (2, .int h)]) M dX5_canBuild_20 rfl (by decide) rfl ?_
      have hz13 := hW.l13.2.1
      have lp : ∀ (r j : Nat), j + r = sZ S (K 13) → m_canBuild K S x h = m_canBuild_lp K S x h r j → J p l e { frames := 4, cells := 0, slots := 0, locals := 87 } s m ([.ref (K 1), .int x, .int h] : List Value).toArray below meth c (MQ below (QC E (pv (.int (m_canBuild K S x h)) S)) ([.ref (K 1), .int x, .int h] : List Value).toArray s 0 0 (AE E)) E 6 21 [(0, .ref (K 1)), (1, .int x), (2, .int h), (3, .int (nI j))] [] S 0 0 := by
        intro r
        induction r with
        | zero =>
          intro j hj hq
          refine j_iload_n M dX5_canBuild_21 rfl ?_
          refine j_aload_n M dX5_canBuild_22 rfl ?_
          refine j_get (v := .ref (K 13)) M hW.k1.1 (pAt_5 E _ hW.k1.2) rfl inU_X5 3 (by decide) wF_X5_21 (fun _ h => h) (rfv hW.r35) dX5_canBuild_23 ?_
          refine j_callV1 (As := []) (x := .int (nI (sZ S (K 13)))) M cf_size wM_X5_68 (c_size hW.l13) hW.l13.1.1 (pAt_8 E _ hW.l13.1.2) rfl rfl ⟨Nat.le_of_ble_eq_true rfl, Nat.le_of_ble_eq_true rfl⟩ (Nat.le_of_ble_eq_true rfl) ⟨Nat.zero_le _, Nat.zero_le _⟩ dX5_canBuild_26 rfl ?_
          refine j_icmp_ge (tgt := 89) M dX5_canBuild_29 (by decide) (fun _ => ?_) (fun z => absurd (nI_le (by omega) (by omega)) z)
          refine j_iconst (v := 1) M dX5_canBuild_89 (by decide) ?_
          exact j_zret (v := 1) M dX5_canBuild_90 (Nat.le_refl _) (Nat.le_refl _) rfl ⟨congrArg (fun z => some (Value.int z)) (show 1 = m_canBuild K S x h from (hq.trans (by simp only [m_canBuild_lp])).symm), rfl⟩
        | succ r ih =>
          intro j hj hq
          refine j_iload_n M dX5_canBuild_21 rfl ?_
          refine j_aload_n M dX5_canBuild_22 rfl ?_
          refine j_get (v := .ref (K 13)) M hW.k1.1 (pAt_5 E _ hW.k1.2) rfl inU_X5 3 (by decide) wF_X5_21 (fun _ h => h) (rfv hW.r35) dX5_canBuild_23 ?_
          refine j_callV1 (As := []) (x := .int (nI (sZ S (K 13)))) M cf_size wM_X5_68 (c_size hW.l13) hW.l13.1.1 (pAt_8 E _ hW.l13.1.2) rfl rfl ⟨Nat.le_of_ble_eq_true rfl, Nat.le_of_ble_eq_true rfl⟩ (Nat.le_of_ble_eq_true rfl) ⟨Nat.zero_le _, Nat.zero_le _⟩ dX5_canBuild_26 rfl ?_
          refine j_icmp_ge (tgt := 89) M dX5_canBuild_29 (by decide) (fun z => absurd z (nI_ge (by omega) (by omega))) (fun _ => ?_)
          refine j_aload_n M dX5_canBuild_32 rfl ?_
          refine j_get (v := .ref (K 13)) M hW.k1.1 (pAt_5 E _ hW.k1.2) rfl inU_X5 3 (by decide) wF_X5_21 (fun _ h => h) (rfv hW.r35) dX5_canBuild_33 ?_
          refine j_iload_n M dX5_canBuild_36 rfl ?_
          refine j_callV1 (As := [.int (nI j)]) (x := .ref (el S (K 13) j)) M cf_get wM_X5_72 (c_get hW.l13 (by decide) (show j < sZ S (K 13) by omega)) hW.l13.1.1 (pAt_8 E _ hW.l13.1.2) rfl rfl ⟨Nat.le_of_ble_eq_true rfl, Nat.le_of_ble_eq_true rfl⟩ (Nat.le_of_ble_eq_true rfl) ⟨Nat.zero_le _, Nat.zero_le _⟩ dX5_canBuild_37 rfl ?_
          refine j_cast M ((LSt.el hW.l13 (show j < sZ S (K 13) by omega)).1) (pAt_0 E _ ((LSt.el hW.l13 (show j < sZ S (K 13) by omega)).2)) rfl wL_X5_50 dX5_canBuild_40 ?_
          refine j_astore (lv' := [(4, .ref (el S (K 13) j)), (0, .ref (K 1)), (1, .int x), (2, .int h), (3, .int (nI j))]) M dX5_canBuild_43 (by decide) rfl ?_
          refine j_aload M dX5_canBuild_45 rfl ?_
          refine j_getN (v := va_rf (sM S 14 (el S (K 13) j))) M ((LSt.el hW.l13 (show j < sZ S (K 13) by omega)).1) (pAt_0 E _ ((LSt.el hW.l13 (show j < sZ S (K 13) by omega)).2)) rfl inU_X0 14 (by decide) nF_X5_131 (fun _ h => h) rfl dX5_canBuild_47 ?_
          refine j_opt (fun c3 => ?_) (fun c3s c3 => ?_)
          · refine j_ifnonnullN M dX5_canBuild_50 ?_
            refine j_iconst (v := 1) M dX5_canBuild_53 (by decide) ?_
            refine j_goto (tgt := 58) M dX5_canBuild_54 (by decide) ?_
            refine j_istore (lv' := [(5, .int 1), (4, .ref (el S (K 13) j)), (0, .ref (K 1)), (1, .int x), (2, .int h), (3, .int (nI j))]) M dX5_canBuild_58 (by decide) rfl ?_
            refine j_aload M dX5_canBuild_60 rfl ?_
            refine j_callV1 (As := []) M cf_X0_plumb wM_X5_122 (c_plumb hW ((LSt.el hW.l13 (show j < sZ S (K 13) by omega)).1) ((LSt.el hW.l13 (show j < sZ S (K 13) by omega)).2)) ((LSt.el hW.l13 (show j < sZ S (K 13) by omega)).1) (pAt_0 E _ ((LSt.el hW.l13 (show j < sZ S (K 13) by omega)).2)) rfl rfl ⟨Nat.le_of_ble_eq_true rfl, Nat.le_of_ble_eq_true rfl⟩ (Nat.le_of_ble_eq_true rfl) ⟨Nat.zero_le _, Nat.zero_le _⟩ dX5_canBuild_62 rfl ?_
            refine j_iload_n M dX5_canBuild_65 rfl ?_
            refine j_icmp_ne (tgt := 83) M dX5_canBuild_66 (by decide) (fun c4 => ?_) (fun c4 => ?_)
            · refine j_iinc (v := (nI (j + 1))) (lv' := [(3, .int (nI (j + 1))), (5, .int 1), (4, .ref (el S (K 13) j)), (0, .ref (K 1)), (1, .int x), (2, .int h)]) M dX5_canBuild_83 rfl (nI_1 _) (by decide) rfl ?_
              refine j_goto (tgt := 21) M dX5_canBuild_86 (by decide) ?_
              refine j_pick [3, 4, 5, 0] rfl ?_
              exact ih (j + 1) (by omega) (hq.trans (by simp only [m_canBuild_lp, if_pos c3, if_neg c4]))
            · refine j_aload M dX5_canBuild_69 rfl ?_
              refine j_getN (v := .int (sI S 11 (el S (K 13) j))) M ((LSt.el hW.l13 (show j < sZ S (K 13) by omega)).1) (pAt_0 E _ ((LSt.el hW.l13 (show j < sZ S (K 13) by omega)).2)) rfl inU_X0 11 (by decide) nF_X5_135 (fun _ h => h) rfl dX5_canBuild_71 ?_
              refine j_iload_n M dX5_canBuild_74 rfl ?_
              refine j_isub M dX5_canBuild_75 ?_
              refine j_iload M dX5_canBuild_76 rfl ?_
              refine j_icmp_ge (tgt := 83) M dX5_canBuild_78 (by decide) (fun c5 => ?_) (fun c5 => ?_)
              · refine j_iinc (v := (nI (j + 1))) (lv' := [(3, .int (nI (j + 1))), (5, .int 1), (4, .ref (el S (K 13) j)), (0, .ref (K 1)), (1, .int x), (2, .int h)]) M dX5_canBuild_83 rfl (nI_1 _) (by decide) rfl ?_
                refine j_goto (tgt := 21) M dX5_canBuild_86 (by decide) ?_
                refine j_pick [3, 4, 5, 0] rfl ?_
                exact ih (j + 1) (by omega) (hq.trans (by simp only [m_canBuild_lp, if_pos c3, if_pos c4, if_pos c5]))
              · refine j_iconst (v := 0) M dX5_canBuild_81 (by decide) ?_
                exact j_zret (v := 0) M dX5_canBuild_82 (Nat.le_refl _) (Nat.le_refl _) rfl ⟨congrArg (fun z => some (Value.int z)) (show 0 = m_canBuild K S x h from (hq.trans (by simp only [m_canBuild_lp, if_pos c3, if_pos c4, if_neg c5])).symm), rfl⟩
          · refine j_ifnonnull (tgt := 57) M dX5_canBuild_50 (by decide) ?_
            refine j_iconst (v := 2) M dX5_canBuild_57 (by decide) ?_
            refine j_istore (lv' := [(5, .int 2), (4, .ref (el S (K 13) j)), (0, .ref (K 1)), (1, .int x), (2, .int h), (3, .int (nI j))]) M dX5_canBuild_58 (by decide) rfl ?_
            refine j_aload M dX5_canBuild_60 rfl ?_
            refine j_callV1 (As := []) M cf_X0_plumb wM_X5_122 (c_plumb hW ((LSt.el hW.l13 (show j < sZ S (K 13) by omega)).1) ((LSt.el hW.l13 (show j < sZ S (K 13) by omega)).2)) ((LSt.el hW.l13 (show j < sZ S (K 13) by omega)).1) (pAt_0 E _ ((LSt.el hW.l13 (show j < sZ S (K 13) by omega)).2)) rfl rfl ⟨Nat.le_of_ble_eq_true rfl, Nat.le_of_ble_eq_true rfl⟩ (Nat.le_of_ble_eq_true rfl) ⟨Nat.zero_le _, Nat.zero_le _⟩ dX5_canBuild_62 rfl ?_
            refine j_iload_n M dX5_canBuild_65 rfl ?_
            refine j_icmp_ne (tgt := 83) M dX5_canBuild_66 (by decide) (fun c6 => ?_) (fun c6 => ?_)
            · refine j_iinc (v := (nI (j + 1))) (lv' := [(3, .int (nI (j + 1))), (5, .int 2), (4, .ref (el S (K 13) j)), (0, .ref (K 1)), (1, .int x), (2, .int h)]) M dX5_canBuild_83 rfl (nI_1 _) (by decide) rfl ?_
              refine j_goto (tgt := 21) M dX5_canBuild_86 (by decide) ?_
              refine j_pick [3, 4, 5, 0] rfl ?_
              exact ih (j + 1) (by omega) (hq.trans (by simp only [m_canBuild_lp, if_neg c3, if_neg c6]))
            · refine j_aload M dX5_canBuild_69 rfl ?_
              refine j_getN (v := .int (sI S 11 (el S (K 13) j))) M ((LSt.el hW.l13 (show j < sZ S (K 13) by omega)).1) (pAt_0 E _ ((LSt.el hW.l13 (show j < sZ S (K 13) by omega)).2)) rfl inU_X0 11 (by decide) nF_X5_135 (fun _ h => h) rfl dX5_canBuild_71 ?_
              refine j_iload_n M dX5_canBuild_74 rfl ?_
              refine j_isub M dX5_canBuild_75 ?_
              refine j_iload M dX5_canBuild_76 rfl ?_
              refine j_icmp_ge (tgt := 83) M dX5_canBuild_78 (by decide) (fun c7 => ?_) (fun c7 => ?_)
              · refine j_iinc (v := (nI (j + 1))) (lv' := [(3, .int (nI (j + 1))), (5, .int 2), (4, .ref (el S (K 13) j)), (0, .ref (K 1)), (1, .int x), (2, .int h)]) M dX5_canBuild_83 rfl (nI_1 _) (by decide) rfl ?_
                refine j_goto (tgt := 21) M dX5_canBuild_86 (by decide) ?_
                refine j_pick [3, 4, 5, 0] rfl ?_
                exact ih (j + 1) (by omega) (hq.trans (by simp only [m_canBuild_lp, if_neg c3, if_pos c6, if_pos c7]))
              · refine j_iconst (v := 0) M dX5_canBuild_81 (by decide) ?_
                exact j_zret (v := 0) M dX5_canBuild_82 (Nat.le_refl _) (Nat.le_refl _) rfl ⟨congrArg (fun z => some (Value.int z)) (show 0 = m_canBuild K S x h from (hq.trans (by simp only [m_canBuild_lp, if_neg c3, if_pos c6, if_neg c7])).symm), rfl⟩
      refine j_pick (lv' := [(0, .ref (K 1)), (1, .int x), (2, .int h), (3, .int (nI 0))]) [1, 2, 3, 0] rfl ?_
      exact lp (sZ S (K 13)) 0 (by omega) (by unfold m_canBuild; rw [if_pos c1, if_pos c2])
    · refine j_iconst (v := 0) M dX5_canBuild_17 (by decide) ?_
      exact j_zret (v := 0) M dX5_canBuild_18 (Nat.le_refl _) (Nat.le_refl _) rfl ⟨congrArg (fun z => some (Value.int z)) (show 0 = m_canBuild K S x h from (by unfold m_canBuild; rw [if_pos c1, if_neg c2])), rfl⟩
def m_canFound (K : Nat → Nat) (S : PS) (x : Int32) : Int32 :=
  if (m_towerOn K S x) = (-1) then
    if (m_loadsOn K S x) = 0 then
      if (m_levelOf K S x) = 0 then
        1
      else
        0
    else
      0
  else
    0
theorem cf_X5_canFound : CFv yX5_canFound RX5 cX5_canFound 2 (some .boolean) 1 := ⟨wC_X5_canFound, wI_X5_canFound, wV_X5_X5_canFound, wN_X5, by decide +kernel⟩
set_option maxHeartbeats 4000000 in
set_option maxRecDepth 100000 in
theorem c_canFound {l : Launch} {E : EV} {K : Nat → Nat} {S : PS} (hW : WS K S) (hA : AW S) (hM : WM S) (x : Int32) : CT l yX5_canFound cX5_canFound 2 (some .boolean) 4 87 0 0 E [.ref (K 1), .int x] S (pv (.int (m_canFound K S x)) S) := by
  refine CT.of (by decide) (Nat.le_of_ble_eq_true rfl) ?_
  intro p e s m below meth c M hin
  have M : MC E p s m _ meth c cX5_canFound RX5 2 (some .boolean) := M
  show J p l e _ s m _ below meth c _ E 2 0 [(0, .ref (K 1)), (1, .int x)] [] S 0 0
  refine j_aload_n M dX5_canFound_0 rfl ?_
  refine j_iload_n M dX5_canFound_1 rfl ?_
  refine j_callV1 (As := [.int x]) M cf_X5_towerOn wM_X5_125 (c_towerOn hW hA hM x) hW.k1.1 (pAt_5 E _ hW.k1.2) rfl rfl ⟨Nat.le_of_ble_eq_true rfl, Nat.le_of_ble_eq_true rfl⟩ (Nat.le_of_ble_eq_true rfl) ⟨Nat.zero_le _, Nat.zero_le _⟩ dX5_canFound_2 rfl ?_
  refine j_iconst (v := (-1)) M dX5_canFound_5 (by decide) ?_
  refine j_icmp_ne (tgt := 32) M dX5_canFound_6 (by decide) (fun c1 => ?_) (fun c1 => ?_)
  · refine j_iconst (v := 0) M dX5_canFound_32 (by decide) ?_
    exact j_zret (v := 0) M dX5_canFound_33 (Nat.le_refl _) (Nat.le_refl _) rfl ⟨congrArg (fun z => some (Value.int z)) (show 0 = m_canFound K S x from (by unfold m_canFound; rw [if_neg c1])), rfl⟩
  · refine j_aload_n M dX5_canFound_9 rfl ?_
    refine j_iload_n M dX5_canFound_10 rfl ?_
    refine j_callV1 (As := [.int x]) M cf_X5_loadsOn wM_X5_128 (c_loadsOn hW hA hM x) hW.k1.1 (pAt_5 E _ hW.k1.2) rfl rfl ⟨Nat.le_of_ble_eq_true rfl, Nat.le_of_ble_eq_true rfl⟩ (Nat.le_of_ble_eq_true rfl) ⟨Nat.zero_le _, Nat.zero_le _⟩ dX5_canFound_11 rfl ?_
    refine j_if_ne (tgt := 32) M dX5_canFound_14 (by decide) (fun c2 => ?_) (fun c2 => ?_)
    · refine j_iconst (v := 0) M dX5_canFound_32 (by decide) ?_
      exact j_zret (v := 0) M dX5_canFound_33 (Nat.le_refl _) (Nat.le_refl _) rfl ⟨congrArg (fun z => some (Value.int z)) (show 0 = m_canFound K S x from (by unfold m_canFound; rw [if_pos c1, if_neg c2])), rfl⟩
    · refine j_aload_n M dX5_canFound_17 rfl ?_
      refine j_get (v := .ref (K 2)) M hW.k1.1 (pAt_5 E _ hW.k1.2) rfl inU_X5 0 (by decide) wF_X5_46 (fun _ h => h) (rfv hW.r32) dX5_canFound_18 ?_
      refine j_iload_n M dX5_canFound_21 rfl ?_
      refine j_callV1 (As := [.int x]) M cf_X1_levelOf wM_X5_138 (c_levelOf hW x) hW.k2.1 (pAt_1 E _ hW.k2.2) rfl rfl ⟨Nat.le_of_ble_eq_true rfl, Nat.le_of_ble_eq_true rfl⟩ (Nat.le_of_ble_eq_true rfl) ⟨Nat.zero_le _, Nat.zero_le _⟩ dX5_canFound_22 rfl ?_
      refine j_if_ne (tgt := 32) M dX5_canFound_25 (by decide) (fun c3 => ?_) (fun c3 => ?_)
      · refine j_iconst (v := 0) M dX5_canFound_32 (by decide) ?_
        exact j_zret (v := 0) M dX5_canFound_33 (Nat.le_refl _) (Nat.le_refl _) rfl ⟨congrArg (fun z => some (Value.int z)) (show 0 = m_canFound K S x from (by unfold m_canFound; rw [if_pos c1, if_pos c2, if_neg c3])), rfl⟩
      · refine j_iconst (v := 1) M dX5_canFound_28 (by decide) ?_
        refine j_goto (tgt := 33) M dX5_canFound_29 (by decide) ?_
        exact j_zret (v := 1) M dX5_canFound_33 (Nat.le_refl _) (Nat.le_refl _) rfl ⟨congrArg (fun z => some (Value.int z)) (show 1 = m_canFound K S x from (by unfold m_canFound; rw [if_pos c1, if_pos c2, if_pos c3])), rfl⟩
def m_nearMisses_lp (K : Nat → Nat) (S : PS) : Nat → Nat → Int32 → Int32
  | 0, j, n => n
  | r + 1, j, n => m_nearMisses_lp K S r (j + 1) (n + (sI S 15 (el S (K 13) j)))
def m_nearMisses (K : Nat → Nat) (S : PS) : Int32 :=
  m_nearMisses_lp K S (sZ S (K 13)) 0 0
theorem cf_X5_nearMisses : CFv yX5_nearMisses RX5 cX5_nearMisses 3 (some .int) 0 := ⟨wC_X5_nearMisses, wI_X5_nearMisses, wV_X5_X5_nearMisses, wN_X5, by decide +kernel⟩
set_option maxHeartbeats 4000000 in
set_option maxRecDepth 100000 in
theorem c_nearMisses {l : Launch} {E : EV} {K : Nat → Nat} {S : PS} (hW : WS K S) (hA : AW S) (hM : WM S) : CT l yX5_nearMisses cX5_nearMisses 3 (some .int) 3 64 0 0 E [.ref (K 1)] S (pv (.int (m_nearMisses K S)) S) := by
  refine CT.of (by decide) (Nat.le_of_ble_eq_true rfl) ?_
  intro p e s m below meth c M hin
  have M : MC E p s m _ meth c cX5_nearMisses RX5 3 (some .int) := M
  show J p l e _ s m _ below meth c _ E 3 0 [(0, .ref (K 1))] [] S 0 0
  refine j_iconst (v := 0) M dX5_nearMisses_0 (by decide) ?_
  refine j_istore_n (lv' := [(1, .int 0), (0, .ref (K 1))]) M dX5_nearMisses_1 rfl (by decide) rfl ?_
  refine j_iconst (v := 0) M dX5_nearMisses_2 (by decide) ?_
  refine j_istore_n (lv' := [(2, .int 0), (1, .int 0), (0, .ref (K 1))]) M dX5_nearMisses_3 rfl (by decide) rfl ?_
  have hz13 := hW.l13.2.1
  have lp : ∀ (r j : Nat) (n : Int32), j + r = sZ S (K 13) → m_nearMisses K S = m_nearMisses_lp K S r j n → J p l e { frames := 3, cells := 0, slots := 0, locals := 64 } s m ([.ref (K 1)] : List Value).toArray below meth c (MQ below (QC E (pv (.int (m_nearMisses K S)) S)) ([.ref (K 1)] : List Value).toArray s 0 0 (AE E)) E 3 4 [(0, .ref (K 1)), (1, .int n), (2, .int (nI j))] [] S 0 0 := by
    intro r
    induction r with
    | zero =>
      intro j n hj hq
      refine j_iload_n M dX5_nearMisses_4 rfl ?_
      refine j_aload_n M dX5_nearMisses_5 rfl ?_
      refine j_get (v := .ref (K 13)) M hW.k1.1 (pAt_5 E _ hW.k1.2) rfl inU_X5 3 (by decide) wF_X5_21 (fun _ h => h) (rfv hW.r35) dX5_nearMisses_6 ?_
      refine j_callV1 (As := []) (x := .int (nI (sZ S (K 13)))) M cf_size wM_X5_68 (c_size hW.l13) hW.l13.1.1 (pAt_8 E _ hW.l13.1.2) rfl rfl ⟨Nat.le_of_ble_eq_true rfl, Nat.le_of_ble_eq_true rfl⟩ (Nat.le_of_ble_eq_true rfl) ⟨Nat.zero_le _, Nat.zero_le _⟩ dX5_nearMisses_9 rfl ?_
      refine j_icmp_ge (tgt := 38) M dX5_nearMisses_12 (by decide) (fun _ => ?_) (fun z => absurd (nI_le (by omega) (by omega)) z)
      refine j_iload_n M dX5_nearMisses_38 rfl ?_
      exact j_iret (v := n) M dX5_nearMisses_39 (Nat.le_refl _) (Nat.le_refl _) ⟨congrArg (fun z => some (Value.int z)) (show n = m_nearMisses K S from (hq.trans (by simp only [m_nearMisses_lp])).symm), rfl⟩
    | succ r ih =>
      intro j n hj hq
      refine j_iload_n M dX5_nearMisses_4 rfl ?_
      refine j_aload_n M dX5_nearMisses_5 rfl ?_
      refine j_get (v := .ref (K 13)) M hW.k1.1 (pAt_5 E _ hW.k1.2) rfl inU_X5 3 (by decide) wF_X5_21 (fun _ h => h) (rfv hW.r35) dX5_nearMisses_6 ?_
      refine j_callV1 (As := []) (x := .int (nI (sZ S (K 13)))) M cf_size wM_X5_68 (c_size hW.l13) hW.l13.1.1 (pAt_8 E _ hW.l13.1.2) rfl rfl ⟨Nat.le_of_ble_eq_true rfl, Nat.le_of_ble_eq_true rfl⟩ (Nat.le_of_ble_eq_true rfl) ⟨Nat.zero_le _, Nat.zero_le _⟩ dX5_nearMisses_9 rfl ?_
      refine j_icmp_ge (tgt := 38) M dX5_nearMisses_12 (by decide) (fun z => absurd z (nI_ge (by omega) (by omega))) (fun _ => ?_)
      refine j_iload_n M dX5_nearMisses_15 rfl ?_
      refine j_aload_n M dX5_nearMisses_16 rfl ?_
      refine j_get (v := .ref (K 13)) M hW.k1.1 (pAt_5 E _ hW.k1.2) rfl inU_X5 3 (by decide) wF_X5_21 (fun _ h => h) (rfv hW.r35) dX5_nearMisses_17 ?_
      refine j_iload_n M dX5_nearMisses_20 rfl ?_
      refine j_callV1 (As := [.int (nI j)]) (x := .ref (el S (K 13) j)) M cf_get wM_X5_72 (c_get hW.l13 (by decide) (show j < sZ S (K 13) by omega)) hW.l13.1.1 (pAt_8 E _ hW.l13.1.2) rfl rfl ⟨Nat.le_of_ble_eq_true rfl, Nat.le_of_ble_eq_true rfl⟩ (Nat.le_of_ble_eq_true rfl) ⟨Nat.zero_le _, Nat.zero_le _⟩ dX5_nearMisses_21 rfl ?_
      refine j_cast M ((LSt.el hW.l13 (show j < sZ S (K 13) by omega)).1) (pAt_0 E _ ((LSt.el hW.l13 (show j < sZ S (K 13) by omega)).2)) rfl wL_X5_50 dX5_nearMisses_24 ?_
      refine j_getN (v := .int (sI S 15 (el S (K 13) j))) M ((LSt.el hW.l13 (show j < sZ S (K 13) by omega)).1) (pAt_0 E _ ((LSt.el hW.l13 (show j < sZ S (K 13) by omega)).2)) rfl inU_X0 15 (by decide) nF_X5_165 (fun _ h => h) rfl dX5_nearMisses_27 ?_
      refine j_iadd M dX5_nearMisses_30 ?_
      refine j_istore_n (lv' := [(1, .int (n + (sI S 15 (el S (K 13) j)))), (0, .ref (K 1)), (2, .int (nI j))]) M dX5_nearMisses_31 rfl (by decide) rfl ?_
      refine j_iinc (v := (nI (j + 1))) (lv' := [(2, .int (nI (j + 1))), (1, .int (n + (sI S 15 (el S (K 13) j)))), (0, .ref (K 1))]) M dX5_nearMisses_32 rfl (nI_1 _) (by decide) rfl ?_
      refine j_goto (tgt := 4) M dX5_nearMisses_35 (by decide) ?_
      refine j_pick [2, 1, 0] rfl ?_
      exact ih (j + 1) (n + (sI S 15 (el S (K 13) j))) (by omega) (hq.trans (by simp only [m_nearMisses_lp]))
  refine j_pick (lv' := [(0, .ref (K 1)), (1, .int 0), (2, .int (nI 0))]) [2, 1, 0] rfl ?_
  exact lp (sZ S (K 13)) 0 0 (by omega) (by unfold m_nearMisses; rfl)
def m_apartFromJibOf_lp (K : Nat → Nat) (S : PS) (a : Nat) (b : Nat) : Nat → Nat → Int32 → Int32
  | 0, j, n => n
  | r + 1, j, n => m_apartFromJibOf_lp K S a b r (j + 1) (imin n (m_apartFromJib K S b (m_rowAt K S a (nI j)) (m_columnAt K S a (nI j))))
def m_apartFromJibOf (K : Nat → Nat) (S : PS) (a : Nat) (b : Nat) : Int32 :=
  m_apartFromJibOf_lp K S a b ((sI S 9 a).toNatClampNeg + 1) 0 196
theorem cf_X0_apartFromJibOf : CFv yX0_apartFromJibOf RX0 cX0_apartFromJibOf 4 (some .int) 1 := ⟨wC_X0_apartFromJibOf, wI_X0_apartFromJibOf, wV_X0_X0_apartFromJibOf, wN_X0, by decide +kernel⟩
set_option maxHeartbeats 4000000 in
set_option maxRecDepth 100000 in
theorem c_apartFromJibOf {l : Launch} {E : EV} {K : Nat → Nat} {S : PS} (hW : WS K S) (hA : AW S) (hM : WM S) {a : Nat} (haL : a ∈ sL S) (haK : sK S a = 0) {b : Nat} (hbL : b ∈ sL S) (hbK : sK S b = 0) : CT l yX0_apartFromJibOf cX0_apartFromJibOf 4 (some .int) 2 41 0 0 E [.ref a, .ref b] S (pv (.int (m_apartFromJibOf K S a b)) S) := by
  refine CT.of (by decide) (Nat.le_of_ble_eq_true rfl) ?_
  intro p e s m below meth c M hin
  have M : MC E p s m _ meth c cX0_apartFromJibOf RX0 4 (some .int) := M
  show J p l e _ s m _ below meth c _ E 4 0 [(0, .ref a), (1, .ref b)] [] S 0 0
  refine j_sipush (v := 196) M dX0_apartFromJibOf_0 (by decide) ?_
  refine j_istore_n (lv' := [(2, .int 196), (0, .ref a), (1, .ref b)]) M dX0_apartFromJibOf_3 rfl (by decide) rfl ?_
  refine j_iconst (v := 0) M dX0_apartFromJibOf_4 (by decide) ?_
  refine j_istore_n (lv' := [(3, .int 0), (2, .int 196), (0, .ref a), (1, .ref b)]) M dX0_apartFromJibOf_5 rfl (by decide) rfl ?_
  obtain ⟨harm, harm2⟩ := arm_nat (hA a ⟨haL, haK⟩).1 (hA a ⟨haL, haK⟩).2.1
  have lp : ∀ (r j : Nat) (n : Int32), j + r = (sI S 9 a).toNatClampNeg + 1 → m_apartFromJibOf K S a b = m_apartFromJibOf_lp K S a b r j n → J p l e { frames := 2, cells := 0, slots := 0, locals := 41 } s m ([.ref a, .ref b] : List Value).toArray below meth c (MQ below (QC E (pv (.int (m_apartFromJibOf K S a b)) S)) ([.ref a, .ref b] : List Value).toArray s 0 0 (AE E)) E 4 6 [(0, .ref a), (1, .ref b), (2, .int n), (3, .int (nI j))] [] S 0 0 := by
    intro r
    induction r with
    | zero =>
      intro j n hj hq
      refine j_iload_n M dX0_apartFromJibOf_6 rfl ?_
      refine j_aload_n M dX0_apartFromJibOf_7 rfl ?_
      refine j_get (v := .int (sI S 9 a)) M haL (pAt_0 E _ haK) rfl inU_X0 9 (by decide) wF_X0_15 (fun _ h => h) rfl dX0_apartFromJibOf_8 ?_
      refine j_icmp_gt (tgt := 39) M dX0_apartFromJibOf_11 (by decide) (fun _ => ?_) (fun z => absurd (by rw [harm]; exact nI_lt (by omega) (by omega)) z)
      refine j_iload_n M dX0_apartFromJibOf_39 rfl ?_
      exact j_iret (v := n) M dX0_apartFromJibOf_40 (Nat.le_refl _) (Nat.le_refl _) ⟨congrArg (fun z => some (Value.int z)) (show n = m_apartFromJibOf K S a b from (hq.trans (by simp only [m_apartFromJibOf_lp])).symm), rfl⟩
    | succ r ih =>
      intro j n hj hq
      refine j_iload_n M dX0_apartFromJibOf_6 rfl ?_
      refine j_aload_n M dX0_apartFromJibOf_7 rfl ?_
      refine j_get (v := .int (sI S 9 a)) M haL (pAt_0 E _ haK) rfl inU_X0 9 (by decide) wF_X0_15 (fun _ h => h) rfl dX0_apartFromJibOf_8 ?_
      refine j_icmp_gt (tgt := 39) M dX0_apartFromJibOf_11 (by decide) (fun z => absurd z (by rw [harm]; exact nI_nlt (by omega) (by omega))) (fun _ => ?_)
      refine j_iload_n M dX0_apartFromJibOf_14 rfl ?_
      refine j_aload_n M dX0_apartFromJibOf_15 rfl ?_
      refine j_aload_n M dX0_apartFromJibOf_16 rfl ?_
      refine j_iload_n M dX0_apartFromJibOf_17 rfl ?_
      refine j_callV1 (As := [.int (nI j)]) M cf_X0_rowAt wM_X0_71 (c_rowAt hW haL haK (nI j)) haL (pAt_0 E _ haK) rfl rfl ⟨Nat.le_of_ble_eq_true rfl, Nat.le_of_ble_eq_true rfl⟩ (Nat.le_of_ble_eq_true rfl) ⟨Nat.zero_le _, Nat.zero_le _⟩ dX0_apartFromJibOf_18 rfl ?_
      refine j_aload_n M dX0_apartFromJibOf_21 rfl ?_
      refine j_iload_n M dX0_apartFromJibOf_22 rfl ?_
      refine j_callV1 (As := [.int (nI j)]) M cf_X0_columnAt wM_X0_74 (c_columnAt hW haL haK (nI j)) haL (pAt_0 E _ haK) rfl rfl ⟨Nat.le_of_ble_eq_true rfl, Nat.le_of_ble_eq_true rfl⟩ (Nat.le_of_ble_eq_true rfl) ⟨Nat.zero_le _, Nat.zero_le _⟩ dX0_apartFromJibOf_23 rfl ?_
      refine j_callV1 (As := [.int (m_rowAt K S a (nI j)), .int (m_columnAt K S a (nI j))]) M cf_X0_apartFromJib wM_X0_124 (c_apartFromJib hW hbL hbK (m_rowAt K S a (nI j)) (m_columnAt K S a (nI j))) hbL (pAt_0 E _ hbK) rfl rfl ⟨Nat.le_of_ble_eq_true rfl, Nat.le_of_ble_eq_true rfl⟩ (Nat.le_of_ble_eq_true rfl) ⟨Nat.zero_le _, Nat.zero_le _⟩ dX0_apartFromJibOf_26 rfl ?_
      refine j_min M wM_X0_85 dX0_apartFromJibOf_29 (Nat.le_of_ble_eq_true rfl) (Nat.le_of_ble_eq_true rfl) ⟨Nat.zero_le _, Nat.zero_le _⟩ ?_
      refine j_istore_n (lv' := [(2, .int (imin n (m_apartFromJib K S b (m_rowAt K S a (nI j)) (m_columnAt K S a (nI j))))), (0, .ref a), (1, .ref b), (3, .int (nI j))]) M dX0_apartFromJibOf_32 rfl (by decide) rfl ?_
      refine j_iinc (v := (nI (j + 1))) (lv' := [(3, .int (nI (j + 1))), (2, .int (imin n (m_apartFromJib K S b (m_rowAt K S a (nI j)) (m_columnAt K S a (nI j))))), (0, .ref a), (1, .ref b)]) M dX0_apartFromJibOf_33 rfl (nI_1 _) (by decide) rfl ?_
      refine j_goto (tgt := 6) M dX0_apartFromJibOf_36 (by decide) ?_
      refine j_pick [2, 3, 1, 0] rfl ?_
      exact ih (j + 1) (imin n (m_apartFromJib K S b (m_rowAt K S a (nI j)) (m_columnAt K S a (nI j)))) (by omega) (hq.trans (by simp only [m_apartFromJibOf_lp]))
  refine j_pick (lv' := [(0, .ref a), (1, .ref b), (2, .int 196), (3, .int (nI 0))]) [2, 3, 1, 0] rfl ?_
  exact lp ((sI S 9 a).toNatClampNeg + 1) 0 196 (by omega) (by unfold m_apartFromJibOf; rfl)
def m_clashRule (K : Nat → Nat) (S : PS) (a : Nat) (b : Nat) (t : Int32) : Int32 :=
  if (sI S 5 b) < (sI S 5 a) then
    if b = a then
      if 3 ≤ ((sI S 5 b) - (sI S 5 b)) then
        if ((sI S 5 b) + 2) ≤ (sI S 11 b) then
          if (m_sweepsOn K S a b t) = 0 then
            if (m_sweepsOn K S b a t) = 0 then
              0
            else
              3
          else
            3
        else
          if t < (m_apartFromJib K S b (m_rowAt K S b (sI S 10 b)) (m_columnAt K S b (sI S 10 b))) then
            if (m_sweepsOn K S a b t) = 0 then
              if (m_sweepsOn K S b a t) = 0 then
                0
              else
                3
            else
              3
          else
            2
      else
        if t < (m_apartFromJibOf K S b b) then
          if (m_sweepsOn K S a b t) = 0 then
            if (m_sweepsOn K S b a t) = 0 then
              0
            else
              3
          else
            3
        else
          1
    else
      if 3 ≤ ((sI S 5 a) - (sI S 5 b)) then
        if ((sI S 5 b) + 2) ≤ (sI S 11 a) then
          if (m_sweepsOn K S a b t) = 0 then
            if (m_sweepsOn K S b a t) = 0 then
              0
            else
              3
          else
            3
        else
          if t < (m_apartFromJib K S b (m_rowAt K S a (sI S 10 a)) (m_columnAt K S a (sI S 10 a))) then
            if (m_sweepsOn K S a b t) = 0 then
              if (m_sweepsOn K S b a t) = 0 then
                0
              else
                3
            else
              3
          else
            2
      else
        if t < (m_apartFromJibOf K S b a) then
          if (m_sweepsOn K S a b t) = 0 then
            if (m_sweepsOn K S b a t) = 0 then
              0
            else
              3
          else
            3
        else
          1
  else
    if 3 ≤ ((sI S 5 b) - (sI S 5 a)) then
      if ((sI S 5 a) + 2) ≤ (sI S 11 b) then
        if (m_sweepsOn K S a b t) = 0 then
          if (m_sweepsOn K S b a t) = 0 then
            0
          else
            3
        else
          3
      else
        if t < (m_apartFromJib K S a (m_rowAt K S b (sI S 10 b)) (m_columnAt K S b (sI S 10 b))) then
          if (m_sweepsOn K S a b t) = 0 then
            if (m_sweepsOn K S b a t) = 0 then
              0
            else
              3
          else
            3
        else
          2
    else
      if t < (m_apartFromJibOf K S a b) then
        if (m_sweepsOn K S a b t) = 0 then
          if (m_sweepsOn K S b a t) = 0 then
            0
          else
            3
        else
          3
      else
        1
theorem cf_X0_clashRule : CFv yX0_clashRule RX0 cX0_clashRule 5 (some .int) 2 := ⟨wC_X0_clashRule, wI_X0_clashRule, wV_X0_X0_clashRule, wN_X0, by decide +kernel⟩
set_option maxHeartbeats 4000000 in
set_option maxRecDepth 100000 in
theorem c_clashRule {l : Launch} {E : EV} {K : Nat → Nat} {S : PS} (hW : WS K S) (hA : AW S) (hM : WM S) {a : Nat} (haL : a ∈ sL S) (haK : sK S a = 0) {b : Nat} (hbL : b ∈ sL S) (hbK : sK S b = 0) (t : Int32) : CT l yX0_clashRule cX0_clashRule 5 (some .int) 3 64 0 0 E [.ref a, .ref b, .int t] S (pv (.int (m_clashRule K S a b t)) S) := by
  refine CT.of (by decide) (Nat.le_of_ble_eq_true rfl) ?_
  intro p e s m below meth c M hin
  have M : MC E p s m _ meth c cX0_clashRule RX0 5 (some .int) := M
  show J p l e _ s m _ below meth c _ E 5 0 [(0, .ref a), (1, .ref b), (2, .int t)] [] S 0 0
  refine j_aload_n M dX0_clashRule_0 rfl ?_
  refine j_get (v := .int (sI S 5 a)) M haL (pAt_0 E _ haK) rfl inU_X0 5 (by decide) wF_X0_59 (fun _ h => h) rfl dX0_clashRule_1 ?_
  refine j_aload_n M dX0_clashRule_4 rfl ?_
  refine j_get (v := .int (sI S 5 b)) M hbL (pAt_0 E _ hbK) rfl inU_X0 5 (by decide) wF_X0_59 (fun _ h => h) rfl dX0_clashRule_5 ?_
  refine j_icmp_gt (tgt := 15) M dX0_clashRule_8 (by decide) (fun c1 => ?_) (fun c1 => ?_)
  · refine j_aload_n M dX0_clashRule_15 rfl ?_
    refine j_astore_n (lv' := [(3, .ref b), (0, .ref a), (1, .ref b), (2, .int t)]) M dX0_clashRule_16 rfl (by decide) rfl ?_
    refine j_aload_n M dX0_clashRule_17 rfl ?_
    refine j_aload_n M dX0_clashRule_18 rfl ?_
    refine j_acmp_ne (tgt := 26) M dX0_clashRule_19 (by decide) (fun c2 => ?_) (fun c2 => ?_)
    · refine j_aload_n M dX0_clashRule_26 rfl ?_
      refine j_astore (lv' := [(4, .ref a), (3, .ref b), (0, .ref a), (1, .ref b), (2, .int t)]) M dX0_clashRule_27 (by decide) rfl ?_
      refine j_aload M dX0_clashRule_29 rfl ?_
      refine j_get (v := .int (sI S 5 a)) M haL (pAt_0 E _ haK) rfl inU_X0 5 (by decide) wF_X0_59 (fun _ h => h) rfl dX0_clashRule_31 ?_
      refine j_aload_n M dX0_clashRule_34 rfl ?_
      refine j_get (v := .int (sI S 5 b)) M hbL (pAt_0 E _ hbK) rfl inU_X0 5 (by decide) wF_X0_59 (fun _ h => h) rfl dX0_clashRule_35 ?_
      refine j_isub M dX0_clashRule_38 ?_
      refine j_iconst (v := 3) M dX0_clashRule_39 (by decide) ?_
      refine j_icmp_ge (tgt := 55) M dX0_clashRule_40 (by decide) (fun c3 => ?_) (fun c3 => ?_)
      · refine j_aload M dX0_clashRule_55 rfl ?_
        refine j_get (v := .int (sI S 11 a)) M haL (pAt_0 E _ haK) rfl inU_X0 11 (by decide) wF_X0_68 (fun _ h => h) rfl dX0_clashRule_57 ?_
        refine j_aload_n M dX0_clashRule_60 rfl ?_
        refine j_get (v := .int (sI S 5 b)) M hbL (pAt_0 E _ hbK) rfl inU_X0 5 (by decide) wF_X0_59 (fun _ h => h) rfl dX0_clashRule_61 ?_
        refine j_iconst (v := 2) M dX0_clashRule_64 (by decide) ?_
        refine j_iadd M dX0_clashRule_65 ?_
        refine j_icmp_ge (tgt := 99) M dX0_clashRule_66 (by decide) (fun c4 => ?_) (fun c4 => ?_)
        · refine j_aload_n M dX0_clashRule_99 rfl ?_
          refine j_aload_n M dX0_clashRule_100 rfl ?_
          refine j_iload_n M dX0_clashRule_101 rfl ?_
          refine j_callV1 (As := [.ref b, .int t]) M cf_X0_sweepsOn wM_X0_131 (c_sweepsOn hW haL haK hbL hbK t) haL (pAt_0 E _ haK) rfl rfl ⟨Nat.le_of_ble_eq_true rfl, Nat.le_of_ble_eq_true rfl⟩ (Nat.le_of_ble_eq_true rfl) ⟨Nat.zero_le _, Nat.zero_le _⟩ dX0_clashRule_102 rfl ?_
          refine j_if_ne (tgt := 117) M dX0_clashRule_105 (by decide) (fun c5 => ?_) (fun c5 => ?_)
          · refine j_iconst (v := 3) M dX0_clashRule_117 (by decide) ?_
            refine j_goto (tgt := 122) M dX0_clashRule_118 (by decide) ?_
            exact j_iret (v := 3) M dX0_clashRule_122 (Nat.le_refl _) (Nat.le_refl _) ⟨congrArg (fun z => some (Value.int z)) (show 3 = m_clashRule K S a b t from (by unfold m_clashRule; rw [if_pos c1, if_neg c2, if_pos c3, if_pos c4, if_neg c5])), rfl⟩
          · refine j_aload_n M dX0_clashRule_108 rfl ?_
            refine j_aload_n M dX0_clashRule_109 rfl ?_
            refine j_iload_n M dX0_clashRule_110 rfl ?_
            refine j_callV1 (As := [.ref a, .int t]) M cf_X0_sweepsOn wM_X0_131 (c_sweepsOn hW hbL hbK haL haK t) hbL (pAt_0 E _ hbK) rfl rfl ⟨Nat.le_of_ble_eq_true rfl, Nat.le_of_ble_eq_true rfl⟩ (Nat.le_of_ble_eq_true rfl) ⟨Nat.zero_le _, Nat.zero_le _⟩ dX0_clashRule_111 rfl ?_
            refine j_if_eq (tgt := 121) M dX0_clashRule_114 (by decide) (fun c6 => ?_) (fun c6 => ?_)
            · refine j_iconst (v := 0) M dX0_clashRule_121 (by decide) ?_
              exact j_iret (v := 0) M dX0_clashRule_122 (Nat.le_refl _) (Nat.le_refl _) ⟨congrArg (fun z => some (Value.int z)) (show 0 = m_clashRule K S a b t from (by unfold m_clashRule; rw [if_pos c1, if_neg c2, if_pos c3, if_pos c4, if_pos c5, if_pos c6])), rfl⟩
            · refine j_iconst (v := 3) M dX0_clashRule_117 (by decide) ?_
              refine j_goto (tgt := 122) M dX0_clashRule_118 (by decide) ?_
              exact j_iret (v := 3) M dX0_clashRule_122 (Nat.le_refl _) (Nat.le_refl _) ⟨congrArg (fun z => some (Value.int z)) (show 3 = m_clashRule K S a b t from (by unfold m_clashRule; rw [if_pos c1, if_neg c2, if_pos c3, if_pos c4, if_pos c5, if_neg c6])), rfl⟩
        · refine j_aload_n M dX0_clashRule_69 rfl ?_
          refine j_aload M dX0_clashRule_70 rfl ?_
          refine j_aload M dX0_clashRule_72 rfl ?_
          refine j_get (v := .int (sI S 10 a)) M haL (pAt_0 E _ haK) rfl inU_X0 10 (by decide) wF_X0_18 (fun _ h => h) rfl dX0_clashRule_74 ?_
          refine j_callV1 (As := [.int (sI S 10 a)]) M cf_X0_rowAt wM_X0_71 (c_rowAt hW haL haK (sI S 10 a)) haL (pAt_0 E _ haK) rfl rfl ⟨Nat.le_of_ble_eq_true rfl, Nat.le_of_ble_eq_true rfl⟩ (Nat.le_of_ble_eq_true rfl) ⟨Nat.zero_le _, Nat.zero_le _⟩ dX0_clashRule_77 rfl ?_
          refine j_aload M dX0_clashRule_80 rfl ?_
          refine j_aload M dX0_clashRule_82 rfl ?_
          refine j_get (v := .int (sI S 10 a)) M haL (pAt_0 E _ haK) rfl inU_X0 10 (by decide) wF_X0_18 (fun _ h => h) rfl dX0_clashRule_84 ?_
          refine j_callV1 (As := [.int (sI S 10 a)]) M cf_X0_columnAt wM_X0_74 (c_columnAt hW haL haK (sI S 10 a)) haL (pAt_0 E _ haK) rfl rfl ⟨Nat.le_of_ble_eq_true rfl, Nat.le_of_ble_eq_true rfl⟩ (Nat.le_of_ble_eq_true rfl) ⟨Nat.zero_le _, Nat.zero_le _⟩ dX0_clashRule_87 rfl ?_
          refine j_callV1 (As := [.int (m_rowAt K S a (sI S 10 a)), .int (m_columnAt K S a (sI S 10 a))]) M cf_X0_apartFromJib wM_X0_124 (c_apartFromJib hW hbL hbK (m_rowAt K S a (sI S 10 a)) (m_columnAt K S a (sI S 10 a))) hbL (pAt_0 E _ hbK) rfl rfl ⟨Nat.le_of_ble_eq_true rfl, Nat.le_of_ble_eq_true rfl⟩ (Nat.le_of_ble_eq_true rfl) ⟨Nat.zero_le _, Nat.zero_le _⟩ dX0_clashRule_90 rfl ?_
          refine j_iload_n M dX0_clashRule_93 rfl ?_
          refine j_icmp_gt (tgt := 99) M dX0_clashRule_94 (by decide) (fun c7 => ?_) (fun c7 => ?_)
          · refine j_aload_n M dX0_clashRule_99 rfl ?_
            refine j_aload_n M dX0_clashRule_100 rfl ?_
            refine j_iload_n M dX0_clashRule_101 rfl ?_
            refine j_callV1 (As := [.ref b, .int t]) M cf_X0_sweepsOn wM_X0_131 (c_sweepsOn hW haL haK hbL hbK t) haL (pAt_0 E _ haK) rfl rfl ⟨Nat.le_of_ble_eq_true rfl, Nat.le_of_ble_eq_true rfl⟩ (Nat.le_of_ble_eq_true rfl) ⟨Nat.zero_le _, Nat.zero_le _⟩ dX0_clashRule_102 rfl ?_
            refine j_if_ne (tgt := 117) M dX0_clashRule_105 (by decide) (fun c8 => ?_) (fun c8 => ?_)
            · refine j_iconst (v := 3) M dX0_clashRule_117 (by decide) ?_
              refine j_goto (tgt := 122) M dX0_clashRule_118 (by decide) ?_
              exact j_iret (v := 3) M dX0_clashRule_122 (Nat.le_refl _) (Nat.le_refl _) ⟨congrArg (fun z => some (Value.int z)) (show 3 = m_clashRule K S a b t from (by unfold m_clashRule; rw [if_pos c1, if_neg c2, if_pos c3, if_neg c4, if_pos c7, if_neg c8])), rfl⟩
            · refine j_aload_n M dX0_clashRule_108 rfl ?_
              refine j_aload_n M dX0_clashRule_109 rfl ?_
              refine j_iload_n M dX0_clashRule_110 rfl ?_
              refine j_callV1 (As := [.ref a, .int t]) M cf_X0_sweepsOn wM_X0_131 (c_sweepsOn hW hbL hbK haL haK t) hbL (pAt_0 E _ hbK) rfl rfl ⟨Nat.le_of_ble_eq_true rfl, Nat.le_of_ble_eq_true rfl⟩ (Nat.le_of_ble_eq_true rfl) ⟨Nat.zero_le _, Nat.zero_le _⟩ dX0_clashRule_111 rfl ?_
              refine j_if_eq (tgt := 121) M dX0_clashRule_114 (by decide) (fun c9 => ?_) (fun c9 => ?_)
              · refine j_iconst (v := 0) M dX0_clashRule_121 (by decide) ?_
                exact j_iret (v := 0) M dX0_clashRule_122 (Nat.le_refl _) (Nat.le_refl _) ⟨congrArg (fun z => some (Value.int z)) (show 0 = m_clashRule K S a b t from (by unfold m_clashRule; rw [if_pos c1, if_neg c2, if_pos c3, if_neg c4, if_pos c7, if_pos c8, if_pos c9])), rfl⟩
              · refine j_iconst (v := 3) M dX0_clashRule_117 (by decide) ?_
                refine j_goto (tgt := 122) M dX0_clashRule_118 (by decide) ?_
                exact j_iret (v := 3) M dX0_clashRule_122 (Nat.le_refl _) (Nat.le_refl _) ⟨congrArg (fun z => some (Value.int z)) (show 3 = m_clashRule K S a b t from (by unfold m_clashRule; rw [if_pos c1, if_neg c2, if_pos c3, if_neg c4, if_pos c7, if_pos c8, if_neg c9])), rfl⟩
          · refine j_iconst (v := 2) M dX0_clashRule_97 (by decide) ?_
            exact j_iret (v := 2) M dX0_clashRule_98 (Nat.le_refl _) (Nat.le_refl _) ⟨congrArg (fun z => some (Value.int z)) (show 2 = m_clashRule K S a b t from (by unfold m_clashRule; rw [if_pos c1, if_neg c2, if_pos c3, if_neg c4, if_neg c7])), rfl⟩
      · refine j_aload_n M dX0_clashRule_43 rfl ?_
        refine j_aload M dX0_clashRule_44 rfl ?_
        refine j_callV1 (As := [.ref a]) M cf_X0_apartFromJibOf wM_X0_127 (c_apartFromJibOf hW hA hM hbL hbK haL haK) hbL (pAt_0 E _ hbK) rfl rfl ⟨Nat.le_of_ble_eq_true rfl, Nat.le_of_ble_eq_true rfl⟩ (Nat.le_of_ble_eq_true rfl) ⟨Nat.zero_le _, Nat.zero_le _⟩ dX0_clashRule_46 rfl ?_
        refine j_iload_n M dX0_clashRule_49 rfl ?_
        refine j_icmp_gt (tgt := 99) M dX0_clashRule_50 (by decide) (fun c10 => ?_) (fun c10 => ?_)
        · refine j_aload_n M dX0_clashRule_99 rfl ?_
          refine j_aload_n M dX0_clashRule_100 rfl ?_
          refine j_iload_n M dX0_clashRule_101 rfl ?_
          refine j_callV1 (As := [.ref b, .int t]) M cf_X0_sweepsOn wM_X0_131 (c_sweepsOn hW haL haK hbL hbK t) haL (pAt_0 E _ haK) rfl rfl ⟨Nat.le_of_ble_eq_true rfl, Nat.le_of_ble_eq_true rfl⟩ (Nat.le_of_ble_eq_true rfl) ⟨Nat.zero_le _, Nat.zero_le _⟩ dX0_clashRule_102 rfl ?_
          refine j_if_ne (tgt := 117) M dX0_clashRule_105 (by decide) (fun c11 => ?_) (fun c11 => ?_)
          · refine j_iconst (v := 3) M dX0_clashRule_117 (by decide) ?_
            refine j_goto (tgt := 122) M dX0_clashRule_118 (by decide) ?_
            exact j_iret (v := 3) M dX0_clashRule_122 (Nat.le_refl _) (Nat.le_refl _) ⟨congrArg (fun z => some (Value.int z)) (show 3 = m_clashRule K S a b t from (by unfold m_clashRule; rw [if_pos c1, if_neg c2, if_neg c3, if_pos c10, if_neg c11])), rfl⟩
          · refine j_aload_n M dX0_clashRule_108 rfl ?_
            refine j_aload_n M dX0_clashRule_109 rfl ?_
            refine j_iload_n M dX0_clashRule_110 rfl ?_
            refine j_callV1 (As := [.ref a, .int t]) M cf_X0_sweepsOn wM_X0_131 (c_sweepsOn hW hbL hbK haL haK t) hbL (pAt_0 E _ hbK) rfl rfl ⟨Nat.le_of_ble_eq_true rfl, Nat.le_of_ble_eq_true rfl⟩ (Nat.le_of_ble_eq_true rfl) ⟨Nat.zero_le _, Nat.zero_le _⟩ dX0_clashRule_111 rfl ?_
            refine j_if_eq (tgt := 121) M dX0_clashRule_114 (by decide) (fun c12 => ?_) (fun c12 => ?_)
            · refine j_iconst (v := 0) M dX0_clashRule_121 (by decide) ?_
              exact j_iret (v := 0) M dX0_clashRule_122 (Nat.le_refl _) (Nat.le_refl _) ⟨congrArg (fun z => some (Value.int z)) (show 0 = m_clashRule K S a b t from (by unfold m_clashRule; rw [if_pos c1, if_neg c2, if_neg c3, if_pos c10, if_pos c11, if_pos c12])), rfl⟩
            · refine j_iconst (v := 3) M dX0_clashRule_117 (by decide) ?_
              refine j_goto (tgt := 122) M dX0_clashRule_118 (by decide) ?_
              exact j_iret (v := 3) M dX0_clashRule_122 (Nat.le_refl _) (Nat.le_refl _) ⟨congrArg (fun z => some (Value.int z)) (show 3 = m_clashRule K S a b t from (by unfold m_clashRule; rw [if_pos c1, if_neg c2, if_neg c3, if_pos c10, if_pos c11, if_neg c12])), rfl⟩
        · refine j_iconst (v := 1) M dX0_clashRule_53 (by decide) ?_
          exact j_iret (v := 1) M dX0_clashRule_54 (Nat.le_refl _) (Nat.le_refl _) ⟨congrArg (fun z => some (Value.int z)) (show 1 = m_clashRule K S a b t from (by unfold m_clashRule; rw [if_pos c1, if_neg c2, if_neg c3, if_neg c10])), rfl⟩
    · refine j_aload_n M dX0_clashRule_22 rfl ?_
      refine j_goto (tgt := 27) M dX0_clashRule_23 (by decide) ?_
      refine j_astore (lv' := [(4, .ref b), (3, .ref b), (0, .ref a), (1, .ref b), (2, .int t)]) M dX0_clashRule_27 (by decide) rfl ?_
      refine j_aload M dX0_clashRule_29 rfl ?_
      refine j_get (v := .int (sI S 5 b)) M hbL (pAt_0 E _ hbK) rfl inU_X0 5 (by decide) wF_X0_59 (fun _ h => h) rfl dX0_clashRule_31 ?_
      refine j_aload_n M dX0_clashRule_34 rfl ?_
      refine j_get (v := .int (sI S 5 b)) M hbL (pAt_0 E _ hbK) rfl inU_X0 5 (by decide) wF_X0_59 (fun _ h => h) rfl dX0_clashRule_35 ?_
      refine j_isub M dX0_clashRule_38 ?_
      refine j_iconst (v := 3) M dX0_clashRule_39 (by decide) ?_
      refine j_icmp_ge (tgt := 55) M dX0_clashRule_40 (by decide) (fun c13 => ?_) (fun c13 => ?_)
      · refine j_aload M dX0_clashRule_55 rfl ?_
        refine j_get (v := .int (sI S 11 b)) M hbL (pAt_0 E _ hbK) rfl inU_X0 11 (by decide) wF_X0_68 (fun _ h => h) rfl dX0_clashRule_57 ?_
        refine j_aload_n M dX0_clashRule_60 rfl ?_
        refine j_get (v := .int (sI S 5 b)) M hbL (pAt_0 E _ hbK) rfl inU_X0 5 (by decide) wF_X0_59 (fun _ h => h) rfl dX0_clashRule_61 ?_
        refine j_iconst (v := 2) M dX0_clashRule_64 (by decide) ?_
        refine j_iadd M dX0_clashRule_65 ?_
        refine j_icmp_ge (tgt := 99) M dX0_clashRule_66 (by decide) (fun c14 => ?_) (fun c14 => ?_)
        · refine j_aload_n M dX0_clashRule_99 rfl ?_
          refine j_aload_n M dX0_clashRule_100 rfl ?_
          refine j_iload_n M dX0_clashRule_101 rfl ?_
          refine j_callV1 (As := [.ref b, .int t]) M cf_X0_sweepsOn wM_X0_131 (c_sweepsOn hW haL haK hbL hbK t) haL (pAt_0 E _ haK) rfl rfl ⟨Nat.le_of_ble_eq_true rfl, Nat.le_of_ble_eq_true rfl⟩ (Nat.le_of_ble_eq_true rfl) ⟨Nat.zero_le _, Nat.zero_le _⟩ dX0_clashRule_102 rfl ?_
          refine j_if_ne (tgt := 117) M dX0_clashRule_105 (by decide) (fun c15 => ?_) (fun c15 => ?_)
          · refine j_iconst (v := 3) M dX0_clashRule_117 (by decide) ?_
            refine j_goto (tgt := 122) M dX0_clashRule_118 (by decide) ?_
            exact j_iret (v := 3) M dX0_clashRule_122 (Nat.le_refl _) (Nat.le_refl _) ⟨congrArg (fun z => some (Value.int z)) (show 3 = m_clashRule K S a b t from (by unfold m_clashRule; rw [if_pos c1, if_pos c2, if_pos c13, if_pos c14, if_neg c15])), rfl⟩
          · refine j_aload_n M dX0_clashRule_108 rfl ?_
            refine j_aload_n M dX0_clashRule_109 rfl ?_
            refine j_iload_n M dX0_clashRule_110 rfl ?_
            refine j_callV1 (As := [.ref a, .int t]) M cf_X0_sweepsOn wM_X0_131 (c_sweepsOn hW hbL hbK haL haK t) hbL (pAt_0 E _ hbK) rfl rfl ⟨Nat.le_of_ble_eq_true rfl, Nat.le_of_ble_eq_true rfl⟩ (Nat.le_of_ble_eq_true rfl) ⟨Nat.zero_le _, Nat.zero_le _⟩ dX0_clashRule_111 rfl ?_
            refine j_if_eq (tgt := 121) M dX0_clashRule_114 (by decide) (fun c16 => ?_) (fun c16 => ?_)
            · refine j_iconst (v := 0) M dX0_clashRule_121 (by decide) ?_
              exact j_iret (v := 0) M dX0_clashRule_122 (Nat.le_refl _) (Nat.le_refl _) ⟨congrArg (fun z => some (Value.int z)) (show 0 = m_clashRule K S a b t from (by unfold m_clashRule; rw [if_pos c1, if_pos c2, if_pos c13, if_pos c14, if_pos c15, if_pos c16])), rfl⟩
            · refine j_iconst (v := 3) M dX0_clashRule_117 (by decide) ?_
              refine j_goto (tgt := 122) M dX0_clashRule_118 (by decide) ?_
              exact j_iret (v := 3) M dX0_clashRule_122 (Nat.le_refl _) (Nat.le_refl _) ⟨congrArg (fun z => some (Value.int z)) (show 3 = m_clashRule K S a b t from (by unfold m_clashRule; rw [if_pos c1, if_pos c2, if_pos c13, if_pos c14, if_pos c15, if_neg c16])), rfl⟩
        · refine j_aload_n M dX0_clashRule_69 rfl ?_
          refine j_aload M dX0_clashRule_70 rfl ?_
          refine j_aload M dX0_clashRule_72 rfl ?_
          refine j_get (v := .int (sI S 10 b)) M hbL (pAt_0 E _ hbK) rfl inU_X0 10 (by decide) wF_X0_18 (fun _ h => h) rfl dX0_clashRule_74 ?_
          refine j_callV1 (As := [.int (sI S 10 b)]) M cf_X0_rowAt wM_X0_71 (c_rowAt hW hbL hbK (sI S 10 b)) hbL (pAt_0 E _ hbK) rfl rfl ⟨Nat.le_of_ble_eq_true rfl, Nat.le_of_ble_eq_true rfl⟩ (Nat.le_of_ble_eq_true rfl) ⟨Nat.zero_le _, Nat.zero_le _⟩ dX0_clashRule_77 rfl ?_
          refine j_aload M dX0_clashRule_80 rfl ?_
          refine j_aload M dX0_clashRule_82 rfl ?_
          refine j_get (v := .int (sI S 10 b)) M hbL (pAt_0 E _ hbK) rfl inU_X0 10 (by decide) wF_X0_18 (fun _ h => h) rfl dX0_clashRule_84 ?_
          refine j_callV1 (As := [.int (sI S 10 b)]) M cf_X0_columnAt wM_X0_74 (c_columnAt hW hbL hbK (sI S 10 b)) hbL (pAt_0 E _ hbK) rfl rfl ⟨Nat.le_of_ble_eq_true rfl, Nat.le_of_ble_eq_true rfl⟩ (Nat.le_of_ble_eq_true rfl) ⟨Nat.zero_le _, Nat.zero_le _⟩ dX0_clashRule_87 rfl ?_
          refine j_callV1 (As := [.int (m_rowAt K S b (sI S 10 b)), .int (m_columnAt K S b (sI S 10 b))]) M cf_X0_apartFromJib wM_X0_124 (c_apartFromJib hW hbL hbK (m_rowAt K S b (sI S 10 b)) (m_columnAt K S b (sI S 10 b))) hbL (pAt_0 E _ hbK) rfl rfl ⟨Nat.le_of_ble_eq_true rfl, Nat.le_of_ble_eq_true rfl⟩ (Nat.le_of_ble_eq_true rfl) ⟨Nat.zero_le _, Nat.zero_le _⟩ dX0_clashRule_90 rfl ?_
          refine j_iload_n M dX0_clashRule_93 rfl ?_
          refine j_icmp_gt (tgt := 99) M dX0_clashRule_94 (by decide) (fun c17 => ?_) (fun c17 => ?_)
          · refine j_aload_n M dX0_clashRule_99 rfl ?_
            refine j_aload_n M dX0_clashRule_100 rfl ?_
            refine j_iload_n M dX0_clashRule_101 rfl ?_
            refine j_callV1 (As := [.ref b, .int t]) M cf_X0_sweepsOn wM_X0_131 (c_sweepsOn hW haL haK hbL hbK t) haL (pAt_0 E _ haK) rfl rfl ⟨Nat.le_of_ble_eq_true rfl, Nat.le_of_ble_eq_true rfl⟩ (Nat.le_of_ble_eq_true rfl) ⟨Nat.zero_le _, Nat.zero_le _⟩ dX0_clashRule_102 rfl ?_
            refine j_if_ne (tgt := 117) M dX0_clashRule_105 (by decide) (fun c18 => ?_) (fun c18 => ?_)
            · refine j_iconst (v := 3) M dX0_clashRule_117 (by decide) ?_
              refine j_goto (tgt := 122) M dX0_clashRule_118 (by decide) ?_
              exact j_iret (v := 3) M dX0_clashRule_122 (Nat.le_refl _) (Nat.le_refl _) ⟨congrArg (fun z => some (Value.int z)) (show 3 = m_clashRule K S a b t from (by unfold m_clashRule; rw [if_pos c1, if_pos c2, if_pos c13, if_neg c14, if_pos c17, if_neg c18])), rfl⟩
            · refine j_aload_n M dX0_clashRule_108 rfl ?_
              refine j_aload_n M dX0_clashRule_109 rfl ?_
              refine j_iload_n M dX0_clashRule_110 rfl ?_
              refine j_callV1 (As := [.ref a, .int t]) M cf_X0_sweepsOn wM_X0_131 (c_sweepsOn hW hbL hbK haL haK t) hbL (pAt_0 E _ hbK) rfl rfl ⟨Nat.le_of_ble_eq_true rfl, Nat.le_of_ble_eq_true rfl⟩ (Nat.le_of_ble_eq_true rfl) ⟨Nat.zero_le _, Nat.zero_le _⟩ dX0_clashRule_111 rfl ?_
              refine j_if_eq (tgt := 121) M dX0_clashRule_114 (by decide) (fun c19 => ?_) (fun c19 => ?_)
              · refine j_iconst (v := 0) M dX0_clashRule_121 (by decide) ?_
                exact j_iret (v := 0) M dX0_clashRule_122 (Nat.le_refl _) (Nat.le_refl _) ⟨congrArg (fun z => some (Value.int z)) (show 0 = m_clashRule K S a b t from (by unfold m_clashRule; rw [if_pos c1, if_pos c2, if_pos c13, if_neg c14, if_pos c17, if_pos c18, if_pos c19])), rfl⟩
              · refine j_iconst (v := 3) M dX0_clashRule_117 (by decide) ?_
                refine j_goto (tgt := 122) M dX0_clashRule_118 (by decide) ?_
                exact j_iret (v := 3) M dX0_clashRule_122 (Nat.le_refl _) (Nat.le_refl _) ⟨congrArg (fun z => some (Value.int z)) (show 3 = m_clashRule K S a b t from (by unfold m_clashRule; rw [if_pos c1, if_pos c2, if_pos c13, if_neg c14, if_pos c17, if_pos c18, if_neg c19])), rfl⟩
          · refine j_iconst (v := 2) M dX0_clashRule_97 (by decide) ?_
            exact j_iret (v := 2) M dX0_clashRule_98 (Nat.le_refl _) (Nat.le_refl _) ⟨congrArg (fun z => some (Value.int z)) (show 2 = m_clashRule K S a b t from (by unfold m_clashRule; rw [if_pos c1, if_pos c2, if_pos c13, if_neg c14, if_neg c17])), rfl⟩
      · refine j_aload_n M dX0_clashRule_43 rfl ?_
        refine j_aload M dX0_clashRule_44 rfl ?_
        refine j_callV1 (As := [.ref b]) M cf_X0_apartFromJibOf wM_X0_127 (c_apartFromJibOf hW hA hM hbL hbK hbL hbK) hbL (pAt_0 E _ hbK) rfl rfl ⟨Nat.le_of_ble_eq_true rfl, Nat.le_of_ble_eq_true rfl⟩ (Nat.le_of_ble_eq_true rfl) ⟨Nat.zero_le _, Nat.zero_le _⟩ dX0_clashRule_46 rfl ?_
        refine j_iload_n M dX0_clashRule_49 rfl ?_
        refine j_icmp_gt (tgt := 99) M dX0_clashRule_50 (by decide) (fun c20 => ?_) (fun c20 => ?_)
        · refine j_aload_n M dX0_clashRule_99 rfl ?_
          refine j_aload_n M dX0_clashRule_100 rfl ?_
          refine j_iload_n M dX0_clashRule_101 rfl ?_
          refine j_callV1 (As := [.ref b, .int t]) M cf_X0_sweepsOn wM_X0_131 (c_sweepsOn hW haL haK hbL hbK t) haL (pAt_0 E _ haK) rfl rfl ⟨Nat.le_of_ble_eq_true rfl, Nat.le_of_ble_eq_true rfl⟩ (Nat.le_of_ble_eq_true rfl) ⟨Nat.zero_le _, Nat.zero_le _⟩ dX0_clashRule_102 rfl ?_
          refine j_if_ne (tgt := 117) M dX0_clashRule_105 (by decide) (fun c21 => ?_) (fun c21 => ?_)
          · refine j_iconst (v := 3) M dX0_clashRule_117 (by decide) ?_
            refine j_goto (tgt := 122) M dX0_clashRule_118 (by decide) ?_
            exact j_iret (v := 3) M dX0_clashRule_122 (Nat.le_refl _) (Nat.le_refl _) ⟨congrArg (fun z => some (Value.int z)) (show 3 = m_clashRule K S a b t from (by unfold m_clashRule; rw [if_pos c1, if_pos c2, if_neg c13, if_pos c20, if_neg c21])), rfl⟩
          · refine j_aload_n M dX0_clashRule_108 rfl ?_
            refine j_aload_n M dX0_clashRule_109 rfl ?_
            refine j_iload_n M dX0_clashRule_110 rfl ?_
            refine j_callV1 (As := [.ref a, .int t]) M cf_X0_sweepsOn wM_X0_131 (c_sweepsOn hW hbL hbK haL haK t) hbL (pAt_0 E _ hbK) rfl rfl ⟨Nat.le_of_ble_eq_true rfl, Nat.le_of_ble_eq_true rfl⟩ (Nat.le_of_ble_eq_true rfl) ⟨Nat.zero_le _, Nat.zero_le _⟩ dX0_clashRule_111 rfl ?_
            refine j_if_eq (tgt := 121) M dX0_clashRule_114 (by decide) (fun c22 => ?_) (fun c22 => ?_)
            · refine j_iconst (v := 0) M dX0_clashRule_121 (by decide) ?_
              exact j_iret (v := 0) M dX0_clashRule_122 (Nat.le_refl _) (Nat.le_refl _) ⟨congrArg (fun z => some (Value.int z)) (show 0 = m_clashRule K S a b t from (by unfold m_clashRule; rw [if_pos c1, if_pos c2, if_neg c13, if_pos c20, if_pos c21, if_pos c22])), rfl⟩
            · refine j_iconst (v := 3) M dX0_clashRule_117 (by decide) ?_
              refine j_goto (tgt := 122) M dX0_clashRule_118 (by decide) ?_
              exact j_iret (v := 3) M dX0_clashRule_122 (Nat.le_refl _) (Nat.le_refl _) ⟨congrArg (fun z => some (Value.int z)) (show 3 = m_clashRule K S a b t from (by unfold m_clashRule; rw [if_pos c1, if_pos c2, if_neg c13, if_pos c20, if_pos c21, if_neg c22])), rfl⟩
        · refine j_iconst (v := 1) M dX0_clashRule_53 (by decide) ?_
          exact j_iret (v := 1) M dX0_clashRule_54 (Nat.le_refl _) (Nat.le_refl _) ⟨congrArg (fun z => some (Value.int z)) (show 1 = m_clashRule K S a b t from (by unfold m_clashRule; rw [if_pos c1, if_pos c2, if_neg c13, if_neg c20])), rfl⟩
  · refine j_aload_n M dX0_clashRule_11 rfl ?_
    refine j_goto (tgt := 16) M dX0_clashRule_12 (by decide) ?_
    refine j_astore_n (lv' := [(3, .ref a), (0, .ref a), (1, .ref b), (2, .int t)]) M dX0_clashRule_16 rfl (by decide) rfl ?_
    refine j_aload_n M dX0_clashRule_17 rfl ?_
    refine j_aload_n M dX0_clashRule_18 rfl ?_
    refine j_acmp_ne (tgt := 26) M dX0_clashRule_19 (by decide) (fun z => absurd rfl z) (fun _ => ?_)
    refine j_aload_n M dX0_clashRule_22 rfl ?_
    refine j_goto (tgt := 27) M dX0_clashRule_23 (by decide) ?_
    refine j_astore (lv' := [(4, .ref b), (3, .ref a), (0, .ref a), (1, .ref b), (2, .int t)]) M dX0_clashRule_27 (by decide) rfl ?_
    refine j_aload M dX0_clashRule_29 rfl ?_
    refine j_get (v := .int (sI S 5 b)) M hbL (pAt_0 E _ hbK) rfl inU_X0 5 (by decide) wF_X0_59 (fun _ h => h) rfl dX0_clashRule_31 ?_
    refine j_aload_n M dX0_clashRule_34 rfl ?_
    refine j_get (v := .int (sI S 5 a)) M haL (pAt_0 E _ haK) rfl inU_X0 5 (by decide) wF_X0_59 (fun _ h => h) rfl dX0_clashRule_35 ?_
    refine j_isub M dX0_clashRule_38 ?_
    refine j_iconst (v := 3) M dX0_clashRule_39 (by decide) ?_
    refine j_icmp_ge (tgt := 55) M dX0_clashRule_40 (by decide) (fun c23 => ?_) (fun c23 => ?_)
    · refine j_aload M dX0_clashRule_55 rfl ?_
      refine j_get (v := .int (sI S 11 b)) M hbL (pAt_0 E _ hbK) rfl inU_X0 11 (by decide) wF_X0_68 (fun _ h => h) rfl dX0_clashRule_57 ?_
      refine j_aload_n M dX0_clashRule_60 rfl ?_
      refine j_get (v := .int (sI S 5 a)) M haL (pAt_0 E _ haK) rfl inU_X0 5 (by decide) wF_X0_59 (fun _ h => h) rfl dX0_clashRule_61 ?_
      refine j_iconst (v := 2) M dX0_clashRule_64 (by decide) ?_
      refine j_iadd M dX0_clashRule_65 ?_
      refine j_icmp_ge (tgt := 99) M dX0_clashRule_66 (by decide) (fun c24 => ?_) (fun c24 => ?_)
      · refine j_aload_n M dX0_clashRule_99 rfl ?_
        refine j_aload_n M dX0_clashRule_100 rfl ?_
        refine j_iload_n M dX0_clashRule_101 rfl ?_
        refine j_callV1 (As := [.ref b, .int t]) M cf_X0_sweepsOn wM_X0_131 (c_sweepsOn hW haL haK hbL hbK t) haL (pAt_0 E _ haK) rfl rfl ⟨Nat.le_of_ble_eq_true rfl, Nat.le_of_ble_eq_true rfl⟩ (Nat.le_of_ble_eq_true rfl) ⟨Nat.zero_le _, Nat.zero_le _⟩ dX0_clashRule_102 rfl ?_
        refine j_if_ne (tgt := 117) M dX0_clashRule_105 (by decide) (fun c25 => ?_) (fun c25 => ?_)
        · refine j_iconst (v := 3) M dX0_clashRule_117 (by decide) ?_
          refine j_goto (tgt := 122) M dX0_clashRule_118 (by decide) ?_
          exact j_iret (v := 3) M dX0_clashRule_122 (Nat.le_refl _) (Nat.le_refl _) ⟨congrArg (fun z => some (Value.int z)) (show 3 = m_clashRule K S a b t from (by unfold m_clashRule; rw [if_neg c1, if_pos c23, if_pos c24, if_neg c25])), rfl⟩
        · refine j_aload_n M dX0_clashRule_108 rfl ?_
          refine j_aload_n M dX0_clashRule_109 rfl ?_
          refine j_iload_n M dX0_clashRule_110 rfl ?_
          refine j_callV1 (As := [.ref a, .int t]) M cf_X0_sweepsOn wM_X0_131 (c_sweepsOn hW hbL hbK haL haK t) hbL (pAt_0 E _ hbK) rfl rfl ⟨Nat.le_of_ble_eq_true rfl, Nat.le_of_ble_eq_true rfl⟩ (Nat.le_of_ble_eq_true rfl) ⟨Nat.zero_le _, Nat.zero_le _⟩ dX0_clashRule_111 rfl ?_
          refine j_if_eq (tgt := 121) M dX0_clashRule_114 (by decide) (fun c26 => ?_) (fun c26 => ?_)
          · refine j_iconst (v := 0) M dX0_clashRule_121 (by decide) ?_
            exact j_iret (v := 0) M dX0_clashRule_122 (Nat.le_refl _) (Nat.le_refl _) ⟨congrArg (fun z => some (Value.int z)) (show 0 = m_clashRule K S a b t from (by unfold m_clashRule; rw [if_neg c1, if_pos c23, if_pos c24, if_pos c25, if_pos c26])), rfl⟩
          · refine j_iconst (v := 3) M dX0_clashRule_117 (by decide) ?_
            refine j_goto (tgt := 122) M dX0_clashRule_118 (by decide) ?_
            exact j_iret (v := 3) M dX0_clashRule_122 (Nat.le_refl _) (Nat.le_refl _) ⟨congrArg (fun z => some (Value.int z)) (show 3 = m_clashRule K S a b t from (by unfold m_clashRule; rw [if_neg c1, if_pos c23, if_pos c24, if_pos c25, if_neg c26])), rfl⟩
      · refine j_aload_n M dX0_clashRule_69 rfl ?_
        refine j_aload M dX0_clashRule_70 rfl ?_
        refine j_aload M dX0_clashRule_72 rfl ?_
        refine j_get (v := .int (sI S 10 b)) M hbL (pAt_0 E _ hbK) rfl inU_X0 10 (by decide) wF_X0_18 (fun _ h => h) rfl dX0_clashRule_74 ?_
        refine j_callV1 (As := [.int (sI S 10 b)]) M cf_X0_rowAt wM_X0_71 (c_rowAt hW hbL hbK (sI S 10 b)) hbL (pAt_0 E _ hbK) rfl rfl ⟨Nat.le_of_ble_eq_true rfl, Nat.le_of_ble_eq_true rfl⟩ (Nat.le_of_ble_eq_true rfl) ⟨Nat.zero_le _, Nat.zero_le _⟩ dX0_clashRule_77 rfl ?_
        refine j_aload M dX0_clashRule_80 rfl ?_
        refine j_aload M dX0_clashRule_82 rfl ?_
        refine j_get (v := .int (sI S 10 b)) M hbL (pAt_0 E _ hbK) rfl inU_X0 10 (by decide) wF_X0_18 (fun _ h => h) rfl dX0_clashRule_84 ?_
        refine j_callV1 (As := [.int (sI S 10 b)]) M cf_X0_columnAt wM_X0_74 (c_columnAt hW hbL hbK (sI S 10 b)) hbL (pAt_0 E _ hbK) rfl rfl ⟨Nat.le_of_ble_eq_true rfl, Nat.le_of_ble_eq_true rfl⟩ (Nat.le_of_ble_eq_true rfl) ⟨Nat.zero_le _, Nat.zero_le _⟩ dX0_clashRule_87 rfl ?_
        refine j_callV1 (As := [.int (m_rowAt K S b (sI S 10 b)), .int (m_columnAt K S b (sI S 10 b))]) M cf_X0_apartFromJib wM_X0_124 (c_apartFromJib hW haL haK (m_rowAt K S b (sI S 10 b)) (m_columnAt K S b (sI S 10 b))) haL (pAt_0 E _ haK) rfl rfl ⟨Nat.le_of_ble_eq_true rfl, Nat.le_of_ble_eq_true rfl⟩ (Nat.le_of_ble_eq_true rfl) ⟨Nat.zero_le _, Nat.zero_le _⟩ dX0_clashRule_90 rfl ?_
        refine j_iload_n M dX0_clashRule_93 rfl ?_
        refine j_icmp_gt (tgt := 99) M dX0_clashRule_94 (by decide) (fun c27 => ?_) (fun c27 => ?_)
        · refine j_aload_n M dX0_clashRule_99 rfl ?_
          refine j_aload_n M dX0_clashRule_100 rfl ?_
          refine j_iload_n M dX0_clashRule_101 rfl ?_
          refine j_callV1 (As := [.ref b, .int t]) M cf_X0_sweepsOn wM_X0_131 (c_sweepsOn hW haL haK hbL hbK t) haL (pAt_0 E _ haK) rfl rfl ⟨Nat.le_of_ble_eq_true rfl, Nat.le_of_ble_eq_true rfl⟩ (Nat.le_of_ble_eq_true rfl) ⟨Nat.zero_le _, Nat.zero_le _⟩ dX0_clashRule_102 rfl ?_
          refine j_if_ne (tgt := 117) M dX0_clashRule_105 (by decide) (fun c28 => ?_) (fun c28 => ?_)
          · refine j_iconst (v := 3) M dX0_clashRule_117 (by decide) ?_
            refine j_goto (tgt := 122) M dX0_clashRule_118 (by decide) ?_
            exact j_iret (v := 3) M dX0_clashRule_122 (Nat.le_refl _) (Nat.le_refl _) ⟨congrArg (fun z => some (Value.int z)) (show 3 = m_clashRule K S a b t from (by unfold m_clashRule; rw [if_neg c1, if_pos c23, if_neg c24, if_pos c27, if_neg c28])), rfl⟩
          · refine j_aload_n M dX0_clashRule_108 rfl ?_
            refine j_aload_n M dX0_clashRule_109 rfl ?_
            refine j_iload_n M dX0_clashRule_110 rfl ?_
            refine j_callV1 (As := [.ref a, .int t]) M cf_X0_sweepsOn wM_X0_131 (c_sweepsOn hW hbL hbK haL haK t) hbL (pAt_0 E _ hbK) rfl rfl ⟨Nat.le_of_ble_eq_true rfl, Nat.le_of_ble_eq_true rfl⟩ (Nat.le_of_ble_eq_true rfl) ⟨Nat.zero_le _, Nat.zero_le _⟩ dX0_clashRule_111 rfl ?_
            refine j_if_eq (tgt := 121) M dX0_clashRule_114 (by decide) (fun c29 => ?_) (fun c29 => ?_)
            · refine j_iconst (v := 0) M dX0_clashRule_121 (by decide) ?_
              exact j_iret (v := 0) M dX0_clashRule_122 (Nat.le_refl _) (Nat.le_refl _) ⟨congrArg (fun z => some (Value.int z)) (show 0 = m_clashRule K S a b t from (by unfold m_clashRule; rw [if_neg c1, if_pos c23, if_neg c24, if_pos c27, if_pos c28, if_pos c29])), rfl⟩
            · refine j_iconst (v := 3) M dX0_clashRule_117 (by decide) ?_
              refine j_goto (tgt := 122) M dX0_clashRule_118 (by decide) ?_
              exact j_iret (v := 3) M dX0_clashRule_122 (Nat.le_refl _) (Nat.le_refl _) ⟨congrArg (fun z => some (Value.int z)) (show 3 = m_clashRule K S a b t from (by unfold m_clashRule; rw [if_neg c1, if_pos c23, if_neg c24, if_pos c27, if_pos c28, if_neg c29])), rfl⟩
        · refine j_iconst (v := 2) M dX0_clashRule_97 (by decide) ?_
          exact j_iret (v := 2) M dX0_clashRule_98 (Nat.le_refl _) (Nat.le_refl _) ⟨congrArg (fun z => some (Value.int z)) (show 2 = m_clashRule K S a b t from (by unfold m_clashRule; rw [if_neg c1, if_pos c23, if_neg c24, if_neg c27])), rfl⟩
    · refine j_aload_n M dX0_clashRule_43 rfl ?_
      refine j_aload M dX0_clashRule_44 rfl ?_
      refine j_callV1 (As := [.ref b]) M cf_X0_apartFromJibOf wM_X0_127 (c_apartFromJibOf hW hA hM haL haK hbL hbK) haL (pAt_0 E _ haK) rfl rfl ⟨Nat.le_of_ble_eq_true rfl, Nat.le_of_ble_eq_true rfl⟩ (Nat.le_of_ble_eq_true rfl) ⟨Nat.zero_le _, Nat.zero_le _⟩ dX0_clashRule_46 rfl ?_
      refine j_iload_n M dX0_clashRule_49 rfl ?_
      refine j_icmp_gt (tgt := 99) M dX0_clashRule_50 (by decide) (fun c30 => ?_) (fun c30 => ?_)
      · refine j_aload_n M dX0_clashRule_99 rfl ?_
        refine j_aload_n M dX0_clashRule_100 rfl ?_
        refine j_iload_n M dX0_clashRule_101 rfl ?_
        refine j_callV1 (As := [.ref b, .int t]) M cf_X0_sweepsOn wM_X0_131 (c_sweepsOn hW haL haK hbL hbK t) haL (pAt_0 E _ haK) rfl rfl ⟨Nat.le_of_ble_eq_true rfl, Nat.le_of_ble_eq_true rfl⟩ (Nat.le_of_ble_eq_true rfl) ⟨Nat.zero_le _, Nat.zero_le _⟩ dX0_clashRule_102 rfl ?_
        refine j_if_ne (tgt := 117) M dX0_clashRule_105 (by decide) (fun c31 => ?_) (fun c31 => ?_)
        · refine j_iconst (v := 3) M dX0_clashRule_117 (by decide) ?_
          refine j_goto (tgt := 122) M dX0_clashRule_118 (by decide) ?_
          exact j_iret (v := 3) M dX0_clashRule_122 (Nat.le_refl _) (Nat.le_refl _) ⟨congrArg (fun z => some (Value.int z)) (show 3 = m_clashRule K S a b t from (by unfold m_clashRule; rw [if_neg c1, if_neg c23, if_pos c30, if_neg c31])), rfl⟩
        · refine j_aload_n M dX0_clashRule_108 rfl ?_
          refine j_aload_n M dX0_clashRule_109 rfl ?_
          refine j_iload_n M dX0_clashRule_110 rfl ?_
          refine j_callV1 (As := [.ref a, .int t]) M cf_X0_sweepsOn wM_X0_131 (c_sweepsOn hW hbL hbK haL haK t) hbL (pAt_0 E _ hbK) rfl rfl ⟨Nat.le_of_ble_eq_true rfl, Nat.le_of_ble_eq_true rfl⟩ (Nat.le_of_ble_eq_true rfl) ⟨Nat.zero_le _, Nat.zero_le _⟩ dX0_clashRule_111 rfl ?_
          refine j_if_eq (tgt := 121) M dX0_clashRule_114 (by decide) (fun c32 => ?_) (fun c32 => ?_)
          · refine j_iconst (v := 0) M dX0_clashRule_121 (by decide) ?_
            exact j_iret (v := 0) M dX0_clashRule_122 (Nat.le_refl _) (Nat.le_refl _) ⟨congrArg (fun z => some (Value.int z)) (show 0 = m_clashRule K S a b t from (by unfold m_clashRule; rw [if_neg c1, if_neg c23, if_pos c30, if_pos c31, if_pos c32])), rfl⟩
          · refine j_iconst (v := 3) M dX0_clashRule_117 (by decide) ?_
            refine j_goto (tgt := 122) M dX0_clashRule_118 (by decide) ?_
            exact j_iret (v := 3) M dX0_clashRule_122 (Nat.le_refl _) (Nat.le_refl _) ⟨congrArg (fun z => some (Value.int z)) (show 3 = m_clashRule K S a b t from (by unfold m_clashRule; rw [if_neg c1, if_neg c23, if_pos c30, if_pos c31, if_neg c32])), rfl⟩
      · refine j_iconst (v := 1) M dX0_clashRule_53 (by decide) ?_
        exact j_iret (v := 1) M dX0_clashRule_54 (Nat.le_refl _) (Nat.le_refl _) ⟨congrArg (fun z => some (Value.int z)) (show 1 = m_clashRule K S a b t from (by unfold m_clashRule; rw [if_neg c1, if_neg c23, if_neg c30])), rfl⟩
def m_clashesOf_lp (K : Nat → Nat) (S : PS) (a : Nat) : Nat → Nat → Int32 → Int32
  | 0, j, n => n
  | r + 1, j, n => if (nI j) = (sI S 1 a) then
      m_clashesOf_lp K S a r (j + 1) n
    else
      if (m_clashRule K S a (el S (K 13) j) 1) = 0 then
        m_clashesOf_lp K S a r (j + 1) n
      else
        m_clashesOf_lp K S a r (j + 1) (n ||| (1 <<< ((nI j) &&& 31)))
def m_clashesOf (K : Nat → Nat) (S : PS) (a : Nat) : Int32 :=
  m_clashesOf_lp K S a (sZ S (K 13)) 0 0
theorem cf_X5_clashesOf : CFv yX5_clashesOf RX5 cX5_clashesOf 4 (some .int) 1 := ⟨wC_X5_clashesOf, wI_X5_clashesOf, wV_X5_X5_clashesOf, wN_X5, by decide +kernel⟩
set_option maxHeartbeats 4000000 in
set_option maxRecDepth 100000 in
theorem c_clashesOf {l : Launch} {E : EV} {K : Nat → Nat} {S : PS} (hW : WS K S) (hA : AW S) (hM : WM S) {a : Nat} (haL : a ∈ sL S) (haK : sK S a = 0) : CT l yX5_clashesOf cX5_clashesOf 4 (some .int) 4 88 0 0 E [.ref (K 1), .ref a] S (pv (.int (m_clashesOf K S a)) S) := by
  refine CT.of (by decide) (Nat.le_of_ble_eq_true rfl) ?_
  intro p e s m below meth c M hin
  have M : MC E p s m _ meth c cX5_clashesOf RX5 4 (some .int) := M
  show J p l e _ s m _ below meth c _ E 4 0 [(0, .ref (K 1)), (1, .ref a)] [] S 0 0
  refine j_iconst (v := 0) M dX5_clashesOf_0 (by decide) ?_
  refine j_istore_n (lv' := [(2, .int 0), (0, .ref (K 1)), (1, .ref a)]) M dX5_clashesOf_1 rfl (by decide) rfl ?_
  refine j_iconst (v := 0) M dX5_clashesOf_2 (by decide) ?_
  refine j_istore_n (lv' := [(3, .int 0), (2, .int 0), (0, .ref (K 1)), (1, .ref a)]) M dX5_clashesOf_3 rfl (by decide) rfl ?_
  have hz13 := hW.l13.2.1
  have lp : ∀ (r j : Nat) (n : Int32), j + r = sZ S (K 13) → m_clashesOf K S a = m_clashesOf_lp K S a r j n → J p l e { frames := 4, cells := 0, slots := 0, locals := 88 } s m ([.ref (K 1), .ref a] : List Value).toArray below meth c (MQ below (QC E (pv (.int (m_clashesOf K S a)) S)) ([.ref (K 1), .ref a] : List Value).toArray s 0 0 (AE E)) E 4 4 [(0, .ref (K 1)), (1, .ref a), (2, .int n), (3, .int (nI j))] [] S 0 0 := by
    intro r
    induction r with
    | zero =>
      intro j n hj hq
      refine j_iload_n M dX5_clashesOf_4 rfl ?_
      refine j_aload_n M dX5_clashesOf_5 rfl ?_
      refine j_get (v := .ref (K 13)) M hW.k1.1 (pAt_5 E _ hW.k1.2) rfl inU_X5 3 (by decide) wF_X5_21 (fun _ h => h) (rfv hW.r35) dX5_clashesOf_6 ?_
      refine j_callV1 (As := []) (x := .int (nI (sZ S (K 13)))) M cf_size wM_X5_68 (c_size hW.l13) hW.l13.1.1 (pAt_8 E _ hW.l13.1.2) rfl rfl ⟨Nat.le_of_ble_eq_true rfl, Nat.le_of_ble_eq_true rfl⟩ (Nat.le_of_ble_eq_true rfl) ⟨Nat.zero_le _, Nat.zero_le _⟩ dX5_clashesOf_9 rfl ?_
      refine j_icmp_ge (tgt := 54) M dX5_clashesOf_12 (by decide) (fun _ => ?_) (fun z => absurd (nI_le (by omega) (by omega)) z)
      refine j_iload_n M dX5_clashesOf_54 rfl ?_
      exact j_iret (v := n) M dX5_clashesOf_55 (Nat.le_refl _) (Nat.le_refl _) ⟨congrArg (fun z => some (Value.int z)) (show n = m_clashesOf K S a from (hq.trans (by simp only [m_clashesOf_lp])).symm), rfl⟩
    | succ r ih =>
      intro j n hj hq
      refine j_iload_n M dX5_clashesOf_4 rfl ?_
      refine j_aload_n M dX5_clashesOf_5 rfl ?_
      refine j_get (v := .ref (K 13)) M hW.k1.1 (pAt_5 E _ hW.k1.2) rfl inU_X5 3 (by decide) wF_X5_21 (fun _ h => h) (rfv hW.r35) dX5_clashesOf_6 ?_
      refine j_callV1 (As := []) (x := .int (nI (sZ S (K 13)))) M cf_size wM_X5_68 (c_size hW.l13) hW.l13.1.1 (pAt_8 E _ hW.l13.1.2) rfl rfl ⟨Nat.le_of_ble_eq_true rfl, Nat.le_of_ble_eq_true rfl⟩ (Nat.le_of_ble_eq_true rfl) ⟨Nat.zero_le _, Nat.zero_le _⟩ dX5_clashesOf_9 rfl ?_
      refine j_icmp_ge (tgt := 54) M dX5_clashesOf_12 (by decide) (fun z => absurd z (nI_ge (by omega) (by omega))) (fun _ => ?_)
      refine j_iload_n M dX5_clashesOf_15 rfl ?_
      refine j_aload_n M dX5_clashesOf_16 rfl ?_
      refine j_getN (v := .int (sI S 1 a)) M haL (pAt_0 E _ haK) rfl inU_X0 1 (by decide) nF_X5_149 (fun _ h => h) rfl dX5_clashesOf_17 ?_
      refine j_icmp_eq (tgt := 48) M dX5_clashesOf_20 (by decide) (fun c1 => ?_) (fun c1 => ?_)
      · refine j_iinc (v := (nI (j + 1))) (lv' := [(3, .int (nI (j + 1))), (0, .ref (K 1)), (1, .ref a), (2, .int n)]) M dX5_clashesOf_48 rfl (nI_1 _) (by decide) rfl ?_
        refine j_goto (tgt := 4) M dX5_clashesOf_51 (by decide) ?_
        refine j_pick [1, 2, 3, 0] rfl ?_
        exact ih (j + 1) n (by omega) (hq.trans (by simp only [m_clashesOf_lp, if_pos c1]))
      · refine j_aload_n M dX5_clashesOf_23 rfl ?_
        refine j_aload_n M dX5_clashesOf_24 rfl ?_
        refine j_get (v := .ref (K 13)) M hW.k1.1 (pAt_5 E _ hW.k1.2) rfl inU_X5 3 (by decide) wF_X5_21 (fun _ h => h) (rfv hW.r35) dX5_clashesOf_25 ?_
        refine j_iload_n M dX5_clashesOf_28 rfl ?_
        refine j_callV1 (As := [.int (nI j)]) (x := .ref (el S (K 13) j)) M cf_get wM_X5_72 (c_get hW.l13 (by decide) (show j < sZ S (K 13) by omega)) hW.l13.1.1 (pAt_8 E _ hW.l13.1.2) rfl rfl ⟨Nat.le_of_ble_eq_true rfl, Nat.le_of_ble_eq_true rfl⟩ (Nat.le_of_ble_eq_true rfl) ⟨Nat.zero_le _, Nat.zero_le _⟩ dX5_clashesOf_29 rfl ?_
        refine j_cast M ((LSt.el hW.l13 (show j < sZ S (K 13) by omega)).1) (pAt_0 E _ ((LSt.el hW.l13 (show j < sZ S (K 13) by omega)).2)) rfl wL_X5_50 dX5_clashesOf_32 ?_
        refine j_iconst (v := 1) M dX5_clashesOf_35 (by decide) ?_
        refine j_callV1 (As := [.ref (el S (K 13) j), .int 1]) M cf_X0_clashRule wM_X5_152 (c_clashRule hW hA hM haL haK ((LSt.el hW.l13 (show j < sZ S (K 13) by omega)).1) ((LSt.el hW.l13 (show j < sZ S (K 13) by omega)).2) 1) haL (pAt_0 E _ haK) rfl rfl ⟨Nat.le_of_ble_eq_true rfl, Nat.le_of_ble_eq_true rfl⟩ (Nat.le_of_ble_eq_true rfl) ⟨Nat.zero_le _, Nat.zero_le _⟩ dX5_clashesOf_36 rfl ?_
        refine j_if_eq (tgt := 48) M dX5_clashesOf_39 (by decide) (fun c2 => ?_) (fun c2 => ?_)
        · refine j_iinc (v := (nI (j + 1))) (lv' := [(3, .int (nI (j + 1))), (0, .ref (K 1)), (1, .ref a), (2, .int n)]) M dX5_clashesOf_48 rfl (nI_1 _) (by decide) rfl ?_
          refine j_goto (tgt := 4) M dX5_clashesOf_51 (by decide) ?_
          refine j_pick [1, 2, 3, 0] rfl ?_
          exact ih (j + 1) n (by omega) (hq.trans (by simp only [m_clashesOf_lp, if_neg c1, if_pos c2]))
        · refine j_iload_n M dX5_clashesOf_42 rfl ?_
          refine j_iconst (v := 1) M dX5_clashesOf_43 (by decide) ?_
          refine j_iload_n M dX5_clashesOf_44 rfl ?_
          refine j_ishl M dX5_clashesOf_45 ?_
          refine j_ior M dX5_clashesOf_46 ?_
          refine j_istore_n (lv' := [(2, .int (n ||| (1 <<< ((nI j) &&& 31)))), (0, .ref (K 1)), (1, .ref a), (3, .int (nI j))]) M dX5_clashesOf_47 rfl (by decide) rfl ?_
          refine j_iinc (v := (nI (j + 1))) (lv' := [(3, .int (nI (j + 1))), (2, .int (n ||| (1 <<< ((nI j) &&& 31)))), (0, .ref (K 1)), (1, .ref a)]) M dX5_clashesOf_48 rfl (nI_1 _) (by decide) rfl ?_
          refine j_goto (tgt := 4) M dX5_clashesOf_51 (by decide) ?_
          refine j_pick [2, 3, 1, 0] rfl ?_
          exact ih (j + 1) (n ||| (1 <<< ((nI j) &&& 31))) (by omega) (hq.trans (by simp only [m_clashesOf_lp, if_neg c1, if_neg c2]))
  refine j_pick (lv' := [(0, .ref (K 1)), (1, .ref a), (2, .int 0), (3, .int (nI 0))]) [2, 3, 1, 0] rfl ?_
  exact lp (sZ S (K 13)) 0 0 (by omega) (by unfold m_clashesOf; rfl)
def m_bitCount (K : Nat → Nat) (S : PS) (x : Int32) : Int32 :=
  (((((((x - ((((x : Int32).toUInt32 >>> ((1 : Int32).toUInt32 &&& Int32.toUInt32 31)).toInt32) &&& 1431655765)) &&& 858993459) + (((((x - ((((x : Int32).toUInt32 >>> ((1 : Int32).toUInt32 &&& Int32.toUInt32 31)).toInt32) &&& 1431655765)) : Int32).toUInt32 >>> ((2 : Int32).toUInt32 &&& Int32.toUInt32 31)).toInt32) &&& 858993459)) + ((((((x - ((((x : Int32).toUInt32 >>> ((1 : Int32).toUInt32 &&& Int32.toUInt32 31)).toInt32) &&& 1431655765)) &&& 858993459) + (((((x - ((((x : Int32).toUInt32 >>> ((1 : Int32).toUInt32 &&& Int32.toUInt32 31)).toInt32) &&& 1431655765)) : Int32).toUInt32 >>> ((2 : Int32).toUInt32 &&& Int32.toUInt32 31)).toInt32) &&& 858993459)) : Int32).toUInt32 >>> ((4 : Int32).toUInt32 &&& Int32.toUInt32 31)).toInt32)) &&& 252645135) + ((((((((x - ((((x : Int32).toUInt32 >>> ((1 : Int32).toUInt32 &&& Int32.toUInt32 31)).toInt32) &&& 1431655765)) &&& 858993459) + (((((x - ((((x : Int32).toUInt32 >>> ((1 : Int32).toUInt32 &&& Int32.toUInt32 31)).toInt32) &&& 1431655765)) : Int32).toUInt32 >>> ((2 : Int32).toUInt32 &&& Int32.toUInt32 31)).toInt32) &&& 858993459)) + ((((((x - ((((x : Int32).toUInt32 >>> ((1 : Int32).toUInt32 &&& Int32.toUInt32 31)).toInt32) &&& 1431655765)) &&& 858993459) + (((((x - ((((x : Int32).toUInt32 >>> ((1 : Int32).toUInt32 &&& Int32.toUInt32 31)).toInt32) &&& 1431655765)) : Int32).toUInt32 >>> ((2 : Int32).toUInt32 &&& Int32.toUInt32 31)).toInt32) &&& 858993459)) : Int32).toUInt32 >>> ((4 : Int32).toUInt32 &&& Int32.toUInt32 31)).toInt32)) &&& 252645135) : Int32).toUInt32 >>> ((8 : Int32).toUInt32 &&& Int32.toUInt32 31)).toInt32)) + (((((((((x - ((((x : Int32).toUInt32 >>> ((1 : Int32).toUInt32 &&& Int32.toUInt32 31)).toInt32) &&& 1431655765)) &&& 858993459) + (((((x - ((((x : Int32).toUInt32 >>> ((1 : Int32).toUInt32 &&& Int32.toUInt32 31)).toInt32) &&& 1431655765)) : Int32).toUInt32 >>> ((2 : Int32).toUInt32 &&& Int32.toUInt32 31)).toInt32) &&& 858993459)) + ((((((x - ((((x : Int32).toUInt32 >>> ((1 : Int32).toUInt32 &&& Int32.toUInt32 31)).toInt32) &&& 1431655765)) &&& 858993459) + (((((x - ((((x : Int32).toUInt32 >>> ((1 : Int32).toUInt32 &&& Int32.toUInt32 31)).toInt32) &&& 1431655765)) : Int32).toUInt32 >>> ((2 : Int32).toUInt32 &&& Int32.toUInt32 31)).toInt32) &&& 858993459)) : Int32).toUInt32 >>> ((4 : Int32).toUInt32 &&& Int32.toUInt32 31)).toInt32)) &&& 252645135) + ((((((((x - ((((x : Int32).toUInt32 >>> ((1 : Int32).toUInt32 &&& Int32.toUInt32 31)).toInt32) &&& 1431655765)) &&& 858993459) + (((((x - ((((x : Int32).toUInt32 >>> ((1 : Int32).toUInt32 &&& Int32.toUInt32 31)).toInt32) &&& 1431655765)) : Int32).toUInt32 >>> ((2 : Int32).toUInt32 &&& Int32.toUInt32 31)).toInt32) &&& 858993459)) + ((((((x - ((((x : Int32).toUInt32 >>> ((1 : Int32).toUInt32 &&& Int32.toUInt32 31)).toInt32) &&& 1431655765)) &&& 858993459) + (((((x - ((((x : Int32).toUInt32 >>> ((1 : Int32).toUInt32 &&& Int32.toUInt32 31)).toInt32) &&& 1431655765)) : Int32).toUInt32 >>> ((2 : Int32).toUInt32 &&& Int32.toUInt32 31)).toInt32) &&& 858993459)) : Int32).toUInt32 >>> ((4 : Int32).toUInt32 &&& Int32.toUInt32 31)).toInt32)) &&& 252645135) : Int32).toUInt32 >>> ((8 : Int32).toUInt32 &&& Int32.toUInt32 31)).toInt32)) : Int32).toUInt32 >>> ((16 : Int32).toUInt32 &&& Int32.toUInt32 31)).toInt32)) &&& 63
theorem cf_J6_bitCount_0f7a4 : CFs yJ6_bitCount_0f7a4 cJ6_bitCount_0f7a4 1 (some .int) 1 := ⟨wC_J6_bitCount_0f7a4, wS_J6_bitCount_0f7a4, wN_J6, by decide +kernel⟩
set_option maxHeartbeats 4000000 in
set_option maxRecDepth 100000 in
theorem c_bitCount {l : Launch} {E : EV} {K : Nat → Nat} {S : PS} (hW : WS K S) (x : Int32) : CT l yJ6_bitCount_0f7a4 cJ6_bitCount_0f7a4 1 (some .int) 0 0 0 0 E [.int x] S (pv (.int (m_bitCount K S x)) S) := by
  refine CT.of (by decide) (Nat.le_of_ble_eq_true rfl) ?_
  intro p e s m below meth c M hin
  have M : MC E p s m _ meth c cJ6_bitCount_0f7a4 RJ6 1 (some .int) := M
  show J p l e _ s m _ below meth c _ E 1 0 [(0, .int x)] [] S 0 0
  refine j_iload_n M dJ6_bitCount_0f7a4_0 rfl ?_
  refine j_iload_n M dJ6_bitCount_0f7a4_1 rfl ?_
  refine j_iconst (v := 1) M dJ6_bitCount_0f7a4_2 (by decide) ?_
  refine j_iushr M dJ6_bitCount_0f7a4_3 rfl ?_
  refine j_ldcw M wK_J6_265 dJ6_bitCount_0f7a4_4 ?_
  refine j_iand M dJ6_bitCount_0f7a4_7 ?_
  refine j_isub M dJ6_bitCount_0f7a4_8 ?_
  refine j_istore_n (lv' := [(0, .int (x - ((((x : Int32).toUInt32 >>> ((1 : Int32).toUInt32 &&& Int32.toUInt32 31)).toInt32) &&& 1431655765)))]) M dJ6_bitCount_0f7a4_9 rfl (by decide) rfl ?_
  refine j_iload_n M dJ6_bitCount_0f7a4_10 rfl ?_
  refine j_ldcw M wK_J6_266 dJ6_bitCount_0f7a4_11 ?_
  refine j_iand M dJ6_bitCount_0f7a4_14 ?_
  refine j_iload_n M dJ6_bitCount_0f7a4_15 rfl ?_
  refine j_iconst (v := 2) M dJ6_bitCount_0f7a4_16 (by decide) ?_
  refine j_iushr M dJ6_bitCount_0f7a4_17 rfl ?_
  refine j_ldcw M wK_J6_266 dJ6_bitCount_0f7a4_18 ?_
  refine j_iand M dJ6_bitCount_0f7a4_21 ?_
  refine j_iadd M dJ6_bitCount_0f7a4_22 ?_
  refine j_istore_n (lv' := [(0, .int (((x - ((((x : Int32).toUInt32 >>> ((1 : Int32).toUInt32 &&& Int32.toUInt32 31)).toInt32) &&& 1431655765)) &&& 858993459) + (((((x - ((((x : Int32).toUInt32 >>> ((1 : Int32).toUInt32 &&& Int32.toUInt32 31)).toInt32) &&& 1431655765)) : Int32).toUInt32 >>> ((2 : Int32).toUInt32 &&& Int32.toUInt32 31)).toInt32) &&& 858993459)))]) M dJ6_bitCount_0f7a4_23 rfl (by decide) rfl ?_
  refine j_iload_n M dJ6_bitCount_0f7a4_24 rfl ?_
  refine j_iload_n M dJ6_bitCount_0f7a4_25 rfl ?_
  refine j_iconst (v := 4) M dJ6_bitCount_0f7a4_26 (by decide) ?_
  refine j_iushr M dJ6_bitCount_0f7a4_27 rfl ?_
  refine j_iadd M dJ6_bitCount_0f7a4_28 ?_
  refine j_ldcw M wK_J6_267 dJ6_bitCount_0f7a4_29 ?_
  refine j_iand M dJ6_bitCount_0f7a4_32 ?_
  refine j_istore_n (lv' := [(0, .int (((((x - ((((x : Int32).toUInt32 >>> ((1 : Int32).toUInt32 &&& Int32.toUInt32 31)).toInt32) &&& 1431655765)) &&& 858993459) + (((((x - ((((x : Int32).toUInt32 >>> ((1 : Int32).toUInt32 &&& Int32.toUInt32 31)).toInt32) &&& 1431655765)) : Int32).toUInt32 >>> ((2 : Int32).toUInt32 &&& Int32.toUInt32 31)).toInt32) &&& 858993459)) + ((((((x - ((((x : Int32).toUInt32 >>> ((1 : Int32).toUInt32 &&& Int32.toUInt32 31)).toInt32) &&& 1431655765)) &&& 858993459) + (((((x - ((((x : Int32).toUInt32 >>> ((1 : Int32).toUInt32 &&& Int32.toUInt32 31)).toInt32) &&& 1431655765)) : Int32).toUInt32 >>> ((2 : Int32).toUInt32 &&& Int32.toUInt32 31)).toInt32) &&& 858993459)) : Int32).toUInt32 >>> ((4 : Int32).toUInt32 &&& Int32.toUInt32 31)).toInt32)) &&& 252645135))]) M dJ6_bitCount_0f7a4_33 rfl (by decide) rfl ?_
  refine j_iload_n M dJ6_bitCount_0f7a4_34 rfl ?_
  refine j_iload_n M dJ6_bitCount_0f7a4_35 rfl ?_
  refine j_bipush (v := 8) M dJ6_bitCount_0f7a4_36 (by decide) ?_
  refine j_iushr M dJ6_bitCount_0f7a4_38 rfl ?_
  refine j_iadd M dJ6_bitCount_0f7a4_39 ?_
  refine j_istore_n (lv' := [(0, .int ((((((x - ((((x : Int32).toUInt32 >>> ((1 : Int32).toUInt32 &&& Int32.toUInt32 31)).toInt32) &&& 1431655765)) &&& 858993459) + (((((x - ((((x : Int32).toUInt32 >>> ((1 : Int32).toUInt32 &&& Int32.toUInt32 31)).toInt32) &&& 1431655765)) : Int32).toUInt32 >>> ((2 : Int32).toUInt32 &&& Int32.toUInt32 31)).toInt32) &&& 858993459)) + ((((((x - ((((x : Int32).toUInt32 >>> ((1 : Int32).toUInt32 &&& Int32.toUInt32 31)).toInt32) &&& 1431655765)) &&& 858993459) + (((((x - ((((x : Int32).toUInt32 >>> ((1 : Int32).toUInt32 &&& Int32.toUInt32 31)).toInt32) &&& 1431655765)) : Int32).toUInt32 >>> ((2 : Int32).toUInt32 &&& Int32.toUInt32 31)).toInt32) &&& 858993459)) : Int32).toUInt32 >>> ((4 : Int32).toUInt32 &&& Int32.toUInt32 31)).toInt32)) &&& 252645135) + ((((((((x - ((((x : Int32).toUInt32 >>> ((1 : Int32).toUInt32 &&& Int32.toUInt32 31)).toInt32) &&& 1431655765)) &&& 858993459) + (((((x - ((((x : Int32).toUInt32 >>> ((1 : Int32).toUInt32 &&& Int32.toUInt32 31)).toInt32) &&& 1431655765)) : Int32).toUInt32 >>> ((2 : Int32).toUInt32 &&& Int32.toUInt32 31)).toInt32) &&& 858993459)) + ((((((x - ((((x : Int32).toUInt32 >>> ((1 : Int32).toUInt32 &&& Int32.toUInt32 31)).toInt32) &&& 1431655765)) &&& 858993459) + (((((x - ((((x : Int32).toUInt32 >>> ((1 : Int32).toUInt32 &&& Int32.toUInt32 31)).toInt32) &&& 1431655765)) : Int32).toUInt32 >>> ((2 : Int32).toUInt32 &&& Int32.toUInt32 31)).toInt32) &&& 858993459)) : Int32).toUInt32 >>> ((4 : Int32).toUInt32 &&& Int32.toUInt32 31)).toInt32)) &&& 252645135) : Int32).toUInt32 >>> ((8 : Int32).toUInt32 &&& Int32.toUInt32 31)).toInt32)))]) M dJ6_bitCount_0f7a4_40 rfl (by decide) rfl ?_
  refine j_iload_n M dJ6_bitCount_0f7a4_41 rfl ?_
  refine j_iload_n M dJ6_bitCount_0f7a4_42 rfl ?_
  refine j_bipush (v := 16) M dJ6_bitCount_0f7a4_43 (by decide) ?_
  refine j_iushr M dJ6_bitCount_0f7a4_45 rfl ?_
  refine j_iadd M dJ6_bitCount_0f7a4_46 ?_
  refine j_istore_n (lv' := [(0, .int (((((((x - ((((x : Int32).toUInt32 >>> ((1 : Int32).toUInt32 &&& Int32.toUInt32 31)).toInt32) &&& 1431655765)) &&& 858993459) + (((((x - ((((x : Int32).toUInt32 >>> ((1 : Int32).toUInt32 &&& Int32.toUInt32 31)).toInt32) &&& 1431655765)) : Int32).toUInt32 >>> ((2 : Int32).toUInt32 &&& Int32.toUInt32 31)).toInt32) &&& 858993459)) + ((((((x - ((((x : Int32).toUInt32 >>> ((1 : Int32).toUInt32 &&& Int32.toUInt32 31)).toInt32) &&& 1431655765)) &&& 858993459) + (((((x - ((((x : Int32).toUInt32 >>> ((1 : Int32).toUInt32 &&& Int32.toUInt32 31)).toInt32) &&& 1431655765)) : Int32).toUInt32 >>> ((2 : Int32).toUInt32 &&& Int32.toUInt32 31)).toInt32) &&& 858993459)) : Int32).toUInt32 >>> ((4 : Int32).toUInt32 &&& Int32.toUInt32 31)).toInt32)) &&& 252645135) + ((((((((x - ((((x : Int32).toUInt32 >>> ((1 : Int32).toUInt32 &&& Int32.toUInt32 31)).toInt32) &&& 1431655765)) &&& 858993459) + (((((x - ((((x : Int32).toUInt32 >>> ((1 : Int32).toUInt32 &&& Int32.toUInt32 31)).toInt32) &&& 1431655765)) : Int32).toUInt32 >>> ((2 : Int32).toUInt32 &&& Int32.toUInt32 31)).toInt32) &&& 858993459)) + ((((((x - ((((x : Int32).toUInt32 >>> ((1 : Int32).toUInt32 &&& Int32.toUInt32 31)).toInt32) &&& 1431655765)) &&& 858993459) + (((((x - ((((x : Int32).toUInt32 >>> ((1 : Int32).toUInt32 &&& Int32.toUInt32 31)).toInt32) &&& 1431655765)) : Int32).toUInt32 >>> ((2 : Int32).toUInt32 &&& Int32.toUInt32 31)).toInt32) &&& 858993459)) : Int32).toUInt32 >>> ((4 : Int32).toUInt32 &&& Int32.toUInt32 31)).toInt32)) &&& 252645135) : Int32).toUInt32 >>> ((8 : Int32).toUInt32 &&& Int32.toUInt32 31)).toInt32)) + (((((((((x - ((((x : Int32).toUInt32 >>> ((1 : Int32).toUInt32 &&& Int32.toUInt32 31)).toInt32) &&& 1431655765)) &&& 858993459) + (((((x - ((((x : Int32).toUInt32 >>> ((1 : Int32).toUInt32 &&& Int32.toUInt32 31)).toInt32) &&& 1431655765)) : Int32).toUInt32 >>> ((2 : Int32).toUInt32 &&& Int32.toUInt32 31)).toInt32) &&& 858993459)) + ((((((x - ((((x : Int32).toUInt32 >>> ((1 : Int32).toUInt32 &&& Int32.toUInt32 31)).toInt32) &&& 1431655765)) &&& 858993459) + (((((x - ((((x : Int32).toUInt32 >>> ((1 : Int32).toUInt32 &&& Int32.toUInt32 31)).toInt32) &&& 1431655765)) : Int32).toUInt32 >>> ((2 : Int32).toUInt32 &&& Int32.toUInt32 31)).toInt32) &&& 858993459)) : Int32).toUInt32 >>> ((4 : Int32).toUInt32 &&& Int32.toUInt32 31)).toInt32)) &&& 252645135) + ((((((((x - ((((x : Int32).toUInt32 >>> ((1 : Int32).toUInt32 &&& Int32.toUInt32 31)).toInt32) &&& 1431655765)) &&& 858993459) + (((((x - ((((x : Int32).toUInt32 >>> ((1 : Int32).toUInt32 &&& Int32.toUInt32 31)).toInt32) &&& 1431655765)) : Int32).toUInt32 >>> ((2 : Int32).toUInt32 &&& Int32.toUInt32 31)).toInt32) &&& 858993459)) + ((((((x - ((((x : Int32).toUInt32 >>> ((1 : Int32).toUInt32 &&& Int32.toUInt32 31)).toInt32) &&& 1431655765)) &&& 858993459) + (((((x - ((((x : Int32).toUInt32 >>> ((1 : Int32).toUInt32 &&& Int32.toUInt32 31)).toInt32) &&& 1431655765)) : Int32).toUInt32 >>> ((2 : Int32).toUInt32 &&& Int32.toUInt32 31)).toInt32) &&& 858993459)) : Int32).toUInt32 >>> ((4 : Int32).toUInt32 &&& Int32.toUInt32 31)).toInt32)) &&& 252645135) : Int32).toUInt32 >>> ((8 : Int32).toUInt32 &&& Int32.toUInt32 31)).toInt32)) : Int32).toUInt32 >>> ((16 : Int32).toUInt32 &&& Int32.toUInt32 31)).toInt32)))]) M dJ6_bitCount_0f7a4_47 rfl (by decide) rfl ?_
  refine j_iload_n M dJ6_bitCount_0f7a4_48 rfl ?_
  refine j_bipush (v := 63) M dJ6_bitCount_0f7a4_49 (by decide) ?_
  refine j_iand M dJ6_bitCount_0f7a4_51 ?_
  exact j_iret (v := ((((((((x - ((((x : Int32).toUInt32 >>> ((1 : Int32).toUInt32 &&& Int32.toUInt32 31)).toInt32) &&& 1431655765)) &&& 858993459) + (((((x - ((((x : Int32).toUInt32 >>> ((1 : Int32).toUInt32 &&& Int32.toUInt32 31)).toInt32) &&& 1431655765)) : Int32).toUInt32 >>> ((2 : Int32).toUInt32 &&& Int32.toUInt32 31)).toInt32) &&& 858993459)) + ((((((x - ((((x : Int32).toUInt32 >>> ((1 : Int32).toUInt32 &&& Int32.toUInt32 31)).toInt32) &&& 1431655765)) &&& 858993459) + (((((x - ((((x : Int32).toUInt32 >>> ((1 : Int32).toUInt32 &&& Int32.toUInt32 31)).toInt32) &&& 1431655765)) : Int32).toUInt32 >>> ((2 : Int32).toUInt32 &&& Int32.toUInt32 31)).toInt32) &&& 858993459)) : Int32).toUInt32 >>> ((4 : Int32).toUInt32 &&& Int32.toUInt32 31)).toInt32)) &&& 252645135) + ((((((((x - ((((x : Int32).toUInt32 >>> ((1 : Int32).toUInt32 &&& Int32.toUInt32 31)).toInt32) &&& 1431655765)) &&& 858993459) + (((((x - ((((x : Int32).toUInt32 >>> ((1 : Int32).toUInt32 &&& Int32.toUInt32 31)).toInt32) &&& 1431655765)) : Int32).toUInt32 >>> ((2 : Int32).toUInt32 &&& Int32.toUInt32 31)).toInt32) &&& 858993459)) + ((((((x - ((((x : Int32).toUInt32 >>> ((1 : Int32).toUInt32 &&& Int32.toUInt32 31)).toInt32) &&& 1431655765)) &&& 858993459) + (((((x - ((((x : Int32).toUInt32 >>> ((1 : Int32).toUInt32 &&& Int32.toUInt32 31)).toInt32) &&& 1431655765)) : Int32).toUInt32 >>> ((2 : Int32).toUInt32 &&& Int32.toUInt32 31)).toInt32) &&& 858993459)) : Int32).toUInt32 >>> ((4 : Int32).toUInt32 &&& Int32.toUInt32 31)).toInt32)) &&& 252645135) : Int32).toUInt32 >>> ((8 : Int32).toUInt32 &&& Int32.toUInt32 31)).toInt32)) + (((((((((x - ((((x : Int32).toUInt32 >>> ((1 : Int32).toUInt32 &&& Int32.toUInt32 31)).toInt32) &&& 1431655765)) &&& 858993459) + (((((x - ((((x : Int32).toUInt32 >>> ((1 : Int32).toUInt32 &&& Int32.toUInt32 31)).toInt32) &&& 1431655765)) : Int32).toUInt32 >>> ((2 : Int32).toUInt32 &&& Int32.toUInt32 31)).toInt32) &&& 858993459)) + ((((((x - ((((x : Int32).toUInt32 >>> ((1 : Int32).toUInt32 &&& Int32.toUInt32 31)).toInt32) &&& 1431655765)) &&& 858993459) + (((((x - ((((x : Int32).toUInt32 >>> ((1 : Int32).toUInt32 &&& Int32.toUInt32 31)).toInt32) &&& 1431655765)) : Int32).toUInt32 >>> ((2 : Int32).toUInt32 &&& Int32.toUInt32 31)).toInt32) &&& 858993459)) : Int32).toUInt32 >>> ((4 : Int32).toUInt32 &&& Int32.toUInt32 31)).toInt32)) &&& 252645135) + ((((((((x - ((((x : Int32).toUInt32 >>> ((1 : Int32).toUInt32 &&& Int32.toUInt32 31)).toInt32) &&& 1431655765)) &&& 858993459) + (((((x - ((((x : Int32).toUInt32 >>> ((1 : Int32).toUInt32 &&& Int32.toUInt32 31)).toInt32) &&& 1431655765)) : Int32).toUInt32 >>> ((2 : Int32).toUInt32 &&& Int32.toUInt32 31)).toInt32) &&& 858993459)) + ((((((x - ((((x : Int32).toUInt32 >>> ((1 : Int32).toUInt32 &&& Int32.toUInt32 31)).toInt32) &&& 1431655765)) &&& 858993459) + (((((x - ((((x : Int32).toUInt32 >>> ((1 : Int32).toUInt32 &&& Int32.toUInt32 31)).toInt32) &&& 1431655765)) : Int32).toUInt32 >>> ((2 : Int32).toUInt32 &&& Int32.toUInt32 31)).toInt32) &&& 858993459)) : Int32).toUInt32 >>> ((4 : Int32).toUInt32 &&& Int32.toUInt32 31)).toInt32)) &&& 252645135) : Int32).toUInt32 >>> ((8 : Int32).toUInt32 &&& Int32.toUInt32 31)).toInt32)) : Int32).toUInt32 >>> ((16 : Int32).toUInt32 &&& Int32.toUInt32 31)).toInt32)) &&& 63)) M dJ6_bitCount_0f7a4_52 (Nat.le_refl _) (Nat.le_refl _) ⟨congrArg (fun z => some (Value.int z)) (show ((((((((x - ((((x : Int32).toUInt32 >>> ((1 : Int32).toUInt32 &&& Int32.toUInt32 31)).toInt32) &&& 1431655765)) &&& 858993459) + (((((x - ((((x : Int32).toUInt32 >>> ((1 : Int32).toUInt32 &&& Int32.toUInt32 31)).toInt32) &&& 1431655765)) : Int32).toUInt32 >>> ((2 : Int32).toUInt32 &&& Int32.toUInt32 31)).toInt32) &&& 858993459)) + ((((((x - ((((x : Int32).toUInt32 >>> ((1 : Int32).toUInt32 &&& Int32.toUInt32 31)).toInt32) &&& 1431655765)) &&& 858993459) + (((((x - ((((x : Int32).toUInt32 >>> ((1 : Int32).toUInt32 &&& Int32.toUInt32 31)).toInt32) &&& 1431655765)) : Int32).toUInt32 >>> ((2 : Int32).toUInt32 &&& Int32.toUInt32 31)).toInt32) &&& 858993459)) : Int32).toUInt32 >>> ((4 : Int32).toUInt32 &&& Int32.toUInt32 31)).toInt32)) &&& 252645135) + ((((((((x - ((((x : Int32).toUInt32 >>> ((1 : Int32).toUInt32 &&& Int32.toUInt32 31)).toInt32) &&& 1431655765)) &&& 858993459) + (((((x - ((((x : Int32).toUInt32 >>> ((1 : Int32).toUInt32 &&& Int32.toUInt32 31)).toInt32) &&& 1431655765)) : Int32).toUInt32 >>> ((2 : Int32).toUInt32 &&& Int32.toUInt32 31)).toInt32) &&& 858993459)) + ((((((x - ((((x : Int32).toUInt32 >>> ((1 : Int32).toUInt32 &&& Int32.toUInt32 31)).toInt32) &&& 1431655765)) &&& 858993459) + (((((x - ((((x : Int32).toUInt32 >>> ((1 : Int32).toUInt32 &&& Int32.toUInt32 31)).toInt32) &&& 1431655765)) : Int32).toUInt32 >>> ((2 : Int32).toUInt32 &&& Int32.toUInt32 31)).toInt32) &&& 858993459)) : Int32).toUInt32 >>> ((4 : Int32).toUInt32 &&& Int32.toUInt32 31)).toInt32)) &&& 252645135) : Int32).toUInt32 >>> ((8 : Int32).toUInt32 &&& Int32.toUInt32 31)).toInt32)) + (((((((((x - ((((x : Int32).toUInt32 >>> ((1 : Int32).toUInt32 &&& Int32.toUInt32 31)).toInt32) &&& 1431655765)) &&& 858993459) + (((((x - ((((x : Int32).toUInt32 >>> ((1 : Int32).toUInt32 &&& Int32.toUInt32 31)).toInt32) &&& 1431655765)) : Int32).toUInt32 >>> ((2 : Int32).toUInt32 &&& Int32.toUInt32 31)).toInt32) &&& 858993459)) + ((((((x - ((((x : Int32).toUInt32 >>> ((1 : Int32).toUInt32 &&& Int32.toUInt32 31)).toInt32) &&& 1431655765)) &&& 858993459) + (((((x - ((((x : Int32).toUInt32 >>> ((1 : Int32).toUInt32 &&& Int32.toUInt32 31)).toInt32) &&& 1431655765)) : Int32).toUInt32 >>> ((2 : Int32).toUInt32 &&& Int32.toUInt32 31)).toInt32) &&& 858993459)) : Int32).toUInt32 >>> ((4 : Int32).toUInt32 &&& Int32.toUInt32 31)).toInt32)) &&& 252645135) + ((((((((x - ((((x : Int32).toUInt32 >>> ((1 : Int32).toUInt32 &&& Int32.toUInt32 31)).toInt32) &&& 1431655765)) &&& 858993459) + (((((x - ((((x : Int32).toUInt32 >>> ((1 : Int32).toUInt32 &&& Int32.toUInt32 31)).toInt32) &&& 1431655765)) : Int32).toUInt32 >>> ((2 : Int32).toUInt32 &&& Int32.toUInt32 31)).toInt32) &&& 858993459)) + ((((((x - ((((x : Int32).toUInt32 >>> ((1 : Int32).toUInt32 &&& Int32.toUInt32 31)).toInt32) &&& 1431655765)) &&& 858993459) + (((((x - ((((x : Int32).toUInt32 >>> ((1 : Int32).toUInt32 &&& Int32.toUInt32 31)).toInt32) &&& 1431655765)) : Int32).toUInt32 >>> ((2 : Int32).toUInt32 &&& Int32.toUInt32 31)).toInt32) &&& 858993459)) : Int32).toUInt32 >>> ((4 : Int32).toUInt32 &&& Int32.toUInt32 31)).toInt32)) &&& 252645135) : Int32).toUInt32 >>> ((8 : Int32).toUInt32 &&& Int32.toUInt32 31)).toInt32)) : Int32).toUInt32 >>> ((16 : Int32).toUInt32 &&& Int32.toUInt32 31)).toInt32)) &&& 63) = m_bitCount K S x from rfl), rfl⟩
def m_clashingPairs_lp (K : Nat → Nat) (S : PS) : Nat → Nat → Int32 → Int32
  | 0, j, n => n / 2
  | r + 1, j, n => m_clashingPairs_lp K S r (j + 1) (n + (m_bitCount K S (m_clashesOf K S (el S (K 13) j))))
def m_clashingPairs (K : Nat → Nat) (S : PS) : Int32 :=
  m_clashingPairs_lp K S (sZ S (K 13)) 0 0
theorem cf_X5_clashingPairs : CFv yX5_clashingPairs RX5 cX5_clashingPairs 3 (some .int) 0 := ⟨wC_X5_clashingPairs, wI_X5_clashingPairs, wV_X5_X5_clashingPairs, wN_X5, by decide +kernel⟩
set_option maxHeartbeats 4000000 in
set_option maxRecDepth 100000 in
theorem c_clashingPairs {l : Launch} {E : EV} {K : Nat → Nat} {S : PS} (hW : WS K S) (hA : AW S) (hM : WM S) : CT l yX5_clashingPairs cX5_clashingPairs 3 (some .int) 5 111 0 0 E [.ref (K 1)] S (pv (.int (m_clashingPairs K S)) S) := by
  refine CT.of (by decide) (Nat.le_of_ble_eq_true rfl) ?_
  intro p e s m below meth c M hin
  have M : MC E p s m _ meth c cX5_clashingPairs RX5 3 (some .int) := M
  show J p l e _ s m _ below meth c _ E 3 0 [(0, .ref (K 1))] [] S 0 0
  refine j_iconst (v := 0) M dX5_clashingPairs_0 (by decide) ?_
  refine j_istore_n (lv' := [(1, .int 0), (0, .ref (K 1))]) M dX5_clashingPairs_1 rfl (by decide) rfl ?_
  refine j_iconst (v := 0) M dX5_clashingPairs_2 (by decide) ?_
  refine j_istore_n (lv' := [(2, .int 0), (1, .int 0), (0, .ref (K 1))]) M dX5_clashingPairs_3 rfl (by decide) rfl ?_
  have hz13 := hW.l13.2.1
  have lp : ∀ (r j : Nat) (n : Int32), j + r = sZ S (K 13) → m_clashingPairs K S = m_clashingPairs_lp K S r j n → J p l e { frames := 5, cells := 0, slots := 0, locals := 111 } s m ([.ref (K 1)] : List Value).toArray below meth c (MQ below (QC E (pv (.int (m_clashingPairs K S)) S)) ([.ref (K 1)] : List Value).toArray s 0 0 (AE E)) E 3 4 [(0, .ref (K 1)), (1, .int n), (2, .int (nI j))] [] S 0 0 := by
    intro r
    induction r with
    | zero =>
      intro j n hj hq
      refine j_iload_n M dX5_clashingPairs_4 rfl ?_
      refine j_aload_n M dX5_clashingPairs_5 rfl ?_
      refine j_get (v := .ref (K 13)) M hW.k1.1 (pAt_5 E _ hW.k1.2) rfl inU_X5 3 (by decide) wF_X5_21 (fun _ h => h) (rfv hW.r35) dX5_clashingPairs_6 ?_
      refine j_callV1 (As := []) (x := .int (nI (sZ S (K 13)))) M cf_size wM_X5_68 (c_size hW.l13) hW.l13.1.1 (pAt_8 E _ hW.l13.1.2) rfl rfl ⟨Nat.le_of_ble_eq_true rfl, Nat.le_of_ble_eq_true rfl⟩ (Nat.le_of_ble_eq_true rfl) ⟨Nat.zero_le _, Nat.zero_le _⟩ dX5_clashingPairs_9 rfl ?_
      refine j_icmp_ge (tgt := 42) M dX5_clashingPairs_12 (by decide) (fun _ => ?_) (fun z => absurd (nI_le (by omega) (by omega)) z)
      refine j_iload_n M dX5_clashingPairs_42 rfl ?_
      refine j_iconst (v := 2) M dX5_clashingPairs_43 (by decide) ?_
      refine j_idiv M dX5_clashingPairs_44 (by decide) ?_
      exact j_iret (v := (n / 2)) M dX5_clashingPairs_45 (Nat.le_refl _) (Nat.le_refl _) ⟨congrArg (fun z => some (Value.int z)) (show (n / 2) = m_clashingPairs K S from (hq.trans (by simp only [m_clashingPairs_lp])).symm), rfl⟩
    | succ r ih =>
      intro j n hj hq
      refine j_iload_n M dX5_clashingPairs_4 rfl ?_
      refine j_aload_n M dX5_clashingPairs_5 rfl ?_
      refine j_get (v := .ref (K 13)) M hW.k1.1 (pAt_5 E _ hW.k1.2) rfl inU_X5 3 (by decide) wF_X5_21 (fun _ h => h) (rfv hW.r35) dX5_clashingPairs_6 ?_
      refine j_callV1 (As := []) (x := .int (nI (sZ S (K 13)))) M cf_size wM_X5_68 (c_size hW.l13) hW.l13.1.1 (pAt_8 E _ hW.l13.1.2) rfl rfl ⟨Nat.le_of_ble_eq_true rfl, Nat.le_of_ble_eq_true rfl⟩ (Nat.le_of_ble_eq_true rfl) ⟨Nat.zero_le _, Nat.zero_le _⟩ dX5_clashingPairs_9 rfl ?_
      refine j_icmp_ge (tgt := 42) M dX5_clashingPairs_12 (by decide) (fun z => absurd z (nI_ge (by omega) (by omega))) (fun _ => ?_)
      refine j_iload_n M dX5_clashingPairs_15 rfl ?_
      refine j_aload_n M dX5_clashingPairs_16 rfl ?_
      refine j_aload_n M dX5_clashingPairs_17 rfl ?_
      refine j_get (v := .ref (K 13)) M hW.k1.1 (pAt_5 E _ hW.k1.2) rfl inU_X5 3 (by decide) wF_X5_21 (fun _ h => h) (rfv hW.r35) dX5_clashingPairs_18 ?_
      refine j_iload_n M dX5_clashingPairs_21 rfl ?_
      refine j_callV1 (As := [.int (nI j)]) (x := .ref (el S (K 13) j)) M cf_get wM_X5_72 (c_get hW.l13 (by decide) (show j < sZ S (K 13) by omega)) hW.l13.1.1 (pAt_8 E _ hW.l13.1.2) rfl rfl ⟨Nat.le_of_ble_eq_true rfl, Nat.le_of_ble_eq_true rfl⟩ (Nat.le_of_ble_eq_true rfl) ⟨Nat.zero_le _, Nat.zero_le _⟩ dX5_clashingPairs_22 rfl ?_
      refine j_cast M ((LSt.el hW.l13 (show j < sZ S (K 13) by omega)).1) (pAt_0 E _ ((LSt.el hW.l13 (show j < sZ S (K 13) by omega)).2)) rfl wL_X5_50 dX5_clashingPairs_25 ?_
      refine j_callV1 (As := [.ref (el S (K 13) j)]) M cf_X5_clashesOf wM_X5_156 (c_clashesOf hW hA hM ((LSt.el hW.l13 (show j < sZ S (K 13) by omega)).1) ((LSt.el hW.l13 (show j < sZ S (K 13) by omega)).2)) hW.k1.1 (pAt_5 E _ hW.k1.2) rfl rfl ⟨Nat.le_of_ble_eq_true rfl, Nat.le_of_ble_eq_true rfl⟩ (Nat.le_of_ble_eq_true rfl) ⟨Nat.zero_le _, Nat.zero_le _⟩ dX5_clashingPairs_28 rfl ?_
      refine j_callS1 (As := [.int (m_clashesOf K S (el S (K 13) j))]) M cf_J6_bitCount_0f7a4 wM_X5_160 (c_bitCount hW (m_clashesOf K S (el S (K 13) j))) rfl ⟨Nat.le_of_ble_eq_true rfl, Nat.le_of_ble_eq_true rfl⟩ (Nat.le_of_ble_eq_true rfl) ⟨Nat.zero_le _, Nat.zero_le _⟩ dX5_clashingPairs_31 rfl ?_
      refine j_iadd M dX5_clashingPairs_34 ?_
      refine j_istore_n (lv' := [(1, .int (n + (m_bitCount K S (m_clashesOf K S (el S (K 13) j))))), (0, .ref (K 1)), (2, .int (nI j))]) M dX5_clashingPairs_35 rfl (by decide) rfl ?_
      refine j_iinc (v := (nI (j + 1))) (lv' := [(2, .int (nI (j + 1))), (1, .int (n + (m_bitCount K S (m_clashesOf K S (el S (K 13) j))))), (0, .ref (K 1))]) M dX5_clashingPairs_36 rfl (nI_1 _) (by decide) rfl ?_
      refine j_goto (tgt := 4) M dX5_clashingPairs_39 (by decide) ?_
      refine j_pick [2, 1, 0] rfl ?_
      exact ih (j + 1) (n + (m_bitCount K S (m_clashesOf K S (el S (K 13) j)))) (by omega) (hq.trans (by simp only [m_clashingPairs_lp]))
  refine j_pick (lv' := [(0, .ref (K 1)), (1, .int 0), (2, .int (nI 0))]) [2, 1, 0] rfl ?_
  exact lp (sZ S (K 13)) 0 0 (by omega) (by unfold m_clashingPairs; rfl)
def m_missesNow_lp (K : Nat → Nat) (S : PS) (a : Nat) : Nat → Nat → Int32 → Int32
  | 0, j, n => n
  | r + 1, j, n => if (el S (K 13) j) = a then
      m_missesNow_lp K S a r (j + 1) n
    else
      if (m_clashRule K S a (el S (K 13) j) 1) = 0 then
        if (m_clashRule K S a (el S (K 13) j) 2) = 0 then
          m_missesNow_lp K S a r (j + 1) n
        else
          m_missesNow_lp K S a r (j + 1) (n + 1)
      else
        m_missesNow_lp K S a r (j + 1) n
def m_missesNow (K : Nat → Nat) (S : PS) (a : Nat) : Int32 :=
  m_missesNow_lp K S a (sZ S (K 13)) 0 0
theorem cf_X5_missesNow : CFv yX5_missesNow RX5 cX5_missesNow 5 (some .int) 1 := ⟨wC_X5_missesNow, wI_X5_missesNow, wV_X5_X5_missesNow, wN_X5, by decide +kernel⟩
set_option maxHeartbeats 4000000 in
set_option maxRecDepth 100000 in
theorem c_missesNow {l : Launch} {E : EV} {K : Nat → Nat} {S : PS} (hW : WS K S) (hA : AW S) (hM : WM S) {a : Nat} (haL : a ∈ sL S) (haK : sK S a = 0) : CT l yX5_missesNow cX5_missesNow 5 (some .int) 4 88 0 0 E [.ref (K 1), .ref a] S (pv (.int (m_missesNow K S a)) S) := by
  refine CT.of (by decide) (Nat.le_of_ble_eq_true rfl) ?_
  intro p e s m below meth c M hin
  have M : MC E p s m _ meth c cX5_missesNow RX5 5 (some .int) := M
  show J p l e _ s m _ below meth c _ E 5 0 [(0, .ref (K 1)), (1, .ref a)] [] S 0 0
  refine j_iconst (v := 0) M dX5_missesNow_0 (by decide) ?_
  refine j_istore_n (lv' := [(2, .int 0), (0, .ref (K 1)), (1, .ref a)]) M dX5_missesNow_1 rfl (by decide) rfl ?_
  refine j_iconst (v := 0) M dX5_missesNow_2 (by decide) ?_
  refine j_istore_n (lv' := [(3, .int 0), (2, .int 0), (0, .ref (K 1)), (1, .ref a)]) M dX5_missesNow_3 rfl (by decide) rfl ?_
  have hz13 := hW.l13.2.1
  have lp : ∀ (r j : Nat) (n : Int32), j + r = sZ S (K 13) → m_missesNow K S a = m_missesNow_lp K S a r j n → J p l e { frames := 4, cells := 0, slots := 0, locals := 88 } s m ([.ref (K 1), .ref a] : List Value).toArray below meth c (MQ below (QC E (pv (.int (m_missesNow K S a)) S)) ([.ref (K 1), .ref a] : List Value).toArray s 0 0 (AE E)) E 5 4 [(0, .ref (K 1)), (1, .ref a), (2, .int n), (3, .int (nI j))] [] S 0 0 := by
    intro r
    induction r with
    | zero =>
      intro j n hj hq
      refine j_iload_n M dX5_missesNow_4 rfl ?_
      refine j_aload_n M dX5_missesNow_5 rfl ?_
      refine j_get (v := .ref (K 13)) M hW.k1.1 (pAt_5 E _ hW.k1.2) rfl inU_X5 3 (by decide) wF_X5_21 (fun _ h => h) (rfv hW.r35) dX5_missesNow_6 ?_
      refine j_callV1 (As := []) (x := .int (nI (sZ S (K 13)))) M cf_size wM_X5_68 (c_size hW.l13) hW.l13.1.1 (pAt_8 E _ hW.l13.1.2) rfl rfl ⟨Nat.le_of_ble_eq_true rfl, Nat.le_of_ble_eq_true rfl⟩ (Nat.le_of_ble_eq_true rfl) ⟨Nat.zero_le _, Nat.zero_le _⟩ dX5_missesNow_9 rfl ?_
      refine j_icmp_ge (tgt := 63) M dX5_missesNow_12 (by decide) (fun _ => ?_) (fun z => absurd (nI_le (by omega) (by omega)) z)
      refine j_iload_n M dX5_missesNow_63 rfl ?_
      exact j_iret (v := n) M dX5_missesNow_64 (Nat.le_refl _) (Nat.le_refl _) ⟨congrArg (fun z => some (Value.int z)) (show n = m_missesNow K S a from (hq.trans (by simp only [m_missesNow_lp])).symm), rfl⟩
    | succ r ih =>
      intro j n hj hq
      refine j_iload_n M dX5_missesNow_4 rfl ?_
      refine j_aload_n M dX5_missesNow_5 rfl ?_
      refine j_get (v := .ref (K 13)) M hW.k1.1 (pAt_5 E _ hW.k1.2) rfl inU_X5 3 (by decide) wF_X5_21 (fun _ h => h) (rfv hW.r35) dX5_missesNow_6 ?_
      refine j_callV1 (As := []) (x := .int (nI (sZ S (K 13)))) M cf_size wM_X5_68 (c_size hW.l13) hW.l13.1.1 (pAt_8 E _ hW.l13.1.2) rfl rfl ⟨Nat.le_of_ble_eq_true rfl, Nat.le_of_ble_eq_true rfl⟩ (Nat.le_of_ble_eq_true rfl) ⟨Nat.zero_le _, Nat.zero_le _⟩ dX5_missesNow_9 rfl ?_
      refine j_icmp_ge (tgt := 63) M dX5_missesNow_12 (by decide) (fun z => absurd z (nI_ge (by omega) (by omega))) (fun _ => ?_)
      refine j_aload_n M dX5_missesNow_15 rfl ?_
      refine j_get (v := .ref (K 13)) M hW.k1.1 (pAt_5 E _ hW.k1.2) rfl inU_X5 3 (by decide) wF_X5_21 (fun _ h => h) (rfv hW.r35) dX5_missesNow_16 ?_
      refine j_iload_n M dX5_missesNow_19 rfl ?_
      refine j_callV1 (As := [.int (nI j)]) (x := .ref (el S (K 13) j)) M cf_get wM_X5_72 (c_get hW.l13 (by decide) (show j < sZ S (K 13) by omega)) hW.l13.1.1 (pAt_8 E _ hW.l13.1.2) rfl rfl ⟨Nat.le_of_ble_eq_true rfl, Nat.le_of_ble_eq_true rfl⟩ (Nat.le_of_ble_eq_true rfl) ⟨Nat.zero_le _, Nat.zero_le _⟩ dX5_missesNow_20 rfl ?_
      refine j_cast M ((LSt.el hW.l13 (show j < sZ S (K 13) by omega)).1) (pAt_0 E _ ((LSt.el hW.l13 (show j < sZ S (K 13) by omega)).2)) rfl wL_X5_50 dX5_missesNow_23 ?_
      refine j_astore (lv' := [(4, .ref (el S (K 13) j)), (0, .ref (K 1)), (1, .ref a), (2, .int n), (3, .int (nI j))]) M dX5_missesNow_26 (by decide) rfl ?_
      refine j_aload M dX5_missesNow_28 rfl ?_
      refine j_aload_n M dX5_missesNow_30 rfl ?_
      refine j_acmp_eq (tgt := 57) M dX5_missesNow_31 (by decide) (fun c1 => ?_) (fun c1 => ?_)
      · refine j_iinc (v := (nI (j + 1))) (lv' := [(3, .int (nI (j + 1))), (4, .ref (el S (K 13) j)), (0, .ref (K 1)), (1, .ref a), (2, .int n)]) M dX5_missesNow_57 rfl (nI_1 _) (by decide) rfl ?_
        refine j_goto (tgt := 4) M dX5_missesNow_60 (by decide) ?_
        refine j_pick [2, 3, 4, 0] rfl ?_
        exact ih (j + 1) n (by omega) (hq.trans (by simp only [m_missesNow_lp, if_pos c1]))
      · refine j_aload_n M dX5_missesNow_34 rfl ?_
        refine j_aload M dX5_missesNow_35 rfl ?_
        refine j_iconst (v := 1) M dX5_missesNow_37 (by decide) ?_
        refine j_callV1 (As := [.ref (el S (K 13) j), .int 1]) M cf_X0_clashRule wM_X5_152 (c_clashRule hW hA hM haL haK ((LSt.el hW.l13 (show j < sZ S (K 13) by omega)).1) ((LSt.el hW.l13 (show j < sZ S (K 13) by omega)).2) 1) haL (pAt_0 E _ haK) rfl rfl ⟨Nat.le_of_ble_eq_true rfl, Nat.le_of_ble_eq_true rfl⟩ (Nat.le_of_ble_eq_true rfl) ⟨Nat.zero_le _, Nat.zero_le _⟩ dX5_missesNow_38 rfl ?_
        refine j_if_ne (tgt := 57) M dX5_missesNow_41 (by decide) (fun c2 => ?_) (fun c2 => ?_)
        · refine j_iinc (v := (nI (j + 1))) (lv' := [(3, .int (nI (j + 1))), (4, .ref (el S (K 13) j)), (0, .ref (K 1)), (1, .ref a), (2, .int n)]) M dX5_missesNow_57 rfl (nI_1 _) (by decide) rfl ?_
          refine j_goto (tgt := 4) M dX5_missesNow_60 (by decide) ?_
          refine j_pick [2, 3, 4, 0] rfl ?_
          exact ih (j + 1) n (by omega) (hq.trans (by simp only [m_missesNow_lp, if_neg c1, if_neg c2]))
        · refine j_aload_n M dX5_missesNow_44 rfl ?_
          refine j_aload M dX5_missesNow_45 rfl ?_
          refine j_iconst (v := 2) M dX5_missesNow_47 (by decide) ?_
          refine j_callV1 (As := [.ref (el S (K 13) j), .int 2]) M cf_X0_clashRule wM_X5_152 (c_clashRule hW hA hM haL haK ((LSt.el hW.l13 (show j < sZ S (K 13) by omega)).1) ((LSt.el hW.l13 (show j < sZ S (K 13) by omega)).2) 2) haL (pAt_0 E _ haK) rfl rfl ⟨Nat.le_of_ble_eq_true rfl, Nat.le_of_ble_eq_true rfl⟩ (Nat.le_of_ble_eq_true rfl) ⟨Nat.zero_le _, Nat.zero_le _⟩ dX5_missesNow_48 rfl ?_
          refine j_if_eq (tgt := 57) M dX5_missesNow_51 (by decide) (fun c3 => ?_) (fun c3 => ?_)
          · refine j_iinc (v := (nI (j + 1))) (lv' := [(3, .int (nI (j + 1))), (4, .ref (el S (K 13) j)), (0, .ref (K 1)), (1, .ref a), (2, .int n)]) M dX5_missesNow_57 rfl (nI_1 _) (by decide) rfl ?_
            refine j_goto (tgt := 4) M dX5_missesNow_60 (by decide) ?_
            refine j_pick [2, 3, 4, 0] rfl ?_
            exact ih (j + 1) n (by omega) (hq.trans (by simp only [m_missesNow_lp, if_neg c1, if_pos c2, if_pos c3]))
          · refine j_iinc (v := (n + 1)) (lv' := [(2, .int (n + 1)), (4, .ref (el S (K 13) j)), (0, .ref (K 1)), (1, .ref a), (3, .int (nI j))]) M dX5_missesNow_54 rfl rfl (by decide) rfl ?_
            refine j_iinc (v := (nI (j + 1))) (lv' := [(3, .int (nI (j + 1))), (2, .int (n + 1)), (4, .ref (el S (K 13) j)), (0, .ref (K 1)), (1, .ref a)]) M dX5_missesNow_57 rfl (nI_1 _) (by decide) rfl ?_
            refine j_goto (tgt := 4) M dX5_missesNow_60 (by decide) ?_
            refine j_pick [3, 4, 1, 0] rfl ?_
            exact ih (j + 1) (n + 1) (by omega) (hq.trans (by simp only [m_missesNow_lp, if_neg c1, if_pos c2, if_neg c3]))
  refine j_pick (lv' := [(0, .ref (K 1)), (1, .ref a), (2, .int 0), (3, .int (nI 0))]) [2, 3, 1, 0] rfl ?_
  exact lp (sZ S (K 13)) 0 0 (by omega) (by unfold m_missesNow; rfl)
def m_areLoadsSound_lp (K : Nat → Nat) (S : PS) : Nat → Nat → Int32
  | 0, j => 1
  | r + 1, j => if sM S 22 (el S (K 14) j) = none then
      m_areLoadsSound_lp K S r (j + 1)
    else
      if (sM S 14 ((sM S 22 (el S (K 14) j)).getD 0)) = some (el S (K 14) j) then
        m_areLoadsSound_lp K S r (j + 1)
      else
        0
def m_areLoadsSound (K : Nat → Nat) (S : PS) : Int32 :=
  m_areLoadsSound_lp K S (sZ S (K 14)) 0
theorem cf_X5_areLoadsSound : CFv yX5_areLoadsSound RX5 cX5_areLoadsSound 3 (some .boolean) 0 := ⟨wC_X5_areLoadsSound, wI_X5_areLoadsSound, wV_X5_X5_areLoadsSound, wN_X5, by decide +kernel⟩
set_option maxHeartbeats 4000000 in
set_option maxRecDepth 100000 in
theorem c_areLoadsSound {l : Launch} {E : EV} {K : Nat → Nat} {S : PS} (hW : WS K S) (hA : AW S) (hM : WM S) : CT l yX5_areLoadsSound cX5_areLoadsSound 3 (some .boolean) 3 64 0 0 E [.ref (K 1)] S (pv (.int (m_areLoadsSound K S)) S) := by
  refine CT.of (by decide) (Nat.le_of_ble_eq_true rfl) ?_
  intro p e s m below meth c M hin
  have M : MC E p s m _ meth c cX5_areLoadsSound RX5 3 (some .boolean) := M
  show J p l e _ s m _ below meth c _ E 3 0 [(0, .ref (K 1))] [] S 0 0
  refine j_iconst (v := 0) M dX5_areLoadsSound_0 (by decide) ?_
  refine j_istore_n (lv' := [(1, .int 0), (0, .ref (K 1))]) M dX5_areLoadsSound_1 rfl (by decide) rfl ?_
  have hz14 := hW.l14.2.1
  have lp : ∀ (r j : Nat), j + r = sZ S (K 14) → m_areLoadsSound K S = m_areLoadsSound_lp K S r j → J p l e { frames := 3, cells := 0, slots := 0, locals := 64 } s m ([.ref (K 1)] : List Value).toArray below meth c (MQ below (QC E (pv (.int (m_areLoadsSound K S)) S)) ([.ref (K 1)] : List Value).toArray s 0 0 (AE E)) E 3 2 [(0, .ref (K 1)), (1, .int (nI j))] [] S 0 0 := by
    intro r
    induction r with
    | zero =>
      intro j hj hq
      refine j_iload_n M dX5_areLoadsSound_2 rfl ?_
      refine j_aload_n M dX5_areLoadsSound_3 rfl ?_
      refine j_get (v := .ref (K 14)) M hW.k1.1 (pAt_5 E _ hW.k1.2) rfl inU_X5 4 (by decide) wF_X5_24 (fun _ h => h) (rfv hW.r36) dX5_areLoadsSound_4 ?_
      refine j_callV1 (As := []) (x := .int (nI (sZ S (K 14)))) M cf_size wM_X5_68 (c_size hW.l14) hW.l14.1.1 (pAt_8 E _ hW.l14.1.2) rfl rfl ⟨Nat.le_of_ble_eq_true rfl, Nat.le_of_ble_eq_true rfl⟩ (Nat.le_of_ble_eq_true rfl) ⟨Nat.zero_le _, Nat.zero_le _⟩ dX5_areLoadsSound_7 rfl ?_
      refine j_icmp_ge (tgt := 51) M dX5_areLoadsSound_10 (by decide) (fun _ => ?_) (fun z => absurd (nI_le (by omega) (by omega)) z)
      refine j_iconst (v := 1) M dX5_areLoadsSound_51 (by decide) ?_
      exact j_zret (v := 1) M dX5_areLoadsSound_52 (Nat.le_refl _) (Nat.le_refl _) rfl ⟨congrArg (fun z => some (Value.int z)) (show 1 = m_areLoadsSound K S from (hq.trans (by simp only [m_areLoadsSound_lp])).symm), rfl⟩
    | succ r ih =>
      intro j hj hq
      refine j_iload_n M dX5_areLoadsSound_2 rfl ?_
      refine j_aload_n M dX5_areLoadsSound_3 rfl ?_
      refine j_get (v := .ref (K 14)) M hW.k1.1 (pAt_5 E _ hW.k1.2) rfl inU_X5 4 (by decide) wF_X5_24 (fun _ h => h) (rfv hW.r36) dX5_areLoadsSound_4 ?_
      refine j_callV1 (As := []) (x := .int (nI (sZ S (K 14)))) M cf_size wM_X5_68 (c_size hW.l14) hW.l14.1.1 (pAt_8 E _ hW.l14.1.2) rfl rfl ⟨Nat.le_of_ble_eq_true rfl, Nat.le_of_ble_eq_true rfl⟩ (Nat.le_of_ble_eq_true rfl) ⟨Nat.zero_le _, Nat.zero_le _⟩ dX5_areLoadsSound_7 rfl ?_
      refine j_icmp_ge (tgt := 51) M dX5_areLoadsSound_10 (by decide) (fun z => absurd z (nI_ge (by omega) (by omega))) (fun _ => ?_)
      refine j_aload_n M dX5_areLoadsSound_13 rfl ?_
      refine j_get (v := .ref (K 14)) M hW.k1.1 (pAt_5 E _ hW.k1.2) rfl inU_X5 4 (by decide) wF_X5_24 (fun _ h => h) (rfv hW.r36) dX5_areLoadsSound_14 ?_
      refine j_iload_n M dX5_areLoadsSound_17 rfl ?_
      refine j_callV1 (As := [.int (nI j)]) (x := .ref (el S (K 14) j)) M cf_get wM_X5_72 (c_get hW.l14 (by decide) (show j < sZ S (K 14) by omega)) hW.l14.1.1 (pAt_8 E _ hW.l14.1.2) rfl rfl ⟨Nat.le_of_ble_eq_true rfl, Nat.le_of_ble_eq_true rfl⟩ (Nat.le_of_ble_eq_true rfl) ⟨Nat.zero_le _, Nat.zero_le _⟩ dX5_areLoadsSound_18 rfl ?_
      refine j_cast M ((LSt.el hW.l14 (show j < sZ S (K 14) by omega)).1) (pAt_2 E _ ((LSt.el hW.l14 (show j < sZ S (K 14) by omega)).2)) rfl wL_X5_110 dX5_areLoadsSound_21 ?_
      refine j_astore_n (lv' := [(2, .ref (el S (K 14) j)), (0, .ref (K 1)), (1, .int (nI j))]) M dX5_areLoadsSound_24 rfl (by decide) rfl ?_
      refine j_aload_n M dX5_areLoadsSound_25 rfl ?_
      refine j_getN (v := va_rf (sM S 22 (el S (K 14) j))) M ((LSt.el hW.l14 (show j < sZ S (K 14) by omega)).1) (pAt_2 E _ ((LSt.el hW.l14 (show j < sZ S (K 14) by omega)).2)) rfl inU_X2 3 (by decide) nF_X5_115 (fun _ h => h) rfl dX5_areLoadsSound_26 ?_
      refine j_opt (fun c1 => ?_) (fun c1s c1 => ?_)
      · refine j_ifnullN (tgt := 45) M dX5_areLoadsSound_29 (by decide) ?_
        refine j_iinc (v := (nI (j + 1))) (lv' := [(1, .int (nI (j + 1))), (2, .ref (el S (K 14) j)), (0, .ref (K 1))]) M dX5_areLoadsSound_45 rfl (nI_1 _) (by decide) rfl ?_
        refine j_goto (tgt := 2) M dX5_areLoadsSound_48 (by decide) ?_
        refine j_pick [2, 0] rfl ?_
        exact ih (j + 1) (by omega) (hq.trans (by simp only [m_areLoadsSound_lp, if_pos c1]))
      · refine j_ifnull M dX5_areLoadsSound_29 ?_
        refine j_aload_n M dX5_areLoadsSound_32 rfl ?_
        refine j_getN (v := .ref ((sM S 22 (el S (K 14) j)).getD 0)) M ((LSt.el hW.l14 (show j < sZ S (K 14) by omega)).1) (pAt_2 E _ ((LSt.el hW.l14 (show j < sZ S (K 14) by omega)).2)) rfl inU_X2 3 (by decide) nF_X5_115 (fun _ h => h) (rfv c1s) dX5_areLoadsSound_33 ?_
        refine j_getN (v := va_rf (sM S 14 ((sM S 22 (el S (K 14) j)).getD 0))) M ((hM.ca ((LSt.el hW.l14 (show j < sZ S (K 14) by omega)).1) ((LSt.el hW.l14 (show j < sZ S (K 14) by omega)).2) c1s).1) (pAt_0 E _ ((hM.ca ((LSt.el hW.l14 (show j < sZ S (K 14) by omega)).1) ((LSt.el hW.l14 (show j < sZ S (K 14) by omega)).2) c1s).2)) rfl inU_X0 14 (by decide) nF_X5_131 (fun _ h => h) rfl dX5_areLoadsSound_36 ?_
        refine j_aload_n M dX5_areLoadsSound_39 rfl ?_
        refine j_acmpo_eq (tgt := 45) M dX5_areLoadsSound_40 (by decide) (fun c2 => ?_) (fun c2 => ?_)
        · refine j_iinc (v := (nI (j + 1))) (lv' := [(1, .int (nI (j + 1))), (2, .ref (el S (K 14) j)), (0, .ref (K 1))]) M dX5_areLoadsSound_45 rfl (nI_1 _) (by decide) rfl ?_
          refine j_goto (tgt := 2) M dX5_areLoadsSound_48 (by decide) ?_
          refine j_pick [2, 0] rfl ?_
          exact ih (j + 1) (by omega) (hq.trans (by simp only [m_areLoadsSound_lp, if_neg c1, if_pos c2]))
        · refine j_iconst (v := 0) M dX5_areLoadsSound_43 (by decide) ?_
          exact j_zret (v := 0) M dX5_areLoadsSound_44 (Nat.le_refl _) (Nat.le_refl _) rfl ⟨congrArg (fun z => some (Value.int z)) (show 0 = m_areLoadsSound K S from (hq.trans (by simp only [m_areLoadsSound_lp, if_neg c1, if_neg c2])).symm), rfl⟩
  refine j_pick (lv' := [(0, .ref (K 1)), (1, .int (nI 0))]) [1, 0] rfl ?_
  exact lp (sZ S (K 14)) 0 (by omega) (by unfold m_areLoadsSound; rfl)
def m_areCranesSound_lp (K : Nat → Nat) (S : PS) : Nat → Nat → Int32
  | 0, j => 1
  | r + 1, j => if (m_towerOn K S (sI S 2 (el S (K 13) j))) = (nI j) then
      if (m_levelOf K S (sI S 2 (el S (K 13) j))) = 0 then
        if sM S 14 (el S (K 13) j) = none then
          if (m_isWithinBounds K S (el S (K 13) j)) = 0 then
            0
          else
            m_areCranesSound_lp K S r (j + 1)
        else
          if (sM S 22 ((sM S 14 (el S (K 13) j)).getD 0)) = some (el S (K 13) j) then
            if (m_isWithinBounds K S (el S (K 13) j)) = 0 then
              0
            else
              m_areCranesSound_lp K S r (j + 1)
          else
            0
      else
        if sM S 14 (el S (K 13) j) = none then
          0
        else
          if (sM S 22 ((sM S 14 (el S (K 13) j)).getD 0)) = some (el S (K 13) j) then
            0
          else
            0
    else
      if sM S 14 (el S (K 13) j) = none then
        0
      else
        if (sM S 22 ((sM S 14 (el S (K 13) j)).getD 0)) = some (el S (K 13) j) then
          0
        else
          0
def m_areCranesSound (K : Nat → Nat) (S : PS) : Int32 :=
  m_areCranesSound_lp K S (sZ S (K 13)) 0
theorem cf_X5_areCranesSound : CFv yX5_areCranesSound RX5 cX5_areCranesSound 5 (some .boolean) 0 := ⟨wC_X5_areCranesSound, wI_X5_areCranesSound, wV_X5_X5_areCranesSound, wN_X5, by decide +kernel⟩
set_option maxHeartbeats 4000000 in
set_option maxRecDepth 100000 in
theorem c_areCranesSound {l : Launch} {E : EV} {K : Nat → Nat} {S : PS} (hW : WS K S) (hA : AW S) (hM : WM S) : CT l yX5_areCranesSound cX5_areCranesSound 5 (some .boolean) 4 86 0 0 E [.ref (K 1)] S (pv (.int (m_areCranesSound K S)) S) := by
  refine CT.of (by decide) (Nat.le_of_ble_eq_true rfl) ?_
  intro p e s m below meth c M hin
  have M : MC E p s m _ meth c cX5_areCranesSound RX5 5 (some .boolean) := M
  show J p l e _ s m _ below meth c _ E 5 0 [(0, .ref (K 1))] [] S 0 0
  refine j_iconst (v := 0) M dX5_areCranesSound_0 (by decide) ?_
  refine j_istore_n (lv' := [(1, .int 0), (0, .ref (K 1))]) M dX5_areCranesSound_1 rfl (by decide) rfl ?_
  have hz13 := hW.l13.2.1
  have lp : ∀ (r j : Nat), j + r = sZ S (K 13) → m_areCranesSound K S = m_areCranesSound_lp K S r j → J p l e { frames := 4, cells := 0, slots := 0, locals := 86 } s m ([.ref (K 1)] : List Value).toArray below meth c (MQ below (QC E (pv (.int (m_areCranesSound K S)) S)) ([.ref (K 1)] : List Value).toArray s 0 0 (AE E)) E 5 2 [(0, .ref (K 1)), (1, .int (nI j))] [] S 0 0 := by
    intro r
    induction r with
    | zero =>
      intro j hj hq
      refine j_iload_n M dX5_areCranesSound_2 rfl ?_
      refine j_aload_n M dX5_areCranesSound_3 rfl ?_
      refine j_get (v := .ref (K 13)) M hW.k1.1 (pAt_5 E _ hW.k1.2) rfl inU_X5 3 (by decide) wF_X5_21 (fun _ h => h) (rfv hW.r35) dX5_areCranesSound_4 ?_
      refine j_callV1 (As := []) (x := .int (nI (sZ S (K 13)))) M cf_size wM_X5_68 (c_size hW.l13) hW.l13.1.1 (pAt_8 E _ hW.l13.1.2) rfl rfl ⟨Nat.le_of_ble_eq_true rfl, Nat.le_of_ble_eq_true rfl⟩ (Nat.le_of_ble_eq_true rfl) ⟨Nat.zero_le _, Nat.zero_le _⟩ dX5_areCranesSound_7 rfl ?_
      refine j_icmp_ge (tgt := 106) M dX5_areCranesSound_10 (by decide) (fun _ => ?_) (fun z => absurd (nI_le (by omega) (by omega)) z)
      refine j_iconst (v := 1) M dX5_areCranesSound_106 (by decide) ?_
      exact j_zret (v := 1) M dX5_areCranesSound_107 (Nat.le_refl _) (Nat.le_refl _) rfl ⟨congrArg (fun z => some (Value.int z)) (show 1 = m_areCranesSound K S from (hq.trans (by simp only [m_areCranesSound_lp])).symm), rfl⟩
    | succ r ih =>
      intro j hj hq
      refine j_iload_n M dX5_areCranesSound_2 rfl ?_
      refine j_aload_n M dX5_areCranesSound_3 rfl ?_
      refine j_get (v := .ref (K 13)) M hW.k1.1 (pAt_5 E _ hW.k1.2) rfl inU_X5 3 (by decide) wF_X5_21 (fun _ h => h) (rfv hW.r35) dX5_areCranesSound_4 ?_
      refine j_callV1 (As := []) (x := .int (nI (sZ S (K 13)))) M cf_size wM_X5_68 (c_size hW.l13) hW.l13.1.1 (pAt_8 E _ hW.l13.1.2) rfl rfl ⟨Nat.le_of_ble_eq_true rfl, Nat.le_of_ble_eq_true rfl⟩ (Nat.le_of_ble_eq_true rfl) ⟨Nat.zero_le _, Nat.zero_le _⟩ dX5_areCranesSound_7 rfl ?_
      refine j_icmp_ge (tgt := 106) M dX5_areCranesSound_10 (by decide) (fun z => absurd z (nI_ge (by omega) (by omega))) (fun _ => ?_)
      refine j_aload_n M dX5_areCranesSound_13 rfl ?_
      refine j_get (v := .ref (K 13)) M hW.k1.1 (pAt_5 E _ hW.k1.2) rfl inU_X5 3 (by decide) wF_X5_21 (fun _ h => h) (rfv hW.r35) dX5_areCranesSound_14 ?_
      refine j_iload_n M dX5_areCranesSound_17 rfl ?_
      refine j_callV1 (As := [.int (nI j)]) (x := .ref (el S (K 13) j)) M cf_get wM_X5_72 (c_get hW.l13 (by decide) (show j < sZ S (K 13) by omega)) hW.l13.1.1 (pAt_8 E _ hW.l13.1.2) rfl rfl ⟨Nat.le_of_ble_eq_true rfl, Nat.le_of_ble_eq_true rfl⟩ (Nat.le_of_ble_eq_true rfl) ⟨Nat.zero_le _, Nat.zero_le _⟩ dX5_areCranesSound_18 rfl ?_
      refine j_cast M ((LSt.el hW.l13 (show j < sZ S (K 13) by omega)).1) (pAt_0 E _ ((LSt.el hW.l13 (show j < sZ S (K 13) by omega)).2)) rfl wL_X5_50 dX5_areCranesSound_21 ?_
      refine j_astore_n (lv' := [(2, .ref (el S (K 13) j)), (0, .ref (K 1)), (1, .int (nI j))]) M dX5_areCranesSound_24 rfl (by decide) rfl ?_
      refine j_aload_n M dX5_areCranesSound_25 rfl ?_
      refine j_aload_n M dX5_areCranesSound_26 rfl ?_
      refine j_getN (v := .int (sI S 2 (el S (K 13) j))) M ((LSt.el hW.l13 (show j < sZ S (K 13) by omega)).1) (pAt_0 E _ ((LSt.el hW.l13 (show j < sZ S (K 13) by omega)).2)) rfl inU_X0 2 (by decide) nF_X5_107 (fun _ h => h) rfl dX5_areCranesSound_27 ?_
      refine j_callV1 (As := [.int (sI S 2 (el S (K 13) j))]) M cf_X5_towerOn wM_X5_125 (c_towerOn hW hA hM (sI S 2 (el S (K 13) j))) hW.k1.1 (pAt_5 E _ hW.k1.2) rfl rfl ⟨Nat.le_of_ble_eq_true rfl, Nat.le_of_ble_eq_true rfl⟩ (Nat.le_of_ble_eq_true rfl) ⟨Nat.zero_le _, Nat.zero_le _⟩ dX5_areCranesSound_30 rfl ?_
      refine j_iload_n M dX5_areCranesSound_33 rfl ?_
      refine j_icmp_ne (tgt := 55) M dX5_areCranesSound_34 (by decide) (fun c1 => ?_) (fun c1 => ?_)
      · refine j_iconst (v := 0) M dX5_areCranesSound_55 (by decide) ?_
        refine j_istore_n (lv' := [(3, .int 0), (2, .ref (el S (K 13) j)), (0, .ref (K 1)), (1, .int (nI j))]) M dX5_areCranesSound_56 rfl (by decide) rfl ?_
        refine j_aload_n M dX5_areCranesSound_57 rfl ?_
        refine j_getN (v := va_rf (sM S 14 (el S (K 13) j))) M ((LSt.el hW.l13 (show j < sZ S (K 13) by omega)).1) (pAt_0 E _ ((LSt.el hW.l13 (show j < sZ S (K 13) by omega)).2)) rfl inU_X0 14 (by decide) nF_X5_131 (fun _ h => h) rfl dX5_areCranesSound_58 ?_
        refine j_opt (fun c2 => ?_) (fun c2s c2 => ?_)
        · refine j_ifnullN (tgt := 75) M dX5_areCranesSound_61 (by decide) ?_
          refine j_iconst (v := 1) M dX5_areCranesSound_75 (by decide) ?_
          refine j_goto (tgt := 80) M dX5_areCranesSound_76 (by decide) ?_
          refine j_istore (lv' := [(4, .int 1), (3, .int 0), (2, .ref (el S (K 13) j)), (0, .ref (K 1)), (1, .int (nI j))]) M dX5_areCranesSound_80 (by decide) rfl ?_
          refine j_iload_n M dX5_areCranesSound_82 rfl ?_
          refine j_if_eq (tgt := 98) M dX5_areCranesSound_83 (by decide) (fun _ => ?_) (fun z => absurd (by decide) z)
          refine j_iconst (v := 0) M dX5_areCranesSound_98 (by decide) ?_
          exact j_zret (v := 0) M dX5_areCranesSound_99 (Nat.le_refl _) (Nat.le_refl _) rfl ⟨congrArg (fun z => some (Value.int z)) (show 0 = m_areCranesSound K S from (hq.trans (by simp only [m_areCranesSound_lp, if_neg c1, if_pos c2])).symm), rfl⟩
        · refine j_ifnull M dX5_areCranesSound_61 ?_
          refine j_aload_n M dX5_areCranesSound_64 rfl ?_
          refine j_getN (v := .ref ((sM S 14 (el S (K 13) j)).getD 0)) M ((LSt.el hW.l13 (show j < sZ S (K 13) by omega)).1) (pAt_0 E _ ((LSt.el hW.l13 (show j < sZ S (K 13) by omega)).2)) rfl inU_X0 14 (by decide) nF_X5_131 (fun _ h => h) (rfv c2s) dX5_areCranesSound_65 ?_
          refine j_getN (v := va_rf (sM S 22 ((sM S 14 (el S (K 13) j)).getD 0))) M ((hM.ld ((LSt.el hW.l13 (show j < sZ S (K 13) by omega)).1) ((LSt.el hW.l13 (show j < sZ S (K 13) by omega)).2) c2s).1) (pAt_2 E _ ((hM.ld ((LSt.el hW.l13 (show j < sZ S (K 13) by omega)).1) ((LSt.el hW.l13 (show j < sZ S (K 13) by omega)).2) c2s).2)) rfl inU_X2 3 (by decide) nF_X5_115 (fun _ h => h) rfl dX5_areCranesSound_68 ?_
          refine j_aload_n M dX5_areCranesSound_71 rfl ?_
          refine j_acmpo_ne (tgt := 79) M dX5_areCranesSound_72 (by decide) (fun c3 => ?_) (fun c3 => ?_)
          · refine j_iconst (v := 0) M dX5_areCranesSound_79 (by decide) ?_
            refine j_istore (lv' := [(4, .int 0), (3, .int 0), (2, .ref (el S (K 13) j)), (0, .ref (K 1)), (1, .int (nI j))]) M dX5_areCranesSound_80 (by decide) rfl ?_
            refine j_iload_n M dX5_areCranesSound_82 rfl ?_
            refine j_if_eq (tgt := 98) M dX5_areCranesSound_83 (by decide) (fun _ => ?_) (fun z => absurd (by decide) z)
            refine j_iconst (v := 0) M dX5_areCranesSound_98 (by decide) ?_
            exact j_zret (v := 0) M dX5_areCranesSound_99 (Nat.le_refl _) (Nat.le_refl _) rfl ⟨congrArg (fun z => some (Value.int z)) (show 0 = m_areCranesSound K S from (hq.trans (by simp only [m_areCranesSound_lp, if_neg c1, if_neg c2, if_neg c3])).symm), rfl⟩
          · refine j_iconst (v := 1) M dX5_areCranesSound_75 (by decide) ?_
            refine j_goto (tgt := 80) M dX5_areCranesSound_76 (by decide) ?_
            refine j_istore (lv' := [(4, .int 1), (3, .int 0), (2, .ref (el S (K 13) j)), (0, .ref (K 1)), (1, .int (nI j))]) M dX5_areCranesSound_80 (by decide) rfl ?_
            refine j_iload_n M dX5_areCranesSound_82 rfl ?_
            refine j_if_eq (tgt := 98) M dX5_areCranesSound_83 (by decide) (fun _ => ?_) (fun z => absurd (by decide) z)
            refine j_iconst (v := 0) M dX5_areCranesSound_98 (by decide) ?_
            exact j_zret (v := 0) M dX5_areCranesSound_99 (Nat.le_refl _) (Nat.le_refl _) rfl ⟨congrArg (fun z => some (Value.int z)) (show 0 = m_areCranesSound K S from (hq.trans (by simp only [m_areCranesSound_lp, if_neg c1, if_neg c2, if_pos c3])).symm), rfl⟩
      · refine j_aload_n M dX5_areCranesSound_37 rfl ?_
        refine j_get (v := .ref (K 2)) M hW.k1.1 (pAt_5 E _ hW.k1.2) rfl inU_X5 0 (by decide) wF_X5_46 (fun _ h => h) (rfv hW.r32) dX5_areCranesSound_38 ?_
        refine j_aload_n M dX5_areCranesSound_41 rfl ?_
        refine j_getN (v := .int (sI S 2 (el S (K 13) j))) M ((LSt.el hW.l13 (show j < sZ S (K 13) by omega)).1) (pAt_0 E _ ((LSt.el hW.l13 (show j < sZ S (K 13) by omega)).2)) rfl inU_X0 2 (by decide) nF_X5_107 (fun _ h => h) rfl dX5_areCranesSound_42 ?_
        refine j_callV1 (As := [.int (sI S 2 (el S (K 13) j))]) M cf_X1_levelOf wM_X5_138 (c_levelOf hW (sI S 2 (el S (K 13) j))) hW.k2.1 (pAt_1 E _ hW.k2.2) rfl rfl ⟨Nat.le_of_ble_eq_true rfl, Nat.le_of_ble_eq_true rfl⟩ (Nat.le_of_ble_eq_true rfl) ⟨Nat.zero_le _, Nat.zero_le _⟩ dX5_areCranesSound_45 rfl ?_
        refine j_if_ne (tgt := 55) M dX5_areCranesSound_48 (by decide) (fun c4 => ?_) (fun c4 => ?_)
        · refine j_iconst (v := 0) M dX5_areCranesSound_55 (by decide) ?_
          refine j_istore_n (lv' := [(3, .int 0), (2, .ref (el S (K 13) j)), (0, .ref (K 1)), (1, .int (nI j))]) M dX5_areCranesSound_56 rfl (by decide) rfl ?_
          refine j_aload_n M dX5_areCranesSound_57 rfl ?_
          refine j_getN (v := va_rf (sM S 14 (el S (K 13) j))) M ((LSt.el hW.l13 (show j < sZ S (K 13) by omega)).1) (pAt_0 E _ ((LSt.el hW.l13 (show j < sZ S (K 13) by omega)).2)) rfl inU_X0 14 (by decide) nF_X5_131 (fun _ h => h) rfl dX5_areCranesSound_58 ?_
          refine j_opt (fun c5 => ?_) (fun c5s c5 => ?_)
          · refine j_ifnullN (tgt := 75) M dX5_areCranesSound_61 (by decide) ?_
            refine j_iconst (v := 1) M dX5_areCranesSound_75 (by decide) ?_
            refine j_goto (tgt := 80) M dX5_areCranesSound_76 (by decide) ?_
            refine j_istore (lv' := [(4, .int 1), (3, .int 0), (2, .ref (el S (K 13) j)), (0, .ref (K 1)), (1, .int (nI j))]) M dX5_areCranesSound_80 (by decide) rfl ?_
            refine j_iload_n M dX5_areCranesSound_82 rfl ?_
            refine j_if_eq (tgt := 98) M dX5_areCranesSound_83 (by decide) (fun _ => ?_) (fun z => absurd (by decide) z)
            refine j_iconst (v := 0) M dX5_areCranesSound_98 (by decide) ?_
            exact j_zret (v := 0) M dX5_areCranesSound_99 (Nat.le_refl _) (Nat.le_refl _) rfl ⟨congrArg (fun z => some (Value.int z)) (show 0 = m_areCranesSound K S from (hq.trans (by simp only [m_areCranesSound_lp, if_pos c1, if_neg c4, if_pos c5])).symm), rfl⟩
          · refine j_ifnull M dX5_areCranesSound_61 ?_
            refine j_aload_n M dX5_areCranesSound_64 rfl ?_
            refine j_getN (v := .ref ((sM S 14 (el S (K 13) j)).getD 0)) M ((LSt.el hW.l13 (show j < sZ S (K 13) by omega)).1) (pAt_0 E _ ((LSt.el hW.l13 (show j < sZ S (K 13) by omega)).2)) rfl inU_X0 14 (by decide) nF_X5_131 (fun _ h => h) (rfv c5s) dX5_areCranesSound_65 ?_
            refine j_getN (v := va_rf (sM S 22 ((sM S 14 (el S (K 13) j)).getD 0))) M ((hM.ld ((LSt.el hW.l13 (show j < sZ S (K 13) by omega)).1) ((LSt.el hW.l13 (show j < sZ S (K 13) by omega)).2) c5s).1) (pAt_2 E _ ((hM.ld ((LSt.el hW.l13 (show j < sZ S (K 13) by omega)).1) ((LSt.el hW.l13 (show j < sZ S (K 13) by omega)).2) c5s).2)) rfl inU_X2 3 (by decide) nF_X5_115 (fun _ h => h) rfl dX5_areCranesSound_68 ?_
            refine j_aload_n M dX5_areCranesSound_71 rfl ?_
            refine j_acmpo_ne (tgt := 79) M dX5_areCranesSound_72 (by decide) (fun c6 => ?_) (fun c6 => ?_)
            · refine j_iconst (v := 0) M dX5_areCranesSound_79 (by decide) ?_
              refine j_istore (lv' := [(4, .int 0), (3, .int 0), (2, .ref (el S (K 13) j)), (0, .ref (K 1)), (1, .int (nI j))]) M dX5_areCranesSound_80 (by decide) rfl ?_
              refine j_iload_n M dX5_areCranesSound_82 rfl ?_
              refine j_if_eq (tgt := 98) M dX5_areCranesSound_83 (by decide) (fun _ => ?_) (fun z => absurd (by decide) z)
              refine j_iconst (v := 0) M dX5_areCranesSound_98 (by decide) ?_
              exact j_zret (v := 0) M dX5_areCranesSound_99 (Nat.le_refl _) (Nat.le_refl _) rfl ⟨congrArg (fun z => some (Value.int z)) (show 0 = m_areCranesSound K S from (hq.trans (by simp only [m_areCranesSound_lp, if_pos c1, if_neg c4, if_neg c5, if_neg c6])).symm), rfl⟩
            · refine j_iconst (v := 1) M dX5_areCranesSound_75 (by decide) ?_
              refine j_goto (tgt := 80) M dX5_areCranesSound_76 (by decide) ?_
              refine j_istore (lv' := [(4, .int 1), (3, .int 0), (2, .ref (el S (K 13) j)), (0, .ref (K 1)), (1, .int (nI j))]) M dX5_areCranesSound_80 (by decide) rfl ?_
              refine j_iload_n M dX5_areCranesSound_82 rfl ?_
              refine j_if_eq (tgt := 98) M dX5_areCranesSound_83 (by decide) (fun _ => ?_) (fun z => absurd (by decide) z)
              refine j_iconst (v := 0) M dX5_areCranesSound_98 (by decide) ?_
              exact j_zret (v := 0) M dX5_areCranesSound_99 (Nat.le_refl _) (Nat.le_refl _) rfl ⟨congrArg (fun z => some (Value.int z)) (show 0 = m_areCranesSound K S from (hq.trans (by simp only [m_areCranesSound_lp, if_pos c1, if_neg c4, if_neg c5, if_pos c6])).symm), rfl⟩
        · refine j_iconst (v := 1) M dX5_areCranesSound_51 (by decide) ?_
          refine j_goto (tgt := 56) M dX5_areCranesSound_52 (by decide) ?_
          refine j_istore_n (lv' := [(3, .int 1), (2, .ref (el S (K 13) j)), (0, .ref (K 1)), (1, .int (nI j))]) M dX5_areCranesSound_56 rfl (by decide) rfl ?_
          refine j_aload_n M dX5_areCranesSound_57 rfl ?_
          refine j_getN (v := va_rf (sM S 14 (el S (K 13) j))) M ((LSt.el hW.l13 (show j < sZ S (K 13) by omega)).1) (pAt_0 E _ ((LSt.el hW.l13 (show j < sZ S (K 13) by omega)).2)) rfl inU_X0 14 (by decide) nF_X5_131 (fun _ h => h) rfl dX5_areCranesSound_58 ?_
          refine j_opt (fun c7 => ?_) (fun c7s c7 => ?_)
          · refine j_ifnullN (tgt := 75) M dX5_areCranesSound_61 (by decide) ?_
            refine j_iconst (v := 1) M dX5_areCranesSound_75 (by decide) ?_
            refine j_goto (tgt := 80) M dX5_areCranesSound_76 (by decide) ?_
            refine j_istore (lv' := [(4, .int 1), (3, .int 1), (2, .ref (el S (K 13) j)), (0, .ref (K 1)), (1, .int (nI j))]) M dX5_areCranesSound_80 (by decide) rfl ?_
            refine j_iload_n M dX5_areCranesSound_82 rfl ?_
            refine j_if_eq (tgt := 98) M dX5_areCranesSound_83 (by decide) (fun z => absurd z (by decide)) (fun _ => ?_)
            refine j_iload M dX5_areCranesSound_86 rfl ?_
            refine j_if_eq (tgt := 98) M dX5_areCranesSound_88 (by decide) (fun z => absurd z (by decide)) (fun _ => ?_)
            refine j_aload_n M dX5_areCranesSound_91 rfl ?_
            refine j_callV1 (As := []) M cf_X0_isWithinBounds wM_X5_223 (c_isWithinBounds hW ((LSt.el hW.l13 (show j < sZ S (K 13) by omega)).1) ((LSt.el hW.l13 (show j < sZ S (K 13) by omega)).2)) ((LSt.el hW.l13 (show j < sZ S (K 13) by omega)).1) (pAt_0 E _ ((LSt.el hW.l13 (show j < sZ S (K 13) by omega)).2)) rfl rfl ⟨Nat.le_of_ble_eq_true rfl, Nat.le_of_ble_eq_true rfl⟩ (Nat.le_of_ble_eq_true rfl) ⟨Nat.zero_le _, Nat.zero_le _⟩ dX5_areCranesSound_92 rfl ?_
            refine j_if_ne (tgt := 100) M dX5_areCranesSound_95 (by decide) (fun c8 => ?_) (fun c8 => ?_)
            · refine j_iinc (v := (nI (j + 1))) (lv' := [(1, .int (nI (j + 1))), (4, .int 1), (3, .int 1), (2, .ref (el S (K 13) j)), (0, .ref (K 1))]) M dX5_areCranesSound_100 rfl (nI_1 _) (by decide) rfl ?_
              refine j_goto (tgt := 2) M dX5_areCranesSound_103 (by decide) ?_
              refine j_pick [4, 0] rfl ?_
              exact ih (j + 1) (by omega) (hq.trans (by simp only [m_areCranesSound_lp, if_pos c1, if_pos c4, if_pos c7, if_neg c8]))
            · refine j_iconst (v := 0) M dX5_areCranesSound_98 (by decide) ?_
              exact j_zret (v := 0) M dX5_areCranesSound_99 (Nat.le_refl _) (Nat.le_refl _) rfl ⟨congrArg (fun z => some (Value.int z)) (show 0 = m_areCranesSound K S from (hq.trans (by simp only [m_areCranesSound_lp, if_pos c1, if_pos c4, if_pos c7, if_pos c8])).symm), rfl⟩
          · refine j_ifnull M dX5_areCranesSound_61 ?_
            refine j_aload_n M dX5_areCranesSound_64 rfl ?_
            refine j_getN (v := .ref ((sM S 14 (el S (K 13) j)).getD 0)) M ((LSt.el hW.l13 (show j < sZ S (K 13) by omega)).1) (pAt_0 E _ ((LSt.el hW.l13 (show j < sZ S (K 13) by omega)).2)) rfl inU_X0 14 (by decide) nF_X5_131 (fun _ h => h) (rfv c7s) dX5_areCranesSound_65 ?_
            refine j_getN (v := va_rf (sM S 22 ((sM S 14 (el S (K 13) j)).getD 0))) M ((hM.ld ((LSt.el hW.l13 (show j < sZ S (K 13) by omega)).1) ((LSt.el hW.l13 (show j < sZ S (K 13) by omega)).2) c7s).1) (pAt_2 E _ ((hM.ld ((LSt.el hW.l13 (show j < sZ S (K 13) by omega)).1) ((LSt.el hW.l13 (show j < sZ S (K 13) by omega)).2) c7s).2)) rfl inU_X2 3 (by decide) nF_X5_115 (fun _ h => h) rfl dX5_areCranesSound_68 ?_
            refine j_aload_n M dX5_areCranesSound_71 rfl ?_
            refine j_acmpo_ne (tgt := 79) M dX5_areCranesSound_72 (by decide) (fun c9 => ?_) (fun c9 => ?_)
            · refine j_iconst (v := 0) M dX5_areCranesSound_79 (by decide) ?_
              refine j_istore (lv' := [(4, .int 0), (3, .int 1), (2, .ref (el S (K 13) j)), (0, .ref (K 1)), (1, .int (nI j))]) M dX5_areCranesSound_80 (by decide) rfl ?_
              refine j_iload_n M dX5_areCranesSound_82 rfl ?_
              refine j_if_eq (tgt := 98) M dX5_areCranesSound_83 (by decide) (fun z => absurd z (by decide)) (fun _ => ?_)
              refine j_iload M dX5_areCranesSound_86 rfl ?_
              refine j_if_eq (tgt := 98) M dX5_areCranesSound_88 (by decide) (fun _ => ?_) (fun z => absurd (by decide) z)
              refine j_iconst (v := 0) M dX5_areCranesSound_98 (by decide) ?_
              exact j_zret (v := 0) M dX5_areCranesSound_99 (Nat.le_refl _) (Nat.le_refl _) rfl ⟨congrArg (fun z => some (Value.int z)) (show 0 = m_areCranesSound K S from (hq.trans (by simp only [m_areCranesSound_lp, if_pos c1, if_pos c4, if_neg c7, if_neg c9])).symm), rfl⟩
            · refine j_iconst (v := 1) M dX5_areCranesSound_75 (by decide) ?_
              refine j_goto (tgt := 80) M dX5_areCranesSound_76 (by decide) ?_
              refine j_istore (lv' := [(4, .int 1), (3, .int 1), (2, .ref (el S (K 13) j)), (0, .ref (K 1)), (1, .int (nI j))]) M dX5_areCranesSound_80 (by decide) rfl ?_
              refine j_iload_n M dX5_areCranesSound_82 rfl ?_
              refine j_if_eq (tgt := 98) M dX5_areCranesSound_83 (by decide) (fun z => absurd z (by decide)) (fun _ => ?_)
              refine j_iload M dX5_areCranesSound_86 rfl ?_
              refine j_if_eq (tgt := 98) M dX5_areCranesSound_88 (by decide) (fun z => absurd z (by decide)) (fun _ => ?_)
              refine j_aload_n M dX5_areCranesSound_91 rfl ?_
              refine j_callV1 (As := []) M cf_X0_isWithinBounds wM_X5_223 (c_isWithinBounds hW ((LSt.el hW.l13 (show j < sZ S (K 13) by omega)).1) ((LSt.el hW.l13 (show j < sZ S (K 13) by omega)).2)) ((LSt.el hW.l13 (show j < sZ S (K 13) by omega)).1) (pAt_0 E _ ((LSt.el hW.l13 (show j < sZ S (K 13) by omega)).2)) rfl rfl ⟨Nat.le_of_ble_eq_true rfl, Nat.le_of_ble_eq_true rfl⟩ (Nat.le_of_ble_eq_true rfl) ⟨Nat.zero_le _, Nat.zero_le _⟩ dX5_areCranesSound_92 rfl ?_
              refine j_if_ne (tgt := 100) M dX5_areCranesSound_95 (by decide) (fun c10 => ?_) (fun c10 => ?_)
              · refine j_iinc (v := (nI (j + 1))) (lv' := [(1, .int (nI (j + 1))), (4, .int 1), (3, .int 1), (2, .ref (el S (K 13) j)), (0, .ref (K 1))]) M dX5_areCranesSound_100 rfl (nI_1 _) (by decide) rfl ?_
                refine j_goto (tgt := 2) M dX5_areCranesSound_103 (by decide) ?_
                refine j_pick [4, 0] rfl ?_
                exact ih (j + 1) (by omega) (hq.trans (by simp only [m_areCranesSound_lp, if_pos c1, if_pos c4, if_neg c7, if_pos c9, if_neg c10]))
              · refine j_iconst (v := 0) M dX5_areCranesSound_98 (by decide) ?_
                exact j_zret (v := 0) M dX5_areCranesSound_99 (Nat.le_refl _) (Nat.le_refl _) rfl ⟨congrArg (fun z => some (Value.int z)) (show 0 = m_areCranesSound K S from (hq.trans (by simp only [m_areCranesSound_lp, if_pos c1, if_pos c4, if_neg c7, if_pos c9, if_pos c10])).symm), rfl⟩
  refine j_pick (lv' := [(0, .ref (K 1)), (1, .int (nI 0))]) [1, 0] rfl ?_
  exact lp (sZ S (K 13)) 0 (by omega) (by unfold m_areCranesSound; rfl)
def m_isShut_lp (K : Nat → Nat) (S : PS) (x : Int32) : Nat → Nat → Int32
  | 0, j => 0
  | r + 1, j => if (m_covers K S (el S (K 12) j) (m_rowOf K S x) (m_columnOf K S x)) = 0 then
      m_isShut_lp K S x r (j + 1)
    else
      if (m_isShutAt K S (el S (K 12) j) (m_hour K S)) = 0 then
        m_isShut_lp K S x r (j + 1)
      else
        1
def m_isShut (K : Nat → Nat) (S : PS) (x : Int32) : Int32 :=
  m_isShut_lp K S x (sZ S (K 12)) 0
theorem cf_X5_isShut : CFv yX5_isShut RX5 cX5_isShut 6 (some .boolean) 1 := ⟨wC_X5_isShut, wI_X5_isShut, wV_X5_X5_isShut, wN_X5, by decide +kernel⟩
set_option maxHeartbeats 4000000 in
set_option maxRecDepth 100000 in
theorem c_isShut {l : Launch} {E : EV} {K : Nat → Nat} {S : PS} (hW : WS K S) (hA : AW S) (hM : WM S) (x : Int32) : CT l yX5_isShut cX5_isShut 6 (some .boolean) 3 64 0 0 E [.ref (K 1), .int x] S (pv (.int (m_isShut K S x)) S) := by
  refine CT.of (by decide) (Nat.le_of_ble_eq_true rfl) ?_
  intro p e s m below meth c M hin
  have M : MC E p s m _ meth c cX5_isShut RX5 6 (some .boolean) := M
  show J p l e _ s m _ below meth c _ E 6 0 [(0, .ref (K 1)), (1, .int x)] [] S 0 0
  refine j_aload_n M dX5_isShut_0 rfl ?_
  refine j_get (v := .ref (K 2)) M hW.k1.1 (pAt_5 E _ hW.k1.2) rfl inU_X5 0 (by decide) wF_X5_46 (fun _ h => h) (rfv hW.r32) dX5_isShut_1 ?_
  refine j_iload_n M dX5_isShut_4 rfl ?_
  refine j_callV1 (As := [.int x]) M cf_X1_rowOf wM_X5_87 (c_rowOf hW x) hW.k2.1 (pAt_1 E _ hW.k2.2) rfl rfl ⟨Nat.le_of_ble_eq_true rfl, Nat.le_of_ble_eq_true rfl⟩ (Nat.le_of_ble_eq_true rfl) ⟨Nat.zero_le _, Nat.zero_le _⟩ dX5_isShut_5 rfl ?_
  refine j_istore_n (lv' := [(2, .int (m_rowOf K S x)), (0, .ref (K 1)), (1, .int x)]) M dX5_isShut_8 rfl (by decide) rfl ?_
  refine j_aload_n M dX5_isShut_9 rfl ?_
  refine j_get (v := .ref (K 2)) M hW.k1.1 (pAt_5 E _ hW.k1.2) rfl inU_X5 0 (by decide) wF_X5_46 (fun _ h => h) (rfv hW.r32) dX5_isShut_10 ?_
  refine j_iload_n M dX5_isShut_13 rfl ?_
  refine j_callV1 (As := [.int x]) M cf_X1_columnOf wM_X5_91 (c_columnOf hW x) hW.k2.1 (pAt_1 E _ hW.k2.2) rfl rfl ⟨Nat.le_of_ble_eq_true rfl, Nat.le_of_ble_eq_true rfl⟩ (Nat.le_of_ble_eq_true rfl) ⟨Nat.zero_le _, Nat.zero_le _⟩ dX5_isShut_14 rfl ?_
  refine j_istore_n (lv' := [(3, .int (m_columnOf K S x)), (2, .int (m_rowOf K S x)), (0, .ref (K 1)), (1, .int x)]) M dX5_isShut_17 rfl (by decide) rfl ?_
  refine j_iconst (v := 0) M dX5_isShut_18 (by decide) ?_
  refine j_istore (lv' := [(4, .int 0), (3, .int (m_columnOf K S x)), (2, .int (m_rowOf K S x)), (0, .ref (K 1)), (1, .int x)]) M dX5_isShut_19 (by decide) rfl ?_
  have hz12 := hW.l12.2.1
  have lp : ∀ (r j : Nat), j + r = sZ S (K 12) → m_isShut K S x = m_isShut_lp K S x r j → J p l e { frames := 3, cells := 0, slots := 0, locals := 64 } s m ([.ref (K 1), .int x] : List Value).toArray below meth c (MQ below (QC E (pv (.int (m_isShut K S x)) S)) ([.ref (K 1), .int x] : List Value).toArray s 0 0 (AE E)) E 6 21 [(0, .ref (K 1)), (1, .int x), (2, .int (m_rowOf K S x)), (3, .int (m_columnOf K S x)), (4, .int (nI j))] [] S 0 0 := by
    intro r
    induction r with
    | zero =>
      intro j hj hq
      refine j_iload M dX5_isShut_21 rfl ?_
      refine j_aload_n M dX5_isShut_23 rfl ?_
      refine j_get (v := .ref (K 12)) M hW.k1.1 (pAt_5 E _ hW.k1.2) rfl inU_X5 2 (by decide) wF_X5_18 (fun _ h => h) (rfv hW.r34) dX5_isShut_24 ?_
      refine j_callV1 (As := []) (x := .int (nI (sZ S (K 12)))) M cf_size wM_X5_68 (c_size hW.l12) hW.l12.1.1 (pAt_8 E _ hW.l12.1.2) rfl rfl ⟨Nat.le_of_ble_eq_true rfl, Nat.le_of_ble_eq_true rfl⟩ (Nat.le_of_ble_eq_true rfl) ⟨Nat.zero_le _, Nat.zero_le _⟩ dX5_isShut_27 rfl ?_
      refine j_icmp_ge (tgt := 77) M dX5_isShut_30 (by decide) (fun _ => ?_) (fun z => absurd (nI_le (by omega) (by omega)) z)
      refine j_iconst (v := 0) M dX5_isShut_77 (by decide) ?_
      exact j_zret (v := 0) M dX5_isShut_78 (Nat.le_refl _) (Nat.le_refl _) rfl ⟨congrArg (fun z => some (Value.int z)) (show 0 = m_isShut K S x from (hq.trans (by simp only [m_isShut_lp])).symm), rfl⟩
    | succ r ih =>
      intro j hj hq
      refine j_iload M dX5_isShut_21 rfl ?_
      refine j_aload_n M dX5_isShut_23 rfl ?_
      refine j_get (v := .ref (K 12)) M hW.k1.1 (pAt_5 E _ hW.k1.2) rfl inU_X5 2 (by decide) wF_X5_18 (fun _ h => h) (rfv hW.r34) dX5_isShut_24 ?_
      refine j_callV1 (As := []) (x := .int (nI (sZ S (K 12)))) M cf_size wM_X5_68 (c_size hW.l12) hW.l12.1.1 (pAt_8 E _ hW.l12.1.2) rfl rfl ⟨Nat.le_of_ble_eq_true rfl, Nat.le_of_ble_eq_true rfl⟩ (Nat.le_of_ble_eq_true rfl) ⟨Nat.zero_le _, Nat.zero_le _⟩ dX5_isShut_27 rfl ?_
      refine j_icmp_ge (tgt := 77) M dX5_isShut_30 (by decide) (fun z => absurd z (nI_ge (by omega) (by omega))) (fun _ => ?_)
      refine j_aload_n M dX5_isShut_33 rfl ?_
      refine j_get (v := .ref (K 12)) M hW.k1.1 (pAt_5 E _ hW.k1.2) rfl inU_X5 2 (by decide) wF_X5_18 (fun _ h => h) (rfv hW.r34) dX5_isShut_34 ?_
      refine j_iload M dX5_isShut_37 rfl ?_
      refine j_callV1 (As := [.int (nI j)]) (x := .ref (el S (K 12) j)) M cf_get wM_X5_72 (c_get hW.l12 (by decide) (show j < sZ S (K 12) by omega)) hW.l12.1.1 (pAt_8 E _ hW.l12.1.2) rfl rfl ⟨Nat.le_of_ble_eq_true rfl, Nat.le_of_ble_eq_true rfl⟩ (Nat.le_of_ble_eq_true rfl) ⟨Nat.zero_le _, Nat.zero_le _⟩ dX5_isShut_39 rfl ?_
      refine j_cast M ((LSt.el hW.l12 (show j < sZ S (K 12) by omega)).1) (pAt_6 E _ ((LSt.el hW.l12 (show j < sZ S (K 12) by omega)).2)) rfl wL_X5_94 dX5_isShut_42 ?_
      refine j_astore (lv' := [(5, .ref (el S (K 12) j)), (0, .ref (K 1)), (1, .int x), (2, .int (m_rowOf K S x)), (3, .int (m_columnOf K S x)), (4, .int (nI j))]) M dX5_isShut_45 (by decide) rfl ?_
      refine j_aload M dX5_isShut_47 rfl ?_
      refine j_iload_n M dX5_isShut_49 rfl ?_
      refine j_iload_n M dX5_isShut_50 rfl ?_
      refine j_callV1 (As := [.int (m_rowOf K S x), .int (m_columnOf K S x)]) M cf_X6_covers wM_X5_96 (c_covers hW ((LSt.el hW.l12 (show j < sZ S (K 12) by omega)).1) ((LSt.el hW.l12 (show j < sZ S (K 12) by omega)).2) (m_rowOf K S x) (m_columnOf K S x)) ((LSt.el hW.l12 (show j < sZ S (K 12) by omega)).1) (pAt_6 E _ ((LSt.el hW.l12 (show j < sZ S (K 12) by omega)).2)) rfl rfl ⟨Nat.le_of_ble_eq_true rfl, Nat.le_of_ble_eq_true rfl⟩ (Nat.le_of_ble_eq_true rfl) ⟨Nat.zero_le _, Nat.zero_le _⟩ dX5_isShut_51 rfl ?_
      refine j_if_eq (tgt := 71) M dX5_isShut_54 (by decide) (fun c1 => ?_) (fun c1 => ?_)
      · refine j_iinc (v := (nI (j + 1))) (lv' := [(4, .int (nI (j + 1))), (5, .ref (el S (K 12) j)), (0, .ref (K 1)), (1, .int x), (2, .int (m_rowOf K S x)), (3, .int (m_columnOf K S x))]) M dX5_isShut_71 rfl (nI_1 _) (by decide) rfl ?_
        refine j_goto (tgt := 21) M dX5_isShut_74 (by decide) ?_
        refine j_pick [2, 3, 4, 5, 0] rfl ?_
        exact ih (j + 1) (by omega) (hq.trans (by simp only [m_isShut_lp, if_pos c1]))
      · refine j_aload M dX5_isShut_57 rfl ?_
        refine j_aload_n M dX5_isShut_59 rfl ?_
        refine j_callV1 (As := []) M cf_X5_hour wM_X5_100 (c_hour hW) hW.k1.1 (pAt_5 E _ hW.k1.2) rfl rfl ⟨Nat.le_of_ble_eq_true rfl, Nat.le_of_ble_eq_true rfl⟩ (Nat.le_of_ble_eq_true rfl) ⟨Nat.zero_le _, Nat.zero_le _⟩ dX5_isShut_60 rfl ?_
        refine j_callV1 (As := [.int (m_hour K S)]) M cf_X6_isShutAt wM_X5_103 (c_isShutAt hW ((LSt.el hW.l12 (show j < sZ S (K 12) by omega)).1) ((LSt.el hW.l12 (show j < sZ S (K 12) by omega)).2) (m_hour K S)) ((LSt.el hW.l12 (show j < sZ S (K 12) by omega)).1) (pAt_6 E _ ((LSt.el hW.l12 (show j < sZ S (K 12) by omega)).2)) rfl rfl ⟨Nat.le_of_ble_eq_true rfl, Nat.le_of_ble_eq_true rfl⟩ (Nat.le_of_ble_eq_true rfl) ⟨Nat.zero_le _, Nat.zero_le _⟩ dX5_isShut_63 rfl ?_
        refine j_if_eq (tgt := 71) M dX5_isShut_66 (by decide) (fun c2 => ?_) (fun c2 => ?_)
        · refine j_iinc (v := (nI (j + 1))) (lv' := [(4, .int (nI (j + 1))), (5, .ref (el S (K 12) j)), (0, .ref (K 1)), (1, .int x), (2, .int (m_rowOf K S x)), (3, .int (m_columnOf K S x))]) M dX5_isShut_71 rfl (nI_1 _) (by decide) rfl ?_
          refine j_goto (tgt := 21) M dX5_isShut_74 (by decide) ?_
          refine j_pick [2, 3, 4, 5, 0] rfl ?_
          exact ih (j + 1) (by omega) (hq.trans (by simp only [m_isShut_lp, if_neg c1, if_pos c2]))
        · refine j_iconst (v := 1) M dX5_isShut_69 (by decide) ?_
          exact j_zret (v := 1) M dX5_isShut_70 (Nat.le_refl _) (Nat.le_refl _) rfl ⟨congrArg (fun z => some (Value.int z)) (show 1 = m_isShut K S x from (hq.trans (by simp only [m_isShut_lp, if_neg c1, if_neg c2])).symm), rfl⟩
  refine j_pick (lv' := [(0, .ref (K 1)), (1, .int x), (2, .int (m_rowOf K S x)), (3, .int (m_columnOf K S x)), (4, .int (nI 0))]) [3, 4, 2, 1, 0] rfl ?_
  exact lp (sZ S (K 12)) 0 (by omega) (by unfold m_isShut; rfl)
def m_windNow_lp (K : Nat → Nat) (S : PS) : Nat → Nat → Nat → Nat
  | 0, j, u => u
  | r + 1, j, u => if (sI S 39 (K 1)) < (sI S 29 (el S (K 11) j)) then
      m_windNow_lp K S r (j + 1) u
    else
      if (sI S 29 (el S (K 11) j)) < (sI S 29 u) then
        m_windNow_lp K S r (j + 1) u
      else
        m_windNow_lp K S r (j + 1) (el S (K 11) j)
def m_windNow (K : Nat → Nat) (S : PS) : Nat :=
  m_windNow_lp K S (sZ S (K 11)) 0 (K 5)
theorem cf_X5_windNow : CFv yX5_windNow RX5 cX5_windNow 4 (some (.object "Slewyard$Report")) 0 := ⟨wC_X5_windNow, wI_X5_windNow, wV_X5_X5_windNow, wN_X5, by decide +kernel⟩
set_option maxHeartbeats 4000000 in
set_option maxRecDepth 100000 in
theorem c_windNow {l : Launch} {E : EV} {K : Nat → Nat} {S : PS} (hW : WS K S) (hA : AW S) (hM : WM S) : CT l yX5_windNow cX5_windNow 4 (some (.object "Slewyard$Report")) 3 64 0 0 E [.ref (K 1)] S (pv (.ref (m_windNow K S)) S) := by
  refine CT.of (by decide) (Nat.le_of_ble_eq_true rfl) ?_
  intro p e s m below meth c M hin
  have M : MC E p s m _ meth c cX5_windNow RX5 4 (some (.object "Slewyard$Report")) := M
  show J p l e _ s m _ below meth c _ E 4 0 [(0, .ref (K 1))] [] S 0 0
  refine j_aload_n M dX5_windNow_0 rfl ?_
  refine j_get (v := .ref (K 5)) M hW.k1.1 (pAt_5 E _ hW.k1.2) rfl inU_X5 5 (by decide) wF_X5_32 (fun _ h => h) (rfv hW.r37) dX5_windNow_1 ?_
  refine j_astore_n (lv' := [(1, .ref (K 5)), (0, .ref (K 1))]) M dX5_windNow_4 rfl (by decide) rfl ?_
  refine j_iconst (v := 0) M dX5_windNow_5 (by decide) ?_
  refine j_istore_n (lv' := [(2, .int 0), (1, .ref (K 5)), (0, .ref (K 1))]) M dX5_windNow_6 rfl (by decide) rfl ?_
  have hz11 := hW.l11.2.1
  have lp : ∀ (r j : Nat) (u : Nat), j + r = sZ S (K 11) → InK S u 4 → m_windNow K S = m_windNow_lp K S r j u → J p l e { frames := 3, cells := 0, slots := 0, locals := 64 } s m ([.ref (K 1)] : List Value).toArray below meth c (MQ below (QC E (pv (.ref (m_windNow K S)) S)) ([.ref (K 1)] : List Value).toArray s 0 0 (AE E)) E 4 7 [(0, .ref (K 1)), (1, .ref u), (2, .int (nI j))] [] S 0 0 := by
    intro r
    induction r with
    | zero =>
      intro j u hj hu hq
      refine j_iload_n M dX5_windNow_7 rfl ?_
      refine j_aload_n M dX5_windNow_8 rfl ?_
      refine j_get (v := .ref (K 11)) M hW.k1.1 (pAt_5 E _ hW.k1.2) rfl inU_X5 1 (by decide) wF_X5_12 (fun _ h => h) (rfv hW.r33) dX5_windNow_9 ?_
      refine j_callV1 (As := []) (x := .int (nI (sZ S (K 11)))) M cf_size wM_X5_68 (c_size hW.l11) hW.l11.1.1 (pAt_8 E _ hW.l11.1.2) rfl rfl ⟨Nat.le_of_ble_eq_true rfl, Nat.le_of_ble_eq_true rfl⟩ (Nat.le_of_ble_eq_true rfl) ⟨Nat.zero_le _, Nat.zero_le _⟩ dX5_windNow_12 rfl ?_
      refine j_icmp_ge (tgt := 60) M dX5_windNow_15 (by decide) (fun _ => ?_) (fun z => absurd (nI_le (by omega) (by omega)) z)
      refine j_aload_n M dX5_windNow_60 rfl ?_
      exact j_aret (v := .ref u) M (Or.inl ⟨_, rfl⟩) (Or.inr ⟨_, rfl⟩) dX5_windNow_61 (Nat.le_refl _) (Nat.le_refl _) ⟨congrArg (fun z => some (Value.ref z)) (show u = m_windNow K S from (hq.trans (by simp only [m_windNow_lp])).symm), rfl⟩
    | succ r ih =>
      intro j u hj hu hq
      refine j_iload_n M dX5_windNow_7 rfl ?_
      refine j_aload_n M dX5_windNow_8 rfl ?_
      refine j_get (v := .ref (K 11)) M hW.k1.1 (pAt_5 E _ hW.k1.2) rfl inU_X5 1 (by decide) wF_X5_12 (fun _ h => h) (rfv hW.r33) dX5_windNow_9 ?_
      refine j_callV1 (As := []) (x := .int (nI (sZ S (K 11)))) M cf_size wM_X5_68 (c_size hW.l11) hW.l11.1.1 (pAt_8 E _ hW.l11.1.2) rfl rfl ⟨Nat.le_of_ble_eq_true rfl, Nat.le_of_ble_eq_true rfl⟩ (Nat.le_of_ble_eq_true rfl) ⟨Nat.zero_le _, Nat.zero_le _⟩ dX5_windNow_12 rfl ?_
      refine j_icmp_ge (tgt := 60) M dX5_windNow_15 (by decide) (fun z => absurd z (nI_ge (by omega) (by omega))) (fun _ => ?_)
      refine j_aload_n M dX5_windNow_18 rfl ?_
      refine j_get (v := .ref (K 11)) M hW.k1.1 (pAt_5 E _ hW.k1.2) rfl inU_X5 1 (by decide) wF_X5_12 (fun _ h => h) (rfv hW.r33) dX5_windNow_19 ?_
      refine j_iload_n M dX5_windNow_22 rfl ?_
      refine j_callV1 (As := [.int (nI j)]) (x := .ref (el S (K 11) j)) M cf_get wM_X5_72 (c_get hW.l11 (by decide) (show j < sZ S (K 11) by omega)) hW.l11.1.1 (pAt_8 E _ hW.l11.1.2) rfl rfl ⟨Nat.le_of_ble_eq_true rfl, Nat.le_of_ble_eq_true rfl⟩ (Nat.le_of_ble_eq_true rfl) ⟨Nat.zero_le _, Nat.zero_le _⟩ dX5_windNow_23 rfl ?_
      refine j_cast M ((LSt.el hW.l11 (show j < sZ S (K 11) by omega)).1) (pAt_4 E _ ((LSt.el hW.l11 (show j < sZ S (K 11) by omega)).2)) rfl wL_X5_27 dX5_windNow_26 ?_
      refine j_astore_n (lv' := [(3, .ref (el S (K 11) j)), (0, .ref (K 1)), (1, .ref u), (2, .int (nI j))]) M dX5_windNow_29 rfl (by decide) rfl ?_
      refine j_aload_n M dX5_windNow_30 rfl ?_
      refine j_getN (v := .int (sI S 29 (el S (K 11) j))) M ((LSt.el hW.l11 (show j < sZ S (K 11) by omega)).1) (pAt_4 E _ ((LSt.el hW.l11 (show j < sZ S (K 11) by omega)).2)) rfl inU_X4 0 (by decide) nF_X5_76 (fun _ h => h) rfl dX5_windNow_31 ?_
      refine j_aload_n M dX5_windNow_34 rfl ?_
      refine j_get (v := .int (sI S 39 (K 1))) M hW.k1.1 (pAt_5 E _ hW.k1.2) rfl inU_X5 7 (by decide) wF_X5_36 (fun _ h => h) rfl dX5_windNow_35 ?_
      refine j_icmp_gt (tgt := 54) M dX5_windNow_38 (by decide) (fun c1 => ?_) (fun c1 => ?_)
      · refine j_iinc (v := (nI (j + 1))) (lv' := [(2, .int (nI (j + 1))), (3, .ref (el S (K 11) j)), (0, .ref (K 1)), (1, .ref u)]) M dX5_windNow_54 rfl (nI_1 _) (by decide) rfl ?_
        refine j_goto (tgt := 7) M dX5_windNow_57 (by decide) ?_
        refine j_pick [2, 3, 0] rfl ?_
        exact ih (j + 1) u (by omega) ⟨hu.1, hu.2⟩ (hq.trans (by simp only [m_windNow_lp, if_pos c1]))
      · refine j_aload_n M dX5_windNow_41 rfl ?_
        refine j_getN (v := .int (sI S 29 (el S (K 11) j))) M ((LSt.el hW.l11 (show j < sZ S (K 11) by omega)).1) (pAt_4 E _ ((LSt.el hW.l11 (show j < sZ S (K 11) by omega)).2)) rfl inU_X4 0 (by decide) nF_X5_76 (fun _ h => h) rfl dX5_windNow_42 ?_
        refine j_aload_n M dX5_windNow_45 rfl ?_
        refine j_getN (v := .int (sI S 29 u)) M hu.1 (pAt_4 E _ hu.2) rfl inU_X4 0 (by decide) nF_X5_76 (fun _ h => h) rfl dX5_windNow_46 ?_
        refine j_icmp_lt (tgt := 54) M dX5_windNow_49 (by decide) (fun c2 => ?_) (fun c2 => ?_)
        · refine j_iinc (v := (nI (j + 1))) (lv' := [(2, .int (nI (j + 1))), (3, .ref (el S (K 11) j)), (0, .ref (K 1)), (1, .ref u)]) M dX5_windNow_54 rfl (nI_1 _) (by decide) rfl ?_
          refine j_goto (tgt := 7) M dX5_windNow_57 (by decide) ?_
          refine j_pick [2, 3, 0] rfl ?_
          exact ih (j + 1) u (by omega) ⟨hu.1, hu.2⟩ (hq.trans (by simp only [m_windNow_lp, if_neg c1, if_pos c2]))
        · refine j_aload_n M dX5_windNow_52 rfl ?_
          refine j_astore_n (lv' := [(1, .ref (el S (K 11) j)), (3, .ref (el S (K 11) j)), (0, .ref (K 1)), (2, .int (nI j))]) M dX5_windNow_53 rfl (by decide) rfl ?_
          refine j_iinc (v := (nI (j + 1))) (lv' := [(2, .int (nI (j + 1))), (1, .ref (el S (K 11) j)), (3, .ref (el S (K 11) j)), (0, .ref (K 1))]) M dX5_windNow_54 rfl (nI_1 _) (by decide) rfl ?_
          refine j_goto (tgt := 7) M dX5_windNow_57 (by decide) ?_
          refine j_pick [3, 1, 0] rfl ?_
          exact ih (j + 1) (el S (K 11) j) (by omega) ⟨(LSt.el hW.l11 (show j < sZ S (K 11) by omega)).1, (LSt.el hW.l11 (show j < sZ S (K 11) by omega)).2⟩ (hq.trans (by simp only [m_windNow_lp, if_neg c1, if_neg c2]))
  refine j_pick (lv' := [(0, .ref (K 1)), (1, .ref (K 5)), (2, .int (nI 0))]) [2, 1, 0] rfl ?_
  exact lp (sZ S (K 11)) 0 (K 5) (by omega) hW.k5 (by unfold m_windNow; rfl)
theorem k_windNow_lp {K : Nat → Nat} {S : PS} (hW : WS K S) : ∀ (r j u : Nat), j + r = sZ S (K 11) → InK S u 4 → InK S (m_windNow_lp K S r j u) 4
  | 0, j, u, _, hu => hu
  | r + 1, j, u, hj, hu => by
    have he : InK S (el S (K 11) j) 4 := LSt.el hW.l11 (by omega)
    simp only [m_windNow_lp]
    repeat' split
    all_goals first | exact k_windNow_lp hW r (j + 1) _ (by omega) hu | exact k_windNow_lp hW r (j + 1) _ (by omega) he
theorem k_windNow {K : Nat → Nat} {S : PS} (hW : WS K S) : InK S (m_windNow K S) 4 := k_windNow_lp hW _ _ _ (by omega) hW.k5
def m_force (K : Nat → Nat) (S : PS) : Int32 :=
  sI S 30 (m_windNow K S)
theorem cf_X5_force : CFv yX5_force RX5 cX5_force 1 (some .int) 0 := ⟨wC_X5_force, wI_X5_force, wV_X5_X5_force, wN_X5, by decide +kernel⟩
set_option maxHeartbeats 4000000 in
set_option maxRecDepth 100000 in
theorem c_force {l : Launch} {E : EV} {K : Nat → Nat} {S : PS} (hW : WS K S) (hA : AW S) (hM : WM S) : CT l yX5_force cX5_force 1 (some .int) 4 87 0 0 E [.ref (K 1)] S (pv (.int (m_force K S)) S) := by
  refine CT.of (by decide) (Nat.le_of_ble_eq_true rfl) ?_
  intro p e s m below meth c M hin
  have M : MC E p s m _ meth c cX5_force RX5 1 (some .int) := M
  show J p l e _ s m _ below meth c _ E 1 0 [(0, .ref (K 1))] [] S 0 0
  refine j_aload_n M dX5_force_0 rfl ?_
  refine j_callV1 (As := []) M cf_X5_windNow wM_X5_77 (c_windNow hW hA hM) hW.k1.1 (pAt_5 E _ hW.k1.2) rfl rfl ⟨Nat.le_of_ble_eq_true rfl, Nat.le_of_ble_eq_true rfl⟩ (Nat.le_of_ble_eq_true rfl) ⟨Nat.zero_le _, Nat.zero_le _⟩ dX5_force_1 rfl ?_
  refine j_getN (v := .int (sI S 30 (m_windNow K S))) M ((k_windNow hW).1) (pAt_4 E _ ((k_windNow hW).2)) rfl inU_X4 1 (by decide) nF_X5_81 (fun _ h => h) rfl dX5_force_4 ?_
  exact j_iret (v := (sI S 30 (m_windNow K S))) M dX5_force_7 (Nat.le_refl _) (Nat.le_refl _) ⟨congrArg (fun z => some (Value.int z)) (show (sI S 30 (m_windNow K S)) = m_force K S from rfl), rfl⟩
def m_windBearing (K : Nat → Nat) (S : PS) : Int32 :=
  sI S 31 (m_windNow K S)
theorem cf_X5_windBearing : CFv yX5_windBearing RX5 cX5_windBearing 1 (some .int) 0 := ⟨wC_X5_windBearing, wI_X5_windBearing, wV_X5_X5_windBearing, wN_X5, by decide +kernel⟩
set_option maxHeartbeats 4000000 in
set_option maxRecDepth 100000 in
theorem c_windBearing {l : Launch} {E : EV} {K : Nat → Nat} {S : PS} (hW : WS K S) (hA : AW S) (hM : WM S) : CT l yX5_windBearing cX5_windBearing 1 (some .int) 4 87 0 0 E [.ref (K 1)] S (pv (.int (m_windBearing K S)) S) := by
  refine CT.of (by decide) (Nat.le_of_ble_eq_true rfl) ?_
  intro p e s m below meth c M hin
  have M : MC E p s m _ meth c cX5_windBearing RX5 1 (some .int) := M
  show J p l e _ s m _ below meth c _ E 1 0 [(0, .ref (K 1))] [] S 0 0
  refine j_aload_n M dX5_windBearing_0 rfl ?_
  refine j_callV1 (As := []) M cf_X5_windNow wM_X5_77 (c_windNow hW hA hM) hW.k1.1 (pAt_5 E _ hW.k1.2) rfl rfl ⟨Nat.le_of_ble_eq_true rfl, Nat.le_of_ble_eq_true rfl⟩ (Nat.le_of_ble_eq_true rfl) ⟨Nat.zero_le _, Nat.zero_le _⟩ dX5_windBearing_1 rfl ?_
  refine j_getN (v := .int (sI S 31 (m_windNow K S))) M ((k_windNow hW).1) (pAt_4 E _ ((k_windNow hW).2)) rfl inU_X4 2 (by decide) nF_X5_84 (fun _ h => h) rfl dX5_windBearing_4 ?_
  exact j_iret (v := (sI S 31 (m_windNow K S))) M dX5_windBearing_7 (Nat.le_refl _) (Nat.le_refl _) ⟨congrArg (fun z => some (Value.int z)) (show (sI S 31 (m_windNow K S)) = m_windBearing K S from rfl), rfl⟩
def m_capacityOf (K : Nat → Nat) (S : PS) (a : Nat) (d : Int32) : Int32 :=
  if 1 ≤ d then
    imax (((sI S 7 a) / d) - (2 * (imax ((sI S 30 (m_windNow K S)) - 4) 0))) 0
  else
    0
theorem cf_X5_capacityOf : CFv yX5_capacityOf RX5 cX5_capacityOf 4 (some .int) 2 := ⟨wC_X5_capacityOf, wI_X5_capacityOf, wV_X5_X5_capacityOf, wN_X5, by decide +kernel⟩
set_option maxHeartbeats 4000000 in
set_option maxRecDepth 100000 in
theorem c_capacityOf {l : Launch} {E : EV} {K : Nat → Nat} {S : PS} (hW : WS K S) (hA : AW S) (hM : WM S) {a : Nat} (haL : a ∈ sL S) (haK : sK S a = 0) (d : Int32) : CT l yX5_capacityOf cX5_capacityOf 4 (some .int) 4 87 0 0 E [.ref (K 1), .ref a, .int d] S (pv (.int (m_capacityOf K S a d)) S) := by
  refine CT.of (by decide) (Nat.le_of_ble_eq_true rfl) ?_
  intro p e s m below meth c M hin
  have M : MC E p s m _ meth c cX5_capacityOf RX5 4 (some .int) := M
  show J p l e _ s m _ below meth c _ E 4 0 [(0, .ref (K 1)), (1, .ref a), (2, .int d)] [] S 0 0
  refine j_iload_n M dX5_capacityOf_0 rfl ?_
  refine j_iconst (v := 1) M dX5_capacityOf_1 (by decide) ?_
  refine j_icmp_ge (tgt := 7) M dX5_capacityOf_2 (by decide) (fun c1 => ?_) (fun c1 => ?_)
  · refine j_iconst (v := 2) M dX5_capacityOf_7 (by decide) ?_
    refine j_aload_n M dX5_capacityOf_8 rfl ?_
    refine j_callV1 (As := []) M cf_X5_windNow wM_X5_77 (c_windNow hW hA hM) hW.k1.1 (pAt_5 E _ hW.k1.2) rfl rfl ⟨Nat.le_of_ble_eq_true rfl, Nat.le_of_ble_eq_true rfl⟩ (Nat.le_of_ble_eq_true rfl) ⟨Nat.zero_le _, Nat.zero_le _⟩ dX5_capacityOf_9 rfl ?_
    refine j_getN (v := .int (sI S 30 (m_windNow K S))) M ((k_windNow hW).1) (pAt_4 E _ ((k_windNow hW).2)) rfl inU_X4 1 (by decide) nF_X5_81 (fun _ h => h) rfl dX5_capacityOf_12 ?_
    refine j_iconst (v := 4) M dX5_capacityOf_15 (by decide) ?_
    refine j_isub M dX5_capacityOf_16 ?_
    refine j_iconst (v := 0) M dX5_capacityOf_17 (by decide) ?_
    refine j_max M wM_X5_141 dX5_capacityOf_18 (Nat.le_of_ble_eq_true rfl) (Nat.le_of_ble_eq_true rfl) ⟨Nat.zero_le _, Nat.zero_le _⟩ ?_
    refine j_imul M dX5_capacityOf_21 ?_
    refine j_istore_n (lv' := [(3, .int (2 * (imax ((sI S 30 (m_windNow K S)) - 4) 0))), (0, .ref (K 1)), (1, .ref a), (2, .int d)]) M dX5_capacityOf_22 rfl (by decide) rfl ?_
    refine j_aload_n M dX5_capacityOf_23 rfl ?_
    refine j_getN (v := .int (sI S 7 a)) M haL (pAt_0 E _ haK) rfl inU_X0 7 (by decide) nF_X5_146 (fun _ h => h) rfl dX5_capacityOf_24 ?_
    refine j_iload_n M dX5_capacityOf_27 rfl ?_
    refine j_idiv M dX5_capacityOf_28 (ne1p c1) ?_
    refine j_iload_n M dX5_capacityOf_29 rfl ?_
    refine j_isub M dX5_capacityOf_30 ?_
    refine j_iconst (v := 0) M dX5_capacityOf_31 (by decide) ?_
    refine j_max M wM_X5_141 dX5_capacityOf_32 (Nat.le_of_ble_eq_true rfl) (Nat.le_of_ble_eq_true rfl) ⟨Nat.zero_le _, Nat.zero_le _⟩ ?_
    exact j_iret (v := (imax (((sI S 7 a) / d) - (2 * (imax ((sI S 30 (m_windNow K S)) - 4) 0))) 0)) M dX5_capacityOf_35 (Nat.le_refl _) (Nat.le_refl _) ⟨congrArg (fun z => some (Value.int z)) (show (imax (((sI S 7 a) / d) - (2 * (imax ((sI S 30 (m_windNow K S)) - 4) 0))) 0) = m_capacityOf K S a d from (by unfold m_capacityOf; rw [if_pos c1])), rfl⟩
  · refine j_iconst (v := 0) M dX5_capacityOf_5 (by decide) ?_
    exact j_iret (v := 0) M dX5_capacityOf_6 (Nat.le_refl _) (Nat.le_refl _) ⟨congrArg (fun z => some (Value.int z)) (show 0 = m_capacityOf K S a d from (by unfold m_capacityOf; rw [if_neg c1])), rfl⟩
def m_hindrance_lp (K : Nat → Nat) (S : PS) (a : Nat) (q : Int32) (t : Int32) : Nat → Nat → Int32
  | 0, j => 0
  | r + 1, j => if (nI j) = (sI S 1 a) then
      m_hindrance_lp K S a q t r (j + 1)
    else
      if ((t >>> ((nI j) &&& 31)) &&& 1) = 0 then
        if (m_clashRule K S a (el S (K 13) j) 1) = 0 then
          m_hindrance_lp K S a q t r (j + 1)
        else
          7
      else
        m_hindrance_lp K S a q t r (j + 1)
def m_hindrance (K : Nat → Nat) (S : PS) (a : Nat) (q : Int32) (t : Int32) : Int32 :=
  if (m_isPossible K S a) = 0 then
    1
  else
    if sM S 14 a = none then
      if 1 ≤ ((sI S 11 a) - (m_levelOf K S (m_plumb K S a))) then
        m_hindrance_lp K S a q t (sZ S (K 13)) 0
      else
        6
    else
      if (sI S 20 ((sM S 14 a).getD 0)) ≤ (m_capacityOf K S a (sI S 10 a)) then
        if (m_isShut K S (m_plumb K S a)) = 0 then
          if q = 0 then
            if 1 ≤ ((sI S 11 a) - (m_levelOf K S (m_plumb K S a))) then
              m_hindrance_lp K S a q t (sZ S (K 13)) 0
            else
              6
          else
            if 2 ≤ ((sI S 11 a) - (m_levelOf K S (m_plumb K S a))) then
              m_hindrance_lp K S a q t (sZ S (K 13)) 0
            else
              6
        else
          5
      else
        4
theorem cf_X5_hindrance : CFv yX5_hindrance RX5 cX5_hindrance 8 (some .int) 3 := ⟨wC_X5_hindrance, wI_X5_hindrance, wV_X5_X5_hindrance, wN_X5, by decide +kernel⟩
set_option maxHeartbeats 4000000 in
set_option maxRecDepth 100000 in
theorem c_hindrance {l : Launch} {E : EV} {K : Nat → Nat} {S : PS} (hW : WS K S) (hA : AW S) (hM : WM S) {a : Nat} (haL : a ∈ sL S) (haK : sK S a = 0) (q : Int32) (t : Int32) : CT l yX5_hindrance cX5_hindrance 8 (some .int) 5 110 0 0 E [.ref (K 1), .ref a, .int q, .int t] S (pv (.int (m_hindrance K S a q t)) S) := by
  refine CT.of (by decide) (Nat.le_of_ble_eq_true rfl) ?_
  intro p e s m below meth c M hin
  have M : MC E p s m _ meth c cX5_hindrance RX5 8 (some .int) := M
  show J p l e _ s m _ below meth c _ E 8 0 [(0, .ref (K 1)), (1, .ref a), (2, .int q), (3, .int t)] [] S 0 0
  have hz13 := hW.l13.2.1
  have lp : ∀ (r j : Nat), j + r = sZ S (K 13) → m_hindrance K S a q t = m_hindrance_lp K S a q t r j → J p l e { frames := 5, cells := 0, slots := 0, locals := 110 } s m ([.ref (K 1), .ref a, .int q, .int t] : List Value).toArray below meth c (MQ below (QC E (pv (.int (m_hindrance K S a q t)) S)) ([.ref (K 1), .ref a, .int q, .int t] : List Value).toArray s 0 0 (AE E)) E 8 104 [(0, .ref (K 1)), (1, .ref a), (3, .int t), (6, .int (nI j))] [] S 0 0 := by
    intro r
    induction r with
    | zero =>
      intro j hj hq
      refine j_iload M dX5_hindrance_104 rfl ?_
      refine j_aload_n M dX5_hindrance_106 rfl ?_
      refine j_get (v := .ref (K 13)) M hW.k1.1 (pAt_5 E _ hW.k1.2) rfl inU_X5 3 (by decide) wF_X5_21 (fun _ h => h) (rfv hW.r35) dX5_hindrance_107 ?_
      refine j_callV1 (As := []) (x := .int (nI (sZ S (K 13)))) M cf_size wM_X5_68 (c_size hW.l13) hW.l13.1.1 (pAt_8 E _ hW.l13.1.2) rfl rfl ⟨Nat.le_of_ble_eq_true rfl, Nat.le_of_ble_eq_true rfl⟩ (Nat.le_of_ble_eq_true rfl) ⟨Nat.zero_le _, Nat.zero_le _⟩ dX5_hindrance_110 rfl ?_
      refine j_icmp_ge (tgt := 175) M dX5_hindrance_113 (by decide) (fun _ => ?_) (fun z => absurd (nI_le (by omega) (by omega)) z)
      refine j_iconst (v := 0) M dX5_hindrance_175 (by decide) ?_
      exact j_iret (v := 0) M dX5_hindrance_176 (Nat.le_refl _) (Nat.le_refl _) ⟨congrArg (fun z => some (Value.int z)) (show 0 = m_hindrance K S a q t from (hq.trans (by simp only [m_hindrance_lp])).symm), rfl⟩
    | succ r ih =>
      intro j hj hq
      refine j_iload M dX5_hindrance_104 rfl ?_
      refine j_aload_n M dX5_hindrance_106 rfl ?_
      refine j_get (v := .ref (K 13)) M hW.k1.1 (pAt_5 E _ hW.k1.2) rfl inU_X5 3 (by decide) wF_X5_21 (fun _ h => h) (rfv hW.r35) dX5_hindrance_107 ?_
      refine j_callV1 (As := []) (x := .int (nI (sZ S (K 13)))) M cf_size wM_X5_68 (c_size hW.l13) hW.l13.1.1 (pAt_8 E _ hW.l13.1.2) rfl rfl ⟨Nat.le_of_ble_eq_true rfl, Nat.le_of_ble_eq_true rfl⟩ (Nat.le_of_ble_eq_true rfl) ⟨Nat.zero_le _, Nat.zero_le _⟩ dX5_hindrance_110 rfl ?_
      refine j_icmp_ge (tgt := 175) M dX5_hindrance_113 (by decide) (fun z => absurd z (nI_ge (by omega) (by omega))) (fun _ => ?_)
      refine j_iload M dX5_hindrance_116 rfl ?_
      refine j_aload_n M dX5_hindrance_118 rfl ?_
      refine j_getN (v := .int (sI S 1 a)) M haL (pAt_0 E _ haK) rfl inU_X0 1 (by decide) nF_X5_149 (fun _ h => h) rfl dX5_hindrance_119 ?_
      refine j_icmp_eq (tgt := 138) M dX5_hindrance_122 (by decide) (fun c1 => ?_) (fun c1 => ?_)
      · refine j_iconst (v := 0) M dX5_hindrance_138 (by decide) ?_
        refine j_istore (lv' := [(7, .int 0), (0, .ref (K 1)), (1, .ref a), (3, .int t), (6, .int (nI j))]) M dX5_hindrance_139 (by decide) rfl ?_
        refine j_iload M dX5_hindrance_141 rfl ?_
        refine j_if_eq (tgt := 169) M dX5_hindrance_143 (by decide) (fun _ => ?_) (fun z => absurd (by decide) z)
        refine j_iinc (v := (nI (j + 1))) (lv' := [(6, .int (nI (j + 1))), (7, .int 0), (0, .ref (K 1)), (1, .ref a), (3, .int t)]) M dX5_hindrance_169 rfl (nI_1 _) (by decide) rfl ?_
        refine j_goto (tgt := 104) M dX5_hindrance_172 (by decide) ?_
        refine j_pick [2, 3, 4, 0] rfl ?_
        exact ih (j + 1) (by omega) (hq.trans (by simp only [m_hindrance_lp, if_pos c1]))
      · refine j_iload_n M dX5_hindrance_125 rfl ?_
        refine j_iload M dX5_hindrance_126 rfl ?_
        refine j_ishr M dX5_hindrance_128 ?_
        refine j_iconst (v := 1) M dX5_hindrance_129 (by decide) ?_
        refine j_iand M dX5_hindrance_130 ?_
        refine j_if_ne (tgt := 138) M dX5_hindrance_131 (by decide) (fun c2 => ?_) (fun c2 => ?_)
        · refine j_iconst (v := 0) M dX5_hindrance_138 (by decide) ?_
          refine j_istore (lv' := [(7, .int 0), (0, .ref (K 1)), (1, .ref a), (3, .int t), (6, .int (nI j))]) M dX5_hindrance_139 (by decide) rfl ?_
          refine j_iload M dX5_hindrance_141 rfl ?_
          refine j_if_eq (tgt := 169) M dX5_hindrance_143 (by decide) (fun _ => ?_) (fun z => absurd (by decide) z)
          refine j_iinc (v := (nI (j + 1))) (lv' := [(6, .int (nI (j + 1))), (7, .int 0), (0, .ref (K 1)), (1, .ref a), (3, .int t)]) M dX5_hindrance_169 rfl (nI_1 _) (by decide) rfl ?_
          refine j_goto (tgt := 104) M dX5_hindrance_172 (by decide) ?_
          refine j_pick [2, 3, 4, 0] rfl ?_
          exact ih (j + 1) (by omega) (hq.trans (by simp only [m_hindrance_lp, if_neg c1, if_neg c2]))
        · refine j_iconst (v := 1) M dX5_hindrance_134 (by decide) ?_
          refine j_goto (tgt := 139) M dX5_hindrance_135 (by decide) ?_
          refine j_istore (lv' := [(7, .int 1), (0, .ref (K 1)), (1, .ref a), (3, .int t), (6, .int (nI j))]) M dX5_hindrance_139 (by decide) rfl ?_
          refine j_iload M dX5_hindrance_141 rfl ?_
          refine j_if_eq (tgt := 169) M dX5_hindrance_143 (by decide) (fun z => absurd z (by decide)) (fun _ => ?_)
          refine j_aload_n M dX5_hindrance_146 rfl ?_
          refine j_aload_n M dX5_hindrance_147 rfl ?_
          refine j_get (v := .ref (K 13)) M hW.k1.1 (pAt_5 E _ hW.k1.2) rfl inU_X5 3 (by decide) wF_X5_21 (fun _ h => h) (rfv hW.r35) dX5_hindrance_148 ?_
          refine j_iload M dX5_hindrance_151 rfl ?_
          refine j_callV1 (As := [.int (nI j)]) (x := .ref (el S (K 13) j)) M cf_get wM_X5_72 (c_get hW.l13 (by decide) (show j < sZ S (K 13) by omega)) hW.l13.1.1 (pAt_8 E _ hW.l13.1.2) rfl rfl ⟨Nat.le_of_ble_eq_true rfl, Nat.le_of_ble_eq_true rfl⟩ (Nat.le_of_ble_eq_true rfl) ⟨Nat.zero_le _, Nat.zero_le _⟩ dX5_hindrance_153 rfl ?_
          refine j_cast M ((LSt.el hW.l13 (show j < sZ S (K 13) by omega)).1) (pAt_0 E _ ((LSt.el hW.l13 (show j < sZ S (K 13) by omega)).2)) rfl wL_X5_50 dX5_hindrance_156 ?_
          refine j_iconst (v := 1) M dX5_hindrance_159 (by decide) ?_
          refine j_callV1 (As := [.ref (el S (K 13) j), .int 1]) M cf_X0_clashRule wM_X5_152 (c_clashRule hW hA hM haL haK ((LSt.el hW.l13 (show j < sZ S (K 13) by omega)).1) ((LSt.el hW.l13 (show j < sZ S (K 13) by omega)).2) 1) haL (pAt_0 E _ haK) rfl rfl ⟨Nat.le_of_ble_eq_true rfl, Nat.le_of_ble_eq_true rfl⟩ (Nat.le_of_ble_eq_true rfl) ⟨Nat.zero_le _, Nat.zero_le _⟩ dX5_hindrance_160 rfl ?_
          refine j_if_eq (tgt := 169) M dX5_hindrance_163 (by decide) (fun c3 => ?_) (fun c3 => ?_)
          · refine j_iinc (v := (nI (j + 1))) (lv' := [(6, .int (nI (j + 1))), (7, .int 1), (0, .ref (K 1)), (1, .ref a), (3, .int t)]) M dX5_hindrance_169 rfl (nI_1 _) (by decide) rfl ?_
            refine j_goto (tgt := 104) M dX5_hindrance_172 (by decide) ?_
            refine j_pick [2, 3, 4, 0] rfl ?_
            exact ih (j + 1) (by omega) (hq.trans (by simp only [m_hindrance_lp, if_neg c1, if_pos c2, if_pos c3]))
          · refine j_bipush (v := 7) M dX5_hindrance_166 (by decide) ?_
            exact j_iret (v := 7) M dX5_hindrance_168 (Nat.le_refl _) (Nat.le_refl _) ⟨congrArg (fun z => some (Value.int z)) (show 7 = m_hindrance K S a q t from (hq.trans (by simp only [m_hindrance_lp, if_neg c1, if_pos c2, if_neg c3])).symm), rfl⟩
  refine j_aload_n M dX5_hindrance_0 rfl ?_
  refine j_callV1 (As := []) M cf_X0_isPossible wM_X5_168 (c_isPossible hW haL haK) haL (pAt_0 E _ haK) rfl rfl ⟨Nat.le_of_ble_eq_true rfl, Nat.le_of_ble_eq_true rfl⟩ (Nat.le_of_ble_eq_true rfl) ⟨Nat.zero_le _, Nat.zero_le _⟩ dX5_hindrance_1 rfl ?_
  refine j_if_ne (tgt := 9) M dX5_hindrance_4 (by decide) (fun c4 => ?_) (fun c4 => ?_)
  · refine j_aload_n M dX5_hindrance_9 rfl ?_
    refine j_getN (v := va_rf (sM S 14 a)) M haL (pAt_0 E _ haK) rfl inU_X0 14 (by decide) nF_X5_131 (fun _ h => h) rfl dX5_hindrance_10 ?_
    refine j_opt (fun c5 => ?_) (fun c5s c5 => ?_)
    · refine j_ifnullN (tgt := 37) M dX5_hindrance_13 (by decide) ?_
      refine j_aload_n M dX5_hindrance_37 rfl ?_
      refine j_callV1 (As := []) M cf_X0_plumb wM_X5_122 (c_plumb hW haL haK) haL (pAt_0 E _ haK) rfl rfl ⟨Nat.le_of_ble_eq_true rfl, Nat.le_of_ble_eq_true rfl⟩ (Nat.le_of_ble_eq_true rfl) ⟨Nat.zero_le _, Nat.zero_le _⟩ dX5_hindrance_38 rfl ?_
      refine j_istore (lv' := [(4, .int (m_plumb K S a)), (0, .ref (K 1)), (1, .ref a), (2, .int q), (3, .int t)]) M dX5_hindrance_41 (by decide) rfl ?_
      refine j_aload_n M dX5_hindrance_43 rfl ?_
      refine j_getN (v := .null) M haL (pAt_0 E _ haK) rfl inU_X0 14 (by decide) nF_X5_131 (fun _ h => h) (rfn c5) dX5_hindrance_44 ?_
      refine j_ifnullN (tgt := 61) M dX5_hindrance_47 (by decide) ?_
      refine j_aload_n M dX5_hindrance_61 rfl ?_
      refine j_getN (v := .null) M haL (pAt_0 E _ haK) rfl inU_X0 14 (by decide) nF_X5_131 (fun _ h => h) (rfn c5) dX5_hindrance_62 ?_
      refine j_ifnullN (tgt := 76) M dX5_hindrance_65 (by decide) ?_
      refine j_iconst (v := 1) M dX5_hindrance_76 (by decide) ?_
      refine j_istore (lv' := [(5, .int 1), (4, .int (m_plumb K S a)), (0, .ref (K 1)), (1, .ref a), (2, .int q), (3, .int t)]) M dX5_hindrance_77 (by decide) rfl ?_
      refine j_aload_n M dX5_hindrance_79 rfl ?_
      refine j_getN (v := .int (sI S 11 a)) M haL (pAt_0 E _ haK) rfl inU_X0 11 (by decide) nF_X5_135 (fun _ h => h) rfl dX5_hindrance_80 ?_
      refine j_aload_n M dX5_hindrance_83 rfl ?_
      refine j_get (v := .ref (K 2)) M hW.k1.1 (pAt_5 E _ hW.k1.2) rfl inU_X5 0 (by decide) wF_X5_46 (fun _ h => h) (rfv hW.r32) dX5_hindrance_84 ?_
      refine j_iload M dX5_hindrance_87 rfl ?_
      refine j_callV1 (As := [.int (m_plumb K S a)]) M cf_X1_levelOf wM_X5_138 (c_levelOf hW (m_plumb K S a)) hW.k2.1 (pAt_1 E _ hW.k2.2) rfl rfl ⟨Nat.le_of_ble_eq_true rfl, Nat.le_of_ble_eq_true rfl⟩ (Nat.le_of_ble_eq_true rfl) ⟨Nat.zero_le _, Nat.zero_le _⟩ dX5_hindrance_89 rfl ?_
      refine j_isub M dX5_hindrance_92 ?_
      refine j_iload M dX5_hindrance_93 rfl ?_
      refine j_icmp_ge (tgt := 101) M dX5_hindrance_95 (by decide) (fun c6 => ?_) (fun c6 => ?_)
      · refine j_iconst (v := 0) M dX5_hindrance_101 (by decide) ?_
        refine j_istore (lv' := [(6, .int 0), (5, .int 1), (4, .int (m_plumb K S a)), (0, .ref (K 1)), (1, .ref a), (2, .int q), (3, .int t)]) M dX5_hindrance_102 (by decide) rfl ?_
        refine j_pick (lv' := [(0, .ref (K 1)), (1, .ref a), (3, .int t), (6, .int (nI 0))]) [3, 4, 6, 0] rfl ?_
        exact lp (sZ S (K 13)) 0 (by omega) (by unfold m_hindrance; rw [if_neg c4, if_pos c5, if_pos c6])
      · refine j_bipush (v := 6) M dX5_hindrance_98 (by decide) ?_
        exact j_iret (v := 6) M dX5_hindrance_100 (Nat.le_refl _) (Nat.le_refl _) ⟨congrArg (fun z => some (Value.int z)) (show 6 = m_hindrance K S a q t from (by unfold m_hindrance; rw [if_neg c4, if_pos c5, if_neg c6])), rfl⟩
    · refine j_ifnull M dX5_hindrance_13 ?_
      refine j_aload_n M dX5_hindrance_16 rfl ?_
      refine j_getN (v := .ref ((sM S 14 a).getD 0)) M haL (pAt_0 E _ haK) rfl inU_X0 14 (by decide) nF_X5_131 (fun _ h => h) (rfv c5s) dX5_hindrance_17 ?_
      refine j_getN (v := .int (sI S 20 ((sM S 14 a).getD 0))) M ((hM.ld haL haK c5s).1) (pAt_2 E _ ((hM.ld haL haK c5s).2)) rfl inU_X2 1 (by decide) nF_X5_172 (fun _ h => h) rfl dX5_hindrance_20 ?_
      refine j_aload_n M dX5_hindrance_23 rfl ?_
      refine j_aload_n M dX5_hindrance_24 rfl ?_
      refine j_aload_n M dX5_hindrance_25 rfl ?_
      refine j_getN (v := .int (sI S 10 a)) M haL (pAt_0 E _ haK) rfl inU_X0 10 (by decide) nF_X5_175 (fun _ h => h) rfl dX5_hindrance_26 ?_
      refine j_callV1 (As := [.ref a, .int (sI S 10 a)]) M cf_X5_capacityOf wM_X5_178 (c_capacityOf hW hA hM haL haK (sI S 10 a)) hW.k1.1 (pAt_5 E _ hW.k1.2) rfl rfl ⟨Nat.le_of_ble_eq_true rfl, Nat.le_of_ble_eq_true rfl⟩ (Nat.le_of_ble_eq_true rfl) ⟨Nat.zero_le _, Nat.zero_le _⟩ dX5_hindrance_29 rfl ?_
      refine j_icmp_le (tgt := 37) M dX5_hindrance_32 (by decide) (fun c7 => ?_) (fun c7 => ?_)
      · refine j_aload_n M dX5_hindrance_37 rfl ?_
        refine j_callV1 (As := []) M cf_X0_plumb wM_X5_122 (c_plumb hW haL haK) haL (pAt_0 E _ haK) rfl rfl ⟨Nat.le_of_ble_eq_true rfl, Nat.le_of_ble_eq_true rfl⟩ (Nat.le_of_ble_eq_true rfl) ⟨Nat.zero_le _, Nat.zero_le _⟩ dX5_hindrance_38 rfl ?_
        refine j_istore (lv' := [(4, .int (m_plumb K S a)), (0, .ref (K 1)), (1, .ref a), (2, .int q), (3, .int t)]) M dX5_hindrance_41 (by decide) rfl ?_
        refine j_aload_n M dX5_hindrance_43 rfl ?_
        refine j_getN (v := .ref ((sM S 14 a).getD 0)) M haL (pAt_0 E _ haK) rfl inU_X0 14 (by decide) nF_X5_131 (fun _ h => h) (rfv c5s) dX5_hindrance_44 ?_
        refine j_ifnull M dX5_hindrance_47 ?_
        refine j_aload_n M dX5_hindrance_50 rfl ?_
        refine j_iload M dX5_hindrance_51 rfl ?_
        refine j_callV1 (As := [.int (m_plumb K S a)]) M cf_X5_isShut wM_X5_181 (c_isShut hW hA hM (m_plumb K S a)) hW.k1.1 (pAt_5 E _ hW.k1.2) rfl rfl ⟨Nat.le_of_ble_eq_true rfl, Nat.le_of_ble_eq_true rfl⟩ (Nat.le_of_ble_eq_true rfl) ⟨Nat.zero_le _, Nat.zero_le _⟩ dX5_hindrance_53 rfl ?_
        refine j_if_eq (tgt := 61) M dX5_hindrance_56 (by decide) (fun c8 => ?_) (fun c8 => ?_)
        · refine j_aload_n M dX5_hindrance_61 rfl ?_
          refine j_getN (v := .ref ((sM S 14 a).getD 0)) M haL (pAt_0 E _ haK) rfl inU_X0 14 (by decide) nF_X5_131 (fun _ h => h) (rfv c5s) dX5_hindrance_62 ?_
          refine j_ifnull M dX5_hindrance_65 ?_
          refine j_iload_n M dX5_hindrance_68 rfl ?_
          refine j_if_eq (tgt := 76) M dX5_hindrance_69 (by decide) (fun c9 => ?_) (fun c9 => ?_)
          · refine j_iconst (v := 1) M dX5_hindrance_76 (by decide) ?_
            refine j_istore (lv' := [(5, .int 1), (4, .int (m_plumb K S a)), (0, .ref (K 1)), (1, .ref a), (2, .int q), (3, .int t)]) M dX5_hindrance_77 (by decide) rfl ?_
            refine j_aload_n M dX5_hindrance_79 rfl ?_
            refine j_getN (v := .int (sI S 11 a)) M haL (pAt_0 E _ haK) rfl inU_X0 11 (by decide) nF_X5_135 (fun _ h => h) rfl dX5_hindrance_80 ?_
            refine j_aload_n M dX5_hindrance_83 rfl ?_
            refine j_get (v := .ref (K 2)) M hW.k1.1 (pAt_5 E _ hW.k1.2) rfl inU_X5 0 (by decide) wF_X5_46 (fun _ h => h) (rfv hW.r32) dX5_hindrance_84 ?_
            refine j_iload M dX5_hindrance_87 rfl ?_
            refine j_callV1 (As := [.int (m_plumb K S a)]) M cf_X1_levelOf wM_X5_138 (c_levelOf hW (m_plumb K S a)) hW.k2.1 (pAt_1 E _ hW.k2.2) rfl rfl ⟨Nat.le_of_ble_eq_true rfl, Nat.le_of_ble_eq_true rfl⟩ (Nat.le_of_ble_eq_true rfl) ⟨Nat.zero_le _, Nat.zero_le _⟩ dX5_hindrance_89 rfl ?_
            refine j_isub M dX5_hindrance_92 ?_
            refine j_iload M dX5_hindrance_93 rfl ?_
            refine j_icmp_ge (tgt := 101) M dX5_hindrance_95 (by decide) (fun c10 => ?_) (fun c10 => ?_)
            · refine j_iconst (v := 0) M dX5_hindrance_101 (by decide) ?_
              refine j_istore (lv' := [(6, .int 0), (5, .int 1), (4, .int (m_plumb K S a)), (0, .ref (K 1)), (1, .ref a), (2, .int q), (3, .int t)]) M dX5_hindrance_102 (by decide) rfl ?_
              refine j_pick (lv' := [(0, .ref (K 1)), (1, .ref a), (3, .int t), (6, .int (nI 0))]) [3, 4, 6, 0] rfl ?_
              exact lp (sZ S (K 13)) 0 (by omega) (by unfold m_hindrance; rw [if_neg c4, if_neg c5, if_pos c7, if_pos c8, if_pos c9, if_pos c10])
            · refine j_bipush (v := 6) M dX5_hindrance_98 (by decide) ?_
              exact j_iret (v := 6) M dX5_hindrance_100 (Nat.le_refl _) (Nat.le_refl _) ⟨congrArg (fun z => some (Value.int z)) (show 6 = m_hindrance K S a q t from (by unfold m_hindrance; rw [if_neg c4, if_neg c5, if_pos c7, if_pos c8, if_pos c9, if_neg c10])), rfl⟩
          · refine j_iconst (v := 2) M dX5_hindrance_72 (by decide) ?_
            refine j_goto (tgt := 77) M dX5_hindrance_73 (by decide) ?_
            refine j_istore (lv' := [(5, .int 2), (4, .int (m_plumb K S a)), (0, .ref (K 1)), (1, .ref a), (2, .int q), (3, .int t)]) M dX5_hindrance_77 (by decide) rfl ?_
            refine j_aload_n M dX5_hindrance_79 rfl ?_
            refine j_getN (v := .int (sI S 11 a)) M haL (pAt_0 E _ haK) rfl inU_X0 11 (by decide) nF_X5_135 (fun _ h => h) rfl dX5_hindrance_80 ?_
            refine j_aload_n M dX5_hindrance_83 rfl ?_
            refine j_get (v := .ref (K 2)) M hW.k1.1 (pAt_5 E _ hW.k1.2) rfl inU_X5 0 (by decide) wF_X5_46 (fun _ h => h) (rfv hW.r32) dX5_hindrance_84 ?_
            refine j_iload M dX5_hindrance_87 rfl ?_
            refine j_callV1 (As := [.int (m_plumb K S a)]) M cf_X1_levelOf wM_X5_138 (c_levelOf hW (m_plumb K S a)) hW.k2.1 (pAt_1 E _ hW.k2.2) rfl rfl ⟨Nat.le_of_ble_eq_true rfl, Nat.le_of_ble_eq_true rfl⟩ (Nat.le_of_ble_eq_true rfl) ⟨Nat.zero_le _, Nat.zero_le _⟩ dX5_hindrance_89 rfl ?_
            refine j_isub M dX5_hindrance_92 ?_
            refine j_iload M dX5_hindrance_93 rfl ?_
            refine j_icmp_ge (tgt := 101) M dX5_hindrance_95 (by decide) (fun c11 => ?_) (fun c11 => ?_)
            · refine j_iconst (v := 0) M dX5_hindrance_101 (by decide) ?_
              refine j_istore (lv' := [(6, .int 0), (5, .int 2), (4, .int (m_plumb K S a)), (0, .ref (K 1)), (1, .ref a), (2, .int q), (3, .int t)]) M dX5_hindrance_102 (by decide) rfl ?_
              refine j_pick (lv' := [(0, .ref (K 1)), (1, .ref a), (3, .int t), (6, .int (nI 0))]) [3, 4, 6, 0] rfl ?_
              exact lp (sZ S (K 13)) 0 (by omega) (by unfold m_hindrance; rw [if_neg c4, if_neg c5, if_pos c7, if_pos c8, if_neg c9, if_pos c11])
            · refine j_bipush (v := 6) M dX5_hindrance_98 (by decide) ?_
              exact j_iret (v := 6) M dX5_hindrance_100 (Nat.le_refl _) (Nat.le_refl _) ⟨congrArg (fun z => some (Value.int z)) (show 6 = m_hindrance K S a q t from (by unfold m_hindrance; rw [if_neg c4, if_neg c5, if_pos c7, if_pos c8, if_neg c9, if_neg c11])), rfl⟩
        · refine j_iconst (v := 5) M dX5_hindrance_59 (by decide) ?_
          exact j_iret (v := 5) M dX5_hindrance_60 (Nat.le_refl _) (Nat.le_refl _) ⟨congrArg (fun z => some (Value.int z)) (show 5 = m_hindrance K S a q t from (by unfold m_hindrance; rw [if_neg c4, if_neg c5, if_pos c7, if_neg c8])), rfl⟩
      · refine j_iconst (v := 4) M dX5_hindrance_35 (by decide) ?_
        exact j_iret (v := 4) M dX5_hindrance_36 (Nat.le_refl _) (Nat.le_refl _) ⟨congrArg (fun z => some (Value.int z)) (show 4 = m_hindrance K S a q t from (by unfold m_hindrance; rw [if_neg c4, if_neg c5, if_neg c7])), rfl⟩
  · refine j_iconst (v := 1) M dX5_hindrance_7 (by decide) ?_
    exact j_iret (v := 1) M dX5_hindrance_8 (Nat.le_refl _) (Nat.le_refl _) ⟨congrArg (fun z => some (Value.int z)) (show 1 = m_hindrance K S a q t from (by unfold m_hindrance; rw [if_pos c4])), rfl⟩
def m_canLift (K : Nat → Nat) (S : PS) (a : Nat) (x : Int32) (g : Int32) : Int32 :=
  if (iabs ((m_rowOf K S x) - (sI S 3 a))) = 0 then
    if (imax (iabs ((m_rowOf K S x) - (sI S 3 a))) (iabs ((m_columnOf K S x) - (sI S 4 a)))) < 1 then
      0
    else
      if (sI S 6 a) < (imax (iabs ((m_rowOf K S x) - (sI S 3 a))) (iabs ((m_columnOf K S x) - (sI S 4 a)))) then
        0
      else
        if (m_capacityOf K S a (imax (iabs ((m_rowOf K S x) - (sI S 3 a))) (iabs ((m_columnOf K S x) - (sI S 4 a))))) < g then
          0
        else
          1
  else
    if (iabs ((m_columnOf K S x) - (sI S 4 a))) = 0 then
      if (imax (iabs ((m_rowOf K S x) - (sI S 3 a))) (iabs ((m_columnOf K S x) - (sI S 4 a)))) < 1 then
        0
      else
        if (sI S 6 a) < (imax (iabs ((m_rowOf K S x) - (sI S 3 a))) (iabs ((m_columnOf K S x) - (sI S 4 a)))) then
          0
        else
          if (m_capacityOf K S a (imax (iabs ((m_rowOf K S x) - (sI S 3 a))) (iabs ((m_columnOf K S x) - (sI S 4 a))))) < g then
            0
          else
            1
    else
      if (iabs ((m_rowOf K S x) - (sI S 3 a))) = (iabs ((m_columnOf K S x) - (sI S 4 a))) then
        if (imax (iabs ((m_rowOf K S x) - (sI S 3 a))) (iabs ((m_columnOf K S x) - (sI S 4 a)))) < 1 then
          0
        else
          if (sI S 6 a) < (imax (iabs ((m_rowOf K S x) - (sI S 3 a))) (iabs ((m_columnOf K S x) - (sI S 4 a)))) then
            0
          else
            if (m_capacityOf K S a (imax (iabs ((m_rowOf K S x) - (sI S 3 a))) (iabs ((m_columnOf K S x) - (sI S 4 a))))) < g then
              0
            else
              1
      else
        0
theorem cf_X3_canLift : CFv yX3_canLift RX3 cX3_canLift 8 (some .boolean) 3 := ⟨wC_X3_canLift, wI_X3_canLift, wV_X3_X3_canLift, wN_X3, by decide +kernel⟩
set_option maxHeartbeats 4000000 in
set_option maxRecDepth 100000 in
theorem c_canLift {l : Launch} {E : EV} {K : Nat → Nat} {S : PS} (hW : WS K S) (hA : AW S) (hM : WM S) {a : Nat} (haL : a ∈ sL S) (haK : sK S a = 0) (x : Int32) (g : Int32) : CT l yX3_canLift cX3_canLift 8 (some .boolean) 5 110 0 0 E [.ref (K 3), .ref a, .int x, .int g] S (pv (.int (m_canLift K S a x g)) S) := by
  refine CT.of (by decide) (Nat.le_of_ble_eq_true rfl) ?_
  intro p e s m below meth c M hin
  have M : MC E p s m _ meth c cX3_canLift RX3 8 (some .boolean) := M
  show J p l e _ s m _ below meth c _ E 8 0 [(0, .ref (K 3)), (1, .ref a), (2, .int x), (3, .int g)] [] S 0 0
  refine j_aload_n M dX3_canLift_0 rfl ?_
  refine j_get (v := .ref (K 1)) M hW.k3.1 (pAt_3 E _ hW.k3.2) rfl inU_X3 0 (by decide) wF_X3_24 (fun _ h => h) (rfv hW.r23) dX3_canLift_1 ?_
  refine j_getN (v := .ref (K 2)) M hW.k1.1 (pAt_5 E _ hW.k1.2) rfl inU_X5 0 (by decide) nF_X3_96 (fun _ h => h) (rfv hW.r32) dX3_canLift_4 ?_
  refine j_iload_n M dX3_canLift_7 rfl ?_
  refine j_callV1 (As := [.int x]) M cf_X1_rowOf wM_X3_100 (c_rowOf hW x) hW.k2.1 (pAt_1 E _ hW.k2.2) rfl rfl ⟨Nat.le_of_ble_eq_true rfl, Nat.le_of_ble_eq_true rfl⟩ (Nat.le_of_ble_eq_true rfl) ⟨Nat.zero_le _, Nat.zero_le _⟩ dX3_canLift_8 rfl ?_
  refine j_aload_n M dX3_canLift_11 rfl ?_
  refine j_getN (v := .int (sI S 3 a)) M haL (pAt_0 E _ haK) rfl inU_X0 3 (by decide) nF_X3_106 (fun _ h => h) rfl dX3_canLift_12 ?_
  refine j_isub M dX3_canLift_15 ?_
  refine j_abs M wM_X3_109 dX3_canLift_16 (Nat.le_of_ble_eq_true rfl) (Nat.le_of_ble_eq_true rfl) ⟨Nat.zero_le _, Nat.zero_le _⟩ ?_
  refine j_istore (lv' := [(4, .int (iabs ((m_rowOf K S x) - (sI S 3 a)))), (0, .ref (K 3)), (1, .ref a), (2, .int x), (3, .int g)]) M dX3_canLift_19 (by decide) rfl ?_
  refine j_aload_n M dX3_canLift_21 rfl ?_
  refine j_get (v := .ref (K 1)) M hW.k3.1 (pAt_3 E _ hW.k3.2) rfl inU_X3 0 (by decide) wF_X3_24 (fun _ h => h) (rfv hW.r23) dX3_canLift_22 ?_
  refine j_getN (v := .ref (K 2)) M hW.k1.1 (pAt_5 E _ hW.k1.2) rfl inU_X5 0 (by decide) nF_X3_96 (fun _ h => h) (rfv hW.r32) dX3_canLift_25 ?_
  refine j_iload_n M dX3_canLift_28 rfl ?_
  refine j_callV1 (As := [.int x]) M cf_X1_columnOf wM_X3_114 (c_columnOf hW x) hW.k2.1 (pAt_1 E _ hW.k2.2) rfl rfl ⟨Nat.le_of_ble_eq_true rfl, Nat.le_of_ble_eq_true rfl⟩ (Nat.le_of_ble_eq_true rfl) ⟨Nat.zero_le _, Nat.zero_le _⟩ dX3_canLift_29 rfl ?_
  refine j_aload_n M dX3_canLift_32 rfl ?_
  refine j_getN (v := .int (sI S 4 a)) M haL (pAt_0 E _ haK) rfl inU_X0 4 (by decide) nF_X3_117 (fun _ h => h) rfl dX3_canLift_33 ?_
  refine j_isub M dX3_canLift_36 ?_
  refine j_abs M wM_X3_109 dX3_canLift_37 (Nat.le_of_ble_eq_true rfl) (Nat.le_of_ble_eq_true rfl) ⟨Nat.zero_le _, Nat.zero_le _⟩ ?_
  refine j_istore (lv' := [(5, .int (iabs ((m_columnOf K S x) - (sI S 4 a)))), (4, .int (iabs ((m_rowOf K S x) - (sI S 3 a)))), (0, .ref (K 3)), (1, .ref a), (2, .int x), (3, .int g)]) M dX3_canLift_40 (by decide) rfl ?_
  refine j_iload M dX3_canLift_42 rfl ?_
  refine j_if_eq (tgt := 59) M dX3_canLift_44 (by decide) (fun c1 => ?_) (fun c1 => ?_)
  · refine j_iconst (v := 1) M dX3_canLift_59 (by decide) ?_
    refine j_goto (tgt := 64) M dX3_canLift_60 (by decide) ?_
    refine j_istore (lv' := [(6, .int 1), (5, .int (iabs ((m_columnOf K S x) - (sI S 4 a)))), (4, .int (iabs ((m_rowOf K S x) - (sI S 3 a)))), (0, .ref (K 3)), (1, .ref a), (2, .int x), (3, .int g)]) M dX3_canLift_64 (by decide) rfl ?_
    refine j_iload M dX3_canLift_66 rfl ?_
    refine j_iload M dX3_canLift_68 rfl ?_
    refine j_max M wM_X3_120 dX3_canLift_70 (Nat.le_of_ble_eq_true rfl) (Nat.le_of_ble_eq_true rfl) ⟨Nat.zero_le _, Nat.zero_le _⟩ ?_
    refine j_istore (lv' := [(7, .int (imax (iabs ((m_rowOf K S x) - (sI S 3 a))) (iabs ((m_columnOf K S x) - (sI S 4 a))))), (6, .int 1), (5, .int (iabs ((m_columnOf K S x) - (sI S 4 a)))), (4, .int (iabs ((m_rowOf K S x) - (sI S 3 a)))), (0, .ref (K 3)), (1, .ref a), (2, .int x), (3, .int g)]) M dX3_canLift_73 (by decide) rfl ?_
    refine j_iload M dX3_canLift_75 rfl ?_
    refine j_if_eq (tgt := 113) M dX3_canLift_77 (by decide) (fun z => absurd z (by decide)) (fun _ => ?_)
    refine j_iload M dX3_canLift_80 rfl ?_
    refine j_iconst (v := 1) M dX3_canLift_82 (by decide) ?_
    refine j_icmp_lt (tgt := 113) M dX3_canLift_83 (by decide) (fun c2 => ?_) (fun c2 => ?_)
    · refine j_iconst (v := 0) M dX3_canLift_113 (by decide) ?_
      exact j_zret (v := 0) M dX3_canLift_114 (Nat.le_refl _) (Nat.le_refl _) rfl ⟨congrArg (fun z => some (Value.int z)) (show 0 = m_canLift K S a x g from (by unfold m_canLift; rw [if_pos c1, if_pos c2])), rfl⟩
    · refine j_iload M dX3_canLift_86 rfl ?_
      refine j_aload_n M dX3_canLift_88 rfl ?_
      refine j_getN (v := .int (sI S 6 a)) M haL (pAt_0 E _ haK) rfl inU_X0 6 (by decide) nF_X3_124 (fun _ h => h) rfl dX3_canLift_89 ?_
      refine j_icmp_gt (tgt := 113) M dX3_canLift_92 (by decide) (fun c3 => ?_) (fun c3 => ?_)
      · refine j_iconst (v := 0) M dX3_canLift_113 (by decide) ?_
        exact j_zret (v := 0) M dX3_canLift_114 (Nat.le_refl _) (Nat.le_refl _) rfl ⟨congrArg (fun z => some (Value.int z)) (show 0 = m_canLift K S a x g from (by unfold m_canLift; rw [if_pos c1, if_neg c2, if_pos c3])), rfl⟩
      · refine j_aload_n M dX3_canLift_95 rfl ?_
        refine j_get (v := .ref (K 1)) M hW.k3.1 (pAt_3 E _ hW.k3.2) rfl inU_X3 0 (by decide) wF_X3_24 (fun _ h => h) (rfv hW.r23) dX3_canLift_96 ?_
        refine j_aload_n M dX3_canLift_99 rfl ?_
        refine j_iload M dX3_canLift_100 rfl ?_
        refine j_callV1 (As := [.ref a, .int (imax (iabs ((m_rowOf K S x) - (sI S 3 a))) (iabs ((m_columnOf K S x) - (sI S 4 a))))]) M cf_X5_capacityOf wM_X3_127 (c_capacityOf hW hA hM haL haK (imax (iabs ((m_rowOf K S x) - (sI S 3 a))) (iabs ((m_columnOf K S x) - (sI S 4 a))))) hW.k1.1 (pAt_5 E _ hW.k1.2) rfl rfl ⟨Nat.le_of_ble_eq_true rfl, Nat.le_of_ble_eq_true rfl⟩ (Nat.le_of_ble_eq_true rfl) ⟨Nat.zero_le _, Nat.zero_le _⟩ dX3_canLift_102 rfl ?_
        refine j_iload_n M dX3_canLift_105 rfl ?_
        refine j_icmp_lt (tgt := 113) M dX3_canLift_106 (by decide) (fun c4 => ?_) (fun c4 => ?_)
        · refine j_iconst (v := 0) M dX3_canLift_113 (by decide) ?_
          exact j_zret (v := 0) M dX3_canLift_114 (Nat.le_refl _) (Nat.le_refl _) rfl ⟨congrArg (fun z => some (Value.int z)) (show 0 = m_canLift K S a x g from (by unfold m_canLift; rw [if_pos c1, if_neg c2, if_neg c3, if_pos c4])), rfl⟩
        · refine j_iconst (v := 1) M dX3_canLift_109 (by decide) ?_
          refine j_goto (tgt := 114) M dX3_canLift_110 (by decide) ?_
          exact j_zret (v := 1) M dX3_canLift_114 (Nat.le_refl _) (Nat.le_refl _) rfl ⟨congrArg (fun z => some (Value.int z)) (show 1 = m_canLift K S a x g from (by unfold m_canLift; rw [if_pos c1, if_neg c2, if_neg c3, if_neg c4])), rfl⟩
  · refine j_iload M dX3_canLift_47 rfl ?_
    refine j_if_eq (tgt := 59) M dX3_canLift_49 (by decide) (fun c5 => ?_) (fun c5 => ?_)
    · refine j_iconst (v := 1) M dX3_canLift_59 (by decide) ?_
      refine j_goto (tgt := 64) M dX3_canLift_60 (by decide) ?_
      refine j_istore (lv' := [(6, .int 1), (5, .int (iabs ((m_columnOf K S x) - (sI S 4 a)))), (4, .int (iabs ((m_rowOf K S x) - (sI S 3 a)))), (0, .ref (K 3)), (1, .ref a), (2, .int x), (3, .int g)]) M dX3_canLift_64 (by decide) rfl ?_
      refine j_iload M dX3_canLift_66 rfl ?_
      refine j_iload M dX3_canLift_68 rfl ?_
      refine j_max M wM_X3_120 dX3_canLift_70 (Nat.le_of_ble_eq_true rfl) (Nat.le_of_ble_eq_true rfl) ⟨Nat.zero_le _, Nat.zero_le _⟩ ?_
      refine j_istore (lv' := [(7, .int (imax (iabs ((m_rowOf K S x) - (sI S 3 a))) (iabs ((m_columnOf K S x) - (sI S 4 a))))), (6, .int 1), (5, .int (iabs ((m_columnOf K S x) - (sI S 4 a)))), (4, .int (iabs ((m_rowOf K S x) - (sI S 3 a)))), (0, .ref (K 3)), (1, .ref a), (2, .int x), (3, .int g)]) M dX3_canLift_73 (by decide) rfl ?_
      refine j_iload M dX3_canLift_75 rfl ?_
      refine j_if_eq (tgt := 113) M dX3_canLift_77 (by decide) (fun z => absurd z (by decide)) (fun _ => ?_)
      refine j_iload M dX3_canLift_80 rfl ?_
      refine j_iconst (v := 1) M dX3_canLift_82 (by decide) ?_
      refine j_icmp_lt (tgt := 113) M dX3_canLift_83 (by decide) (fun c6 => ?_) (fun c6 => ?_)
      · refine j_iconst (v := 0) M dX3_canLift_113 (by decide) ?_
        exact j_zret (v := 0) M dX3_canLift_114 (Nat.le_refl _) (Nat.le_refl _) rfl ⟨congrArg (fun z => some (Value.int z)) (show 0 = m_canLift K S a x g from (by unfold m_canLift; rw [if_neg c1, if_pos c5, if_pos c6])), rfl⟩
      · refine j_iload M dX3_canLift_86 rfl ?_
        refine j_aload_n M dX3_canLift_88 rfl ?_
        refine j_getN (v := .int (sI S 6 a)) M haL (pAt_0 E _ haK) rfl inU_X0 6 (by decide) nF_X3_124 (fun _ h => h) rfl dX3_canLift_89 ?_
        refine j_icmp_gt (tgt := 113) M dX3_canLift_92 (by decide) (fun c7 => ?_) (fun c7 => ?_)
        · refine j_iconst (v := 0) M dX3_canLift_113 (by decide) ?_
          exact j_zret (v := 0) M dX3_canLift_114 (Nat.le_refl _) (Nat.le_refl _) rfl ⟨congrArg (fun z => some (Value.int z)) (show 0 = m_canLift K S a x g from (by unfold m_canLift; rw [if_neg c1, if_pos c5, if_neg c6, if_pos c7])), rfl⟩
        · refine j_aload_n M dX3_canLift_95 rfl ?_
          refine j_get (v := .ref (K 1)) M hW.k3.1 (pAt_3 E _ hW.k3.2) rfl inU_X3 0 (by decide) wF_X3_24 (fun _ h => h) (rfv hW.r23) dX3_canLift_96 ?_
          refine j_aload_n M dX3_canLift_99 rfl ?_
          refine j_iload M dX3_canLift_100 rfl ?_
          refine j_callV1 (As := [.ref a, .int (imax (iabs ((m_rowOf K S x) - (sI S 3 a))) (iabs ((m_columnOf K S x) - (sI S 4 a))))]) M cf_X5_capacityOf wM_X3_127 (c_capacityOf hW hA hM haL haK (imax (iabs ((m_rowOf K S x) - (sI S 3 a))) (iabs ((m_columnOf K S x) - (sI S 4 a))))) hW.k1.1 (pAt_5 E _ hW.k1.2) rfl rfl ⟨Nat.le_of_ble_eq_true rfl, Nat.le_of_ble_eq_true rfl⟩ (Nat.le_of_ble_eq_true rfl) ⟨Nat.zero_le _, Nat.zero_le _⟩ dX3_canLift_102 rfl ?_
          refine j_iload_n M dX3_canLift_105 rfl ?_
          refine j_icmp_lt (tgt := 113) M dX3_canLift_106 (by decide) (fun c8 => ?_) (fun c8 => ?_)
          · refine j_iconst (v := 0) M dX3_canLift_113 (by decide) ?_
            exact j_zret (v := 0) M dX3_canLift_114 (Nat.le_refl _) (Nat.le_refl _) rfl ⟨congrArg (fun z => some (Value.int z)) (show 0 = m_canLift K S a x g from (by unfold m_canLift; rw [if_neg c1, if_pos c5, if_neg c6, if_neg c7, if_pos c8])), rfl⟩
          · refine j_iconst (v := 1) M dX3_canLift_109 (by decide) ?_
            refine j_goto (tgt := 114) M dX3_canLift_110 (by decide) ?_
            exact j_zret (v := 1) M dX3_canLift_114 (Nat.le_refl _) (Nat.le_refl _) rfl ⟨congrArg (fun z => some (Value.int z)) (show 1 = m_canLift K S a x g from (by unfold m_canLift; rw [if_neg c1, if_pos c5, if_neg c6, if_neg c7, if_neg c8])), rfl⟩
    · refine j_iload M dX3_canLift_52 rfl ?_
      refine j_iload M dX3_canLift_54 rfl ?_
      refine j_icmp_ne (tgt := 63) M dX3_canLift_56 (by decide) (fun c9 => ?_) (fun c9 => ?_)
      · refine j_iconst (v := 0) M dX3_canLift_63 (by decide) ?_
        refine j_istore (lv' := [(6, .int 0), (5, .int (iabs ((m_columnOf K S x) - (sI S 4 a)))), (4, .int (iabs ((m_rowOf K S x) - (sI S 3 a)))), (0, .ref (K 3)), (1, .ref a), (2, .int x), (3, .int g)]) M dX3_canLift_64 (by decide) rfl ?_
        refine j_iload M dX3_canLift_66 rfl ?_
        refine j_iload M dX3_canLift_68 rfl ?_
        refine j_max M wM_X3_120 dX3_canLift_70 (Nat.le_of_ble_eq_true rfl) (Nat.le_of_ble_eq_true rfl) ⟨Nat.zero_le _, Nat.zero_le _⟩ ?_
        refine j_istore (lv' := [(7, .int (imax (iabs ((m_rowOf K S x) - (sI S 3 a))) (iabs ((m_columnOf K S x) - (sI S 4 a))))), (6, .int 0), (5, .int (iabs ((m_columnOf K S x) - (sI S 4 a)))), (4, .int (iabs ((m_rowOf K S x) - (sI S 3 a)))), (0, .ref (K 3)), (1, .ref a), (2, .int x), (3, .int g)]) M dX3_canLift_73 (by decide) rfl ?_
        refine j_iload M dX3_canLift_75 rfl ?_
        refine j_if_eq (tgt := 113) M dX3_canLift_77 (by decide) (fun _ => ?_) (fun z => absurd (by decide) z)
        refine j_iconst (v := 0) M dX3_canLift_113 (by decide) ?_
        exact j_zret (v := 0) M dX3_canLift_114 (Nat.le_refl _) (Nat.le_refl _) rfl ⟨congrArg (fun z => some (Value.int z)) (show 0 = m_canLift K S a x g from (by unfold m_canLift; rw [if_neg c1, if_neg c5, if_neg c9])), rfl⟩
      · refine j_iconst (v := 1) M dX3_canLift_59 (by decide) ?_
        refine j_goto (tgt := 64) M dX3_canLift_60 (by decide) ?_
        refine j_istore (lv' := [(6, .int 1), (5, .int (iabs ((m_columnOf K S x) - (sI S 4 a)))), (4, .int (iabs ((m_rowOf K S x) - (sI S 3 a)))), (0, .ref (K 3)), (1, .ref a), (2, .int x), (3, .int g)]) M dX3_canLift_64 (by decide) rfl ?_
        refine j_iload M dX3_canLift_66 rfl ?_
        refine j_iload M dX3_canLift_68 rfl ?_
        refine j_max M wM_X3_120 dX3_canLift_70 (Nat.le_of_ble_eq_true rfl) (Nat.le_of_ble_eq_true rfl) ⟨Nat.zero_le _, Nat.zero_le _⟩ ?_
        refine j_istore (lv' := [(7, .int (imax (iabs ((m_rowOf K S x) - (sI S 3 a))) (iabs ((m_columnOf K S x) - (sI S 4 a))))), (6, .int 1), (5, .int (iabs ((m_columnOf K S x) - (sI S 4 a)))), (4, .int (iabs ((m_rowOf K S x) - (sI S 3 a)))), (0, .ref (K 3)), (1, .ref a), (2, .int x), (3, .int g)]) M dX3_canLift_73 (by decide) rfl ?_
        refine j_iload M dX3_canLift_75 rfl ?_
        refine j_if_eq (tgt := 113) M dX3_canLift_77 (by decide) (fun z => absurd z (by decide)) (fun _ => ?_)
        refine j_iload M dX3_canLift_80 rfl ?_
        refine j_iconst (v := 1) M dX3_canLift_82 (by decide) ?_
        refine j_icmp_lt (tgt := 113) M dX3_canLift_83 (by decide) (fun c10 => ?_) (fun c10 => ?_)
        · refine j_iconst (v := 0) M dX3_canLift_113 (by decide) ?_
          exact j_zret (v := 0) M dX3_canLift_114 (Nat.le_refl _) (Nat.le_refl _) rfl ⟨congrArg (fun z => some (Value.int z)) (show 0 = m_canLift K S a x g from (by unfold m_canLift; rw [if_neg c1, if_neg c5, if_pos c9, if_pos c10])), rfl⟩
        · refine j_iload M dX3_canLift_86 rfl ?_
          refine j_aload_n M dX3_canLift_88 rfl ?_
          refine j_getN (v := .int (sI S 6 a)) M haL (pAt_0 E _ haK) rfl inU_X0 6 (by decide) nF_X3_124 (fun _ h => h) rfl dX3_canLift_89 ?_
          refine j_icmp_gt (tgt := 113) M dX3_canLift_92 (by decide) (fun c11 => ?_) (fun c11 => ?_)
          · refine j_iconst (v := 0) M dX3_canLift_113 (by decide) ?_
            exact j_zret (v := 0) M dX3_canLift_114 (Nat.le_refl _) (Nat.le_refl _) rfl ⟨congrArg (fun z => some (Value.int z)) (show 0 = m_canLift K S a x g from (by unfold m_canLift; rw [if_neg c1, if_neg c5, if_pos c9, if_neg c10, if_pos c11])), rfl⟩
          · refine j_aload_n M dX3_canLift_95 rfl ?_
            refine j_get (v := .ref (K 1)) M hW.k3.1 (pAt_3 E _ hW.k3.2) rfl inU_X3 0 (by decide) wF_X3_24 (fun _ h => h) (rfv hW.r23) dX3_canLift_96 ?_
            refine j_aload_n M dX3_canLift_99 rfl ?_
            refine j_iload M dX3_canLift_100 rfl ?_
            refine j_callV1 (As := [.ref a, .int (imax (iabs ((m_rowOf K S x) - (sI S 3 a))) (iabs ((m_columnOf K S x) - (sI S 4 a))))]) M cf_X5_capacityOf wM_X3_127 (c_capacityOf hW hA hM haL haK (imax (iabs ((m_rowOf K S x) - (sI S 3 a))) (iabs ((m_columnOf K S x) - (sI S 4 a))))) hW.k1.1 (pAt_5 E _ hW.k1.2) rfl rfl ⟨Nat.le_of_ble_eq_true rfl, Nat.le_of_ble_eq_true rfl⟩ (Nat.le_of_ble_eq_true rfl) ⟨Nat.zero_le _, Nat.zero_le _⟩ dX3_canLift_102 rfl ?_
            refine j_iload_n M dX3_canLift_105 rfl ?_
            refine j_icmp_lt (tgt := 113) M dX3_canLift_106 (by decide) (fun c12 => ?_) (fun c12 => ?_)
            · refine j_iconst (v := 0) M dX3_canLift_113 (by decide) ?_
              exact j_zret (v := 0) M dX3_canLift_114 (Nat.le_refl _) (Nat.le_refl _) rfl ⟨congrArg (fun z => some (Value.int z)) (show 0 = m_canLift K S a x g from (by unfold m_canLift; rw [if_neg c1, if_neg c5, if_pos c9, if_neg c10, if_neg c11, if_pos c12])), rfl⟩
            · refine j_iconst (v := 1) M dX3_canLift_109 (by decide) ?_
              refine j_goto (tgt := 114) M dX3_canLift_110 (by decide) ?_
              exact j_zret (v := 1) M dX3_canLift_114 (Nat.le_refl _) (Nat.le_refl _) rfl ⟨congrArg (fun z => some (Value.int z)) (show 1 = m_canLift K S a x g from (by unfold m_canLift; rw [if_neg c1, if_neg c5, if_pos c9, if_neg c10, if_neg c11, if_neg c12])), rfl⟩
def m_liftersFrom_lp (K : Nat → Nat) (S : PS) (x : Int32) (g : Int32) : Nat → Nat → Int32 → Int32
  | 0, j, n => n
  | r + 1, j, n => if (m_canLift K S (el S (K 13) j) x g) = 0 then
      m_liftersFrom_lp K S x g r (j + 1) n
    else
      m_liftersFrom_lp K S x g r (j + 1) (n ||| (1 <<< ((nI j) &&& 31)))
def m_liftersFrom (K : Nat → Nat) (S : PS) (x : Int32) (g : Int32) : Int32 :=
  m_liftersFrom_lp K S x g (sZ S (K 13)) 0 0
theorem cf_X3_liftersFrom : CFv yX3_liftersFrom RX3 cX3_liftersFrom 5 (some .int) 2 := ⟨wC_X3_liftersFrom, wI_X3_liftersFrom, wV_X3_X3_liftersFrom, wN_X3, by decide +kernel⟩
set_option maxHeartbeats 4000000 in
set_option maxRecDepth 100000 in
theorem c_liftersFrom {l : Launch} {E : EV} {K : Nat → Nat} {S : PS} (hW : WS K S) (hA : AW S) (hM : WM S) (x : Int32) (g : Int32) : CT l yX3_liftersFrom cX3_liftersFrom 5 (some .int) 6 137 0 0 E [.ref (K 3), .int x, .int g] S (pv (.int (m_liftersFrom K S x g)) S) := by
  refine CT.of (by decide) (Nat.le_of_ble_eq_true rfl) ?_
  intro p e s m below meth c M hin
  have M : MC E p s m _ meth c cX3_liftersFrom RX3 5 (some .int) := M
  show J p l e _ s m _ below meth c _ E 5 0 [(0, .ref (K 3)), (1, .int x), (2, .int g)] [] S 0 0
  refine j_iconst (v := 0) M dX3_liftersFrom_0 (by decide) ?_
  refine j_istore_n (lv' := [(3, .int 0), (0, .ref (K 3)), (1, .int x), (2, .int g)]) M dX3_liftersFrom_1 rfl (by decide) rfl ?_
  refine j_iconst (v := 0) M dX3_liftersFrom_2 (by decide) ?_
  refine j_istore (lv' := [(4, .int 0), (3, .int 0), (0, .ref (K 3)), (1, .int x), (2, .int g)]) M dX3_liftersFrom_3 (by decide) rfl ?_
  have hz13 := hW.l13.2.1
  have lp : ∀ (r j : Nat) (n : Int32), j + r = sZ S (K 13) → m_liftersFrom K S x g = m_liftersFrom_lp K S x g r j n → J p l e { frames := 6, cells := 0, slots := 0, locals := 137 } s m ([.ref (K 3), .int x, .int g] : List Value).toArray below meth c (MQ below (QC E (pv (.int (m_liftersFrom K S x g)) S)) ([.ref (K 3), .int x, .int g] : List Value).toArray s 0 0 (AE E)) E 5 5 [(0, .ref (K 3)), (1, .int x), (2, .int g), (3, .int n), (4, .int (nI j))] [] S 0 0 := by
    intro r
    induction r with
    | zero =>
      intro j n hj hq
      refine j_iload M dX3_liftersFrom_5 rfl ?_
      refine j_aload_n M dX3_liftersFrom_7 rfl ?_
      refine j_get (v := .ref (K 1)) M hW.k3.1 (pAt_3 E _ hW.k3.2) rfl inU_X3 0 (by decide) wF_X3_24 (fun _ h => h) (rfv hW.r23) dX3_liftersFrom_8 ?_
      refine j_getN (v := .ref (K 13)) M hW.k1.1 (pAt_5 E _ hW.k1.2) rfl inU_X5 3 (by decide) nF_X3_79 (fun _ h => h) (rfv hW.r35) dX3_liftersFrom_11 ?_
      refine j_callV1 (As := []) (x := .int (nI (sZ S (K 13)))) M cf_size wM_X3_83 (c_size hW.l13) hW.l13.1.1 (pAt_8 E _ hW.l13.1.2) rfl rfl ⟨Nat.le_of_ble_eq_true rfl, Nat.le_of_ble_eq_true rfl⟩ (Nat.le_of_ble_eq_true rfl) ⟨Nat.zero_le _, Nat.zero_le _⟩ dX3_liftersFrom_14 rfl ?_
      refine j_icmp_ge (tgt := 57) M dX3_liftersFrom_17 (by decide) (fun _ => ?_) (fun z => absurd (nI_le (by omega) (by omega)) z)
      refine j_iload_n M dX3_liftersFrom_57 rfl ?_
      exact j_iret (v := n) M dX3_liftersFrom_58 (Nat.le_refl _) (Nat.le_refl _) ⟨congrArg (fun z => some (Value.int z)) (show n = m_liftersFrom K S x g from (hq.trans (by simp only [m_liftersFrom_lp])).symm), rfl⟩
    | succ r ih =>
      intro j n hj hq
      refine j_iload M dX3_liftersFrom_5 rfl ?_
      refine j_aload_n M dX3_liftersFrom_7 rfl ?_
      refine j_get (v := .ref (K 1)) M hW.k3.1 (pAt_3 E _ hW.k3.2) rfl inU_X3 0 (by decide) wF_X3_24 (fun _ h => h) (rfv hW.r23) dX3_liftersFrom_8 ?_
      refine j_getN (v := .ref (K 13)) M hW.k1.1 (pAt_5 E _ hW.k1.2) rfl inU_X5 3 (by decide) nF_X3_79 (fun _ h => h) (rfv hW.r35) dX3_liftersFrom_11 ?_
      refine j_callV1 (As := []) (x := .int (nI (sZ S (K 13)))) M cf_size wM_X3_83 (c_size hW.l13) hW.l13.1.1 (pAt_8 E _ hW.l13.1.2) rfl rfl ⟨Nat.le_of_ble_eq_true rfl, Nat.le_of_ble_eq_true rfl⟩ (Nat.le_of_ble_eq_true rfl) ⟨Nat.zero_le _, Nat.zero_le _⟩ dX3_liftersFrom_14 rfl ?_
      refine j_icmp_ge (tgt := 57) M dX3_liftersFrom_17 (by decide) (fun z => absurd z (nI_ge (by omega) (by omega))) (fun _ => ?_)
      refine j_aload_n M dX3_liftersFrom_20 rfl ?_
      refine j_aload_n M dX3_liftersFrom_21 rfl ?_
      refine j_get (v := .ref (K 1)) M hW.k3.1 (pAt_3 E _ hW.k3.2) rfl inU_X3 0 (by decide) wF_X3_24 (fun _ h => h) (rfv hW.r23) dX3_liftersFrom_22 ?_
      refine j_getN (v := .ref (K 13)) M hW.k1.1 (pAt_5 E _ hW.k1.2) rfl inU_X5 3 (by decide) nF_X3_79 (fun _ h => h) (rfv hW.r35) dX3_liftersFrom_25 ?_
      refine j_iload M dX3_liftersFrom_28 rfl ?_
      refine j_callV1 (As := [.int (nI j)]) (x := .ref (el S (K 13) j)) M cf_get wM_X3_88 (c_get hW.l13 (by decide) (show j < sZ S (K 13) by omega)) hW.l13.1.1 (pAt_8 E _ hW.l13.1.2) rfl rfl ⟨Nat.le_of_ble_eq_true rfl, Nat.le_of_ble_eq_true rfl⟩ (Nat.le_of_ble_eq_true rfl) ⟨Nat.zero_le _, Nat.zero_le _⟩ dX3_liftersFrom_30 rfl ?_
      refine j_cast M ((LSt.el hW.l13 (show j < sZ S (K 13) by omega)).1) (pAt_0 E _ ((LSt.el hW.l13 (show j < sZ S (K 13) by omega)).2)) rfl wL_X3_42 dX3_liftersFrom_33 ?_
      refine j_iload_n M dX3_liftersFrom_36 rfl ?_
      refine j_iload_n M dX3_liftersFrom_37 rfl ?_
      refine j_callV1 (As := [.ref (el S (K 13) j), .int x, .int g]) M cf_X3_canLift wM_X3_92 (c_canLift hW hA hM ((LSt.el hW.l13 (show j < sZ S (K 13) by omega)).1) ((LSt.el hW.l13 (show j < sZ S (K 13) by omega)).2) x g) hW.k3.1 (pAt_3 E _ hW.k3.2) rfl rfl ⟨Nat.le_of_ble_eq_true rfl, Nat.le_of_ble_eq_true rfl⟩ (Nat.le_of_ble_eq_true rfl) ⟨Nat.zero_le _, Nat.zero_le _⟩ dX3_liftersFrom_38 rfl ?_
      refine j_if_eq (tgt := 51) M dX3_liftersFrom_41 (by decide) (fun c1 => ?_) (fun c1 => ?_)
      · refine j_iinc (v := (nI (j + 1))) (lv' := [(4, .int (nI (j + 1))), (0, .ref (K 3)), (1, .int x), (2, .int g), (3, .int n)]) M dX3_liftersFrom_51 rfl (nI_1 _) (by decide) rfl ?_
        refine j_goto (tgt := 5) M dX3_liftersFrom_54 (by decide) ?_
        refine j_pick [1, 2, 3, 4, 0] rfl ?_
        exact ih (j + 1) n (by omega) (hq.trans (by simp only [m_liftersFrom_lp, if_pos c1]))
      · refine j_iload_n M dX3_liftersFrom_44 rfl ?_
        refine j_iconst (v := 1) M dX3_liftersFrom_45 (by decide) ?_
        refine j_iload M dX3_liftersFrom_46 rfl ?_
        refine j_ishl M dX3_liftersFrom_48 ?_
        refine j_ior M dX3_liftersFrom_49 ?_
        refine j_istore_n (lv' := [(3, .int (n ||| (1 <<< ((nI j) &&& 31)))), (0, .ref (K 3)), (1, .int x), (2, .int g), (4, .int (nI j))]) M dX3_liftersFrom_50 rfl (by decide) rfl ?_
        refine j_iinc (v := (nI (j + 1))) (lv' := [(4, .int (nI (j + 1))), (3, .int (n ||| (1 <<< ((nI j) &&& 31)))), (0, .ref (K 3)), (1, .int x), (2, .int g)]) M dX3_liftersFrom_51 rfl (nI_1 _) (by decide) rfl ?_
        refine j_goto (tgt := 5) M dX3_liftersFrom_54 (by decide) ?_
        refine j_pick [2, 3, 4, 1, 0] rfl ?_
        exact ih (j + 1) (n ||| (1 <<< ((nI j) &&& 31))) (by omega) (hq.trans (by simp only [m_liftersFrom_lp, if_neg c1]))
  refine j_pick (lv' := [(0, .ref (K 3)), (1, .int x), (2, .int g), (3, .int 0), (4, .int (nI 0))]) [2, 3, 4, 1, 0] rfl ?_
  exact lp (sZ S (K 13)) 0 0 (by omega) (by unfold m_liftersFrom; rfl)
def m_takersOf_lp (K : Nat → Nat) (S : PS) (a : Nat) : Nat → Nat → Int32 → Int32
  | 0, j, n => n
  | r + 1, j, n => if (el S (K 13) j) = a then
      m_takersOf_lp K S a r (j + 1) n
    else
      if (sI S 5 (el S (K 13) j)) < (sI S 5 a) then
        m_takersOf_lp K S a r (j + 1) n
      else
        if (m_canLift K S (el S (K 13) j) (sI S 2 a) (m_weight K S a)) = 0 then
          m_takersOf_lp K S a r (j + 1) n
        else
          m_takersOf_lp K S a r (j + 1) (n ||| (1 <<< ((nI j) &&& 31)))
def m_takersOf (K : Nat → Nat) (S : PS) (a : Nat) : Int32 :=
  if 8 < (sI S 5 a) then
    m_takersOf_lp K S a (sZ S (K 13)) 0 0
  else
    m_takersOf_lp K S a (sZ S (K 13)) 0 (1 <<< ((sI S 1 a) &&& 31))
theorem cf_X3_takersOf : CFv yX3_takersOf RX3 cX3_takersOf 5 (some .int) 1 := ⟨wC_X3_takersOf, wI_X3_takersOf, wV_X3_X3_takersOf, wN_X3, by decide +kernel⟩
set_option maxHeartbeats 4000000 in
set_option maxRecDepth 100000 in
theorem c_takersOf {l : Launch} {E : EV} {K : Nat → Nat} {S : PS} (hW : WS K S) (hA : AW S) (hM : WM S) {a : Nat} (haL : a ∈ sL S) (haK : sK S a = 0) : CT l yX3_takersOf cX3_takersOf 5 (some .int) 6 137 0 0 E [.ref (K 3), .ref a] S (pv (.int (m_takersOf K S a)) S) := by
  refine CT.of (by decide) (Nat.le_of_ble_eq_true rfl) ?_
  intro p e s m below meth c M hin
  have M : MC E p s m _ meth c cX3_takersOf RX3 5 (some .int) := M
  show J p l e _ s m _ below meth c _ E 5 0 [(0, .ref (K 3)), (1, .ref a)] [] S 0 0
  have hz13 := hW.l13.2.1
  have lp : ∀ (r j : Nat) (n : Int32), j + r = sZ S (K 13) → m_takersOf K S a = m_takersOf_lp K S a r j n → J p l e { frames := 6, cells := 0, slots := 0, locals := 137 } s m ([.ref (K 3), .ref a] : List Value).toArray below meth c (MQ below (QC E (pv (.int (m_takersOf K S a)) S)) ([.ref (K 3), .ref a] : List Value).toArray s 0 0 (AE E)) E 5 22 [(0, .ref (K 3)), (1, .ref a), (2, .int n), (3, .int (nI j))] [] S 0 0 := by
    intro r
    induction r with
    | zero =>
      intro j n hj hq
      refine j_iload_n M dX3_takersOf_22 rfl ?_
      refine j_aload_n M dX3_takersOf_23 rfl ?_
      refine j_get (v := .ref (K 1)) M hW.k3.1 (pAt_3 E _ hW.k3.2) rfl inU_X3 0 (by decide) wF_X3_24 (fun _ h => h) (rfv hW.r23) dX3_takersOf_24 ?_
      refine j_getN (v := .ref (K 13)) M hW.k1.1 (pAt_5 E _ hW.k1.2) rfl inU_X5 3 (by decide) nF_X3_79 (fun _ h => h) (rfv hW.r35) dX3_takersOf_27 ?_
      refine j_callV1 (As := []) (x := .int (nI (sZ S (K 13)))) M cf_size wM_X3_83 (c_size hW.l13) hW.l13.1.1 (pAt_8 E _ hW.l13.1.2) rfl rfl ⟨Nat.le_of_ble_eq_true rfl, Nat.le_of_ble_eq_true rfl⟩ (Nat.le_of_ble_eq_true rfl) ⟨Nat.zero_le _, Nat.zero_le _⟩ dX3_takersOf_30 rfl ?_
      refine j_icmp_ge (tgt := 99) M dX3_takersOf_33 (by decide) (fun _ => ?_) (fun z => absurd (nI_le (by omega) (by omega)) z)
      refine j_iload_n M dX3_takersOf_99 rfl ?_
      exact j_iret (v := n) M dX3_takersOf_100 (Nat.le_refl _) (Nat.le_refl _) ⟨congrArg (fun z => some (Value.int z)) (show n = m_takersOf K S a from (hq.trans (by simp only [m_takersOf_lp])).symm), rfl⟩
    | succ r ih =>
      intro j n hj hq
      refine j_iload_n M dX3_takersOf_22 rfl ?_
      refine j_aload_n M dX3_takersOf_23 rfl ?_
      refine j_get (v := .ref (K 1)) M hW.k3.1 (pAt_3 E _ hW.k3.2) rfl inU_X3 0 (by decide) wF_X3_24 (fun _ h => h) (rfv hW.r23) dX3_takersOf_24 ?_
      refine j_getN (v := .ref (K 13)) M hW.k1.1 (pAt_5 E _ hW.k1.2) rfl inU_X5 3 (by decide) nF_X3_79 (fun _ h => h) (rfv hW.r35) dX3_takersOf_27 ?_
      refine j_callV1 (As := []) (x := .int (nI (sZ S (K 13)))) M cf_size wM_X3_83 (c_size hW.l13) hW.l13.1.1 (pAt_8 E _ hW.l13.1.2) rfl rfl ⟨Nat.le_of_ble_eq_true rfl, Nat.le_of_ble_eq_true rfl⟩ (Nat.le_of_ble_eq_true rfl) ⟨Nat.zero_le _, Nat.zero_le _⟩ dX3_takersOf_30 rfl ?_
      refine j_icmp_ge (tgt := 99) M dX3_takersOf_33 (by decide) (fun z => absurd z (nI_ge (by omega) (by omega))) (fun _ => ?_)
      refine j_aload_n M dX3_takersOf_36 rfl ?_
      refine j_get (v := .ref (K 1)) M hW.k3.1 (pAt_3 E _ hW.k3.2) rfl inU_X3 0 (by decide) wF_X3_24 (fun _ h => h) (rfv hW.r23) dX3_takersOf_37 ?_
      refine j_getN (v := .ref (K 13)) M hW.k1.1 (pAt_5 E _ hW.k1.2) rfl inU_X5 3 (by decide) nF_X3_79 (fun _ h => h) (rfv hW.r35) dX3_takersOf_40 ?_
      refine j_iload_n M dX3_takersOf_43 rfl ?_
      refine j_callV1 (As := [.int (nI j)]) (x := .ref (el S (K 13) j)) M cf_get wM_X3_88 (c_get hW.l13 (by decide) (show j < sZ S (K 13) by omega)) hW.l13.1.1 (pAt_8 E _ hW.l13.1.2) rfl rfl ⟨Nat.le_of_ble_eq_true rfl, Nat.le_of_ble_eq_true rfl⟩ (Nat.le_of_ble_eq_true rfl) ⟨Nat.zero_le _, Nat.zero_le _⟩ dX3_takersOf_44 rfl ?_
      refine j_cast M ((LSt.el hW.l13 (show j < sZ S (K 13) by omega)).1) (pAt_0 E _ ((LSt.el hW.l13 (show j < sZ S (K 13) by omega)).2)) rfl wL_X3_42 dX3_takersOf_47 ?_
      refine j_astore (lv' := [(4, .ref (el S (K 13) j)), (0, .ref (K 3)), (1, .ref a), (2, .int n), (3, .int (nI j))]) M dX3_takersOf_50 (by decide) rfl ?_
      refine j_aload M dX3_takersOf_52 rfl ?_
      refine j_aload_n M dX3_takersOf_54 rfl ?_
      refine j_acmp_eq (tgt := 93) M dX3_takersOf_55 (by decide) (fun c1 => ?_) (fun c1 => ?_)
      · refine j_iinc (v := (nI (j + 1))) (lv' := [(3, .int (nI (j + 1))), (4, .ref (el S (K 13) j)), (0, .ref (K 3)), (1, .ref a), (2, .int n)]) M dX3_takersOf_93 rfl (nI_1 _) (by decide) rfl ?_
        refine j_goto (tgt := 22) M dX3_takersOf_96 (by decide) ?_
        refine j_pick [2, 3, 4, 0] rfl ?_
        exact ih (j + 1) n (by omega) (hq.trans (by simp only [m_takersOf_lp, if_pos c1]))
      · refine j_aload M dX3_takersOf_58 rfl ?_
        refine j_getN (v := .int (sI S 5 (el S (K 13) j))) M ((LSt.el hW.l13 (show j < sZ S (K 13) by omega)).1) (pAt_0 E _ ((LSt.el hW.l13 (show j < sZ S (K 13) by omega)).2)) rfl inU_X0 5 (by decide) nF_X3_140 (fun _ h => h) rfl dX3_takersOf_60 ?_
        refine j_aload_n M dX3_takersOf_63 rfl ?_
        refine j_getN (v := .int (sI S 5 a)) M haL (pAt_0 E _ haK) rfl inU_X0 5 (by decide) nF_X3_140 (fun _ h => h) rfl dX3_takersOf_64 ?_
        refine j_icmp_lt (tgt := 93) M dX3_takersOf_67 (by decide) (fun c2 => ?_) (fun c2 => ?_)
        · refine j_iinc (v := (nI (j + 1))) (lv' := [(3, .int (nI (j + 1))), (4, .ref (el S (K 13) j)), (0, .ref (K 3)), (1, .ref a), (2, .int n)]) M dX3_takersOf_93 rfl (nI_1 _) (by decide) rfl ?_
          refine j_goto (tgt := 22) M dX3_takersOf_96 (by decide) ?_
          refine j_pick [2, 3, 4, 0] rfl ?_
          exact ih (j + 1) n (by omega) (hq.trans (by simp only [m_takersOf_lp, if_neg c1, if_pos c2]))
        · refine j_aload_n M dX3_takersOf_70 rfl ?_
          refine j_aload M dX3_takersOf_71 rfl ?_
          refine j_aload_n M dX3_takersOf_73 rfl ?_
          refine j_getN (v := .int (sI S 2 a)) M haL (pAt_0 E _ haK) rfl inU_X0 2 (by decide) nF_X3_146 (fun _ h => h) rfl dX3_takersOf_74 ?_
          refine j_aload_n M dX3_takersOf_77 rfl ?_
          refine j_callV1 (As := []) M cf_X0_weight wM_X3_149 (c_weight hW haL haK) haL (pAt_0 E _ haK) rfl rfl ⟨Nat.le_of_ble_eq_true rfl, Nat.le_of_ble_eq_true rfl⟩ (Nat.le_of_ble_eq_true rfl) ⟨Nat.zero_le _, Nat.zero_le _⟩ dX3_takersOf_78 rfl ?_
          refine j_callV1 (As := [.ref (el S (K 13) j), .int (sI S 2 a), .int (m_weight K S a)]) M cf_X3_canLift wM_X3_92 (c_canLift hW hA hM ((LSt.el hW.l13 (show j < sZ S (K 13) by omega)).1) ((LSt.el hW.l13 (show j < sZ S (K 13) by omega)).2) (sI S 2 a) (m_weight K S a)) hW.k3.1 (pAt_3 E _ hW.k3.2) rfl rfl ⟨Nat.le_of_ble_eq_true rfl, Nat.le_of_ble_eq_true rfl⟩ (Nat.le_of_ble_eq_true rfl) ⟨Nat.zero_le _, Nat.zero_le _⟩ dX3_takersOf_81 rfl ?_
          refine j_if_eq (tgt := 93) M dX3_takersOf_84 (by decide) (fun c3 => ?_) (fun c3 => ?_)
          · refine j_iinc (v := (nI (j + 1))) (lv' := [(3, .int (nI (j + 1))), (4, .ref (el S (K 13) j)), (0, .ref (K 3)), (1, .ref a), (2, .int n)]) M dX3_takersOf_93 rfl (nI_1 _) (by decide) rfl ?_
            refine j_goto (tgt := 22) M dX3_takersOf_96 (by decide) ?_
            refine j_pick [2, 3, 4, 0] rfl ?_
            exact ih (j + 1) n (by omega) (hq.trans (by simp only [m_takersOf_lp, if_neg c1, if_neg c2, if_pos c3]))
          · refine j_iload_n M dX3_takersOf_87 rfl ?_
            refine j_iconst (v := 1) M dX3_takersOf_88 (by decide) ?_
            refine j_iload_n M dX3_takersOf_89 rfl ?_
            refine j_ishl M dX3_takersOf_90 ?_
            refine j_ior M dX3_takersOf_91 ?_
            refine j_istore_n (lv' := [(2, .int (n ||| (1 <<< ((nI j) &&& 31)))), (4, .ref (el S (K 13) j)), (0, .ref (K 3)), (1, .ref a), (3, .int (nI j))]) M dX3_takersOf_92 rfl (by decide) rfl ?_
            refine j_iinc (v := (nI (j + 1))) (lv' := [(3, .int (nI (j + 1))), (2, .int (n ||| (1 <<< ((nI j) &&& 31)))), (4, .ref (el S (K 13) j)), (0, .ref (K 3)), (1, .ref a)]) M dX3_takersOf_93 rfl (nI_1 _) (by decide) rfl ?_
            refine j_goto (tgt := 22) M dX3_takersOf_96 (by decide) ?_
            refine j_pick [3, 4, 1, 0] rfl ?_
            exact ih (j + 1) (n ||| (1 <<< ((nI j) &&& 31))) (by omega) (hq.trans (by simp only [m_takersOf_lp, if_neg c1, if_neg c2, if_neg c3]))
  refine j_aload_n M dX3_takersOf_0 rfl ?_
  refine j_getN (v := .int (sI S 5 a)) M haL (pAt_0 E _ haK) rfl inU_X0 5 (by decide) nF_X3_140 (fun _ h => h) rfl dX3_takersOf_1 ?_
  refine j_bipush (v := 8) M dX3_takersOf_4 (by decide) ?_
  refine j_icmp_gt (tgt := 18) M dX3_takersOf_6 (by decide) (fun c4 => ?_) (fun c4 => ?_)
  · refine j_iconst (v := 0) M dX3_takersOf_18 (by decide) ?_
    refine j_istore_n (lv' := [(2, .int 0), (0, .ref (K 3)), (1, .ref a)]) M dX3_takersOf_19 rfl (by decide) rfl ?_
    refine j_iconst (v := 0) M dX3_takersOf_20 (by decide) ?_
    refine j_istore_n (lv' := [(3, .int 0), (2, .int 0), (0, .ref (K 3)), (1, .ref a)]) M dX3_takersOf_21 rfl (by decide) rfl ?_
    refine j_pick (lv' := [(0, .ref (K 3)), (1, .ref a), (2, .int 0), (3, .int (nI 0))]) [2, 3, 1, 0] rfl ?_
    exact lp (sZ S (K 13)) 0 0 (by omega) (by unfold m_takersOf; rw [if_pos c4])
  · refine j_iconst (v := 1) M dX3_takersOf_9 (by decide) ?_
    refine j_aload_n M dX3_takersOf_10 rfl ?_
    refine j_getN (v := .int (sI S 1 a)) M haL (pAt_0 E _ haK) rfl inU_X0 1 (by decide) nF_X3_143 (fun _ h => h) rfl dX3_takersOf_11 ?_
    refine j_ishl M dX3_takersOf_14 ?_
    refine j_goto (tgt := 19) M dX3_takersOf_15 (by decide) ?_
    refine j_istore_n (lv' := [(2, .int (1 <<< ((sI S 1 a) &&& 31))), (0, .ref (K 3)), (1, .ref a)]) M dX3_takersOf_19 rfl (by decide) rfl ?_
    refine j_iconst (v := 0) M dX3_takersOf_20 (by decide) ?_
    refine j_istore_n (lv' := [(3, .int 0), (2, .int (1 <<< ((sI S 1 a) &&& 31))), (0, .ref (K 3)), (1, .ref a)]) M dX3_takersOf_21 rfl (by decide) rfl ?_
    refine j_pick (lv' := [(0, .ref (K 3)), (1, .ref a), (2, .int (1 <<< ((sI S 1 a) &&& 31))), (3, .int (nI 0))]) [2, 3, 1, 0] rfl ?_
    exact lp (sZ S (K 13)) 0 (1 <<< ((sI S 1 a) &&& 31)) (by omega) (by unfold m_takersOf; rw [if_neg c4])
