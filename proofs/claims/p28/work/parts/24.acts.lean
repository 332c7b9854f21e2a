def m_level (K : Nat → Nat) (S : PS) (w : Int32) (h : Int32) : Nat × Int32 × PS :=
  if m_hasCell K S w = 0 then
    (1, 0, S)
  else
    if OKw h 0 20 then
      if (m_canBuild K S w h) = 0 then
        (3, 0, S)
      else
        (0, m_levelOf K S w, m_build K S w h)
    else
      (2, 0, S)
theorem cf_X7_level : CFv yX7_level RX7 cX7_level 4 (some .int) 2 := ⟨wC_X7_level, wI_X7_level, wV_X7_X7_level, wN_X7, by decide +kernel⟩
set_option maxHeartbeats 4000000 in
set_option maxRecDepth 100000 in
theorem cx_level {l : Launch} (hlt : l.stackTraces = false) {E : EV} {K : Nat → Nat} {S : PS} (hW : WS K S) (hA : AW S) (hM : WM S) (w : Int32) (h : Int32) : CX l yX7_level cX7_level 4 (some .int) 7 112 3 18 E [.ref (K 0), .int w, .int h] S (pN (m_level K S w h)) (xN (m_level K S w h)) := by
  refine CX.of (by decide) (Nat.le_of_ble_eq_true rfl) ?_
  intro p e s m below meth c M ht
  have M : MC E p s m _ meth c cX7_level RX7 4 (some .int) := M
  show J p l e _ s m _ below meth c _ E 4 0 [(0, .ref (K 0)), (1, .int w), (2, .int h)] [] S 0 0
  refine j_aload_n M dX7_level_0 rfl ?_
  refine j_iload_n M dX7_level_1 rfl ?_
  refine jx_callV (As := [.int w]) M cf_X7_needCell wM_X7_50 (cx_needCell hlt hW w) hW.k0.1 (pAt_7 E _ hW.k0.2) rfl rfl ⟨Nat.le_of_ble_eq_true rfl, Nat.le_of_ble_eq_true rfl⟩ (Nat.le_of_ble_eq_true rfl) ⟨Nat.le_of_ble_eq_true rfl, Nat.le_of_ble_eq_true rfl⟩ dX7_level_2 rfl (fun v u h => ?_) (fun X u h => ?_)
  · obtain ⟨c1, rfl, hu⟩ := h
    obtain rfl := hu.symm
    refine j_iload_n M dX7_level_5 rfl ?_
    refine j_iconst (v := 0) M dX7_level_6 (by decide) ?_
    refine j_bipush (v := 20) M dX7_level_7 (by decide) ?_
    refine jx_callS (As := [.int h, .int 0, .int 20]) M cf_X7_needWithin wM_X7_34 (cx_needWithin hlt hW h 0 20) rfl ⟨Nat.le_of_ble_eq_true rfl, Nat.le_of_ble_eq_true rfl⟩ (Nat.le_of_ble_eq_true rfl) ⟨Nat.le_of_ble_eq_true rfl, Nat.le_of_ble_eq_true rfl⟩ dX7_level_9 rfl (fun v u h => ?_) (fun X u h => ?_)
    · obtain ⟨c2, rfl, hu⟩ := h
      obtain rfl := hu.symm
      refine j_aload_n M dX7_level_12 rfl ?_
      refine j_get (v := .ref (K 1)) M hW.k0.1 (pAt_7 E _ hW.k0.2) rfl inU_X7 0 (by decide) wF_X7_17 (fun _ h => h) (rfv hW.r48) dX7_level_13 ?_
      refine j_iload_n M dX7_level_16 rfl ?_
      refine j_iload_n M dX7_level_17 rfl ?_
      refine j_callV1 (As := [.int w, .int h]) M cf_X5_canBuild wM_X7_54 (c_canBuild hW hA hM w h) hW.k1.1 (pAt_5 E _ hW.k1.2) rfl rfl ⟨Nat.le_of_ble_eq_true rfl, Nat.le_of_ble_eq_true rfl⟩ (Nat.le_of_ble_eq_true rfl) ⟨Nat.le_of_ble_eq_true rfl, Nat.le_of_ble_eq_true rfl⟩ dX7_level_18 rfl ?_
      refine j_if_ne (tgt := 34) M dX7_level_21 (by decide) (fun c3 => ?_) (fun c3 => ?_)
      · refine j_aload_n M dX7_level_34 rfl ?_
        refine j_get (v := .ref (K 1)) M hW.k0.1 (pAt_7 E _ hW.k0.2) rfl inU_X7 0 (by decide) wF_X7_17 (fun _ h => h) (rfv hW.r48) dX7_level_35 ?_
        refine j_getN (v := .ref (K 2)) M hW.k1.1 (pAt_5 E _ hW.k1.2) rfl inU_X5 0 (by decide) nF_X7_42 (fun _ h => h) (rfv hW.r32) dX7_level_38 ?_
        refine j_iload_n M dX7_level_41 rfl ?_
        refine j_callV1 (As := [.int w]) M cf_X1_levelOf wM_X7_65 (c_levelOf hW w) hW.k2.1 (pAt_1 E _ hW.k2.2) rfl rfl ⟨Nat.le_of_ble_eq_true rfl, Nat.le_of_ble_eq_true rfl⟩ (Nat.le_of_ble_eq_true rfl) ⟨Nat.le_of_ble_eq_true rfl, Nat.le_of_ble_eq_true rfl⟩ dX7_level_42 rfl ?_
        refine j_istore_n (lv' := [(3, .int (m_levelOf K S w)), (0, .ref (K 0)), (1, .int w), (2, .int h)]) M dX7_level_45 rfl (by decide) rfl ?_
        refine j_aload_n M dX7_level_46 rfl ?_
        refine j_get (v := .ref (K 1)) M hW.k0.1 (pAt_7 E _ hW.k0.2) rfl inU_X7 0 (by decide) wF_X7_17 (fun _ h => h) (rfv hW.r48) dX7_level_47 ?_
        refine j_getN (v := .ref (K 2)) M hW.k1.1 (pAt_5 E _ hW.k1.2) rfl inU_X5 0 (by decide) nF_X7_42 (fun _ h => h) (rfv hW.r32) dX7_level_50 ?_
        refine j_iload_n M dX7_level_53 rfl ?_
        refine j_iload_n M dX7_level_54 rfl ?_
        refine j_callV0 (As := [.int w, .int h]) M cf_X1_build wM_X7_69 (c_build hW hA hM w h) hW.k2.1 (pAt_1 E _ hW.k2.2) rfl rfl ⟨Nat.le_of_ble_eq_true rfl, Nat.le_of_ble_eq_true rfl⟩ (Nat.le_of_ble_eq_true rfl) ⟨Nat.le_of_ble_eq_true rfl, Nat.le_of_ble_eq_true rfl⟩ dX7_level_55 rfl ?_
        have g1 := g_build hW hA hM w h
        refine j_iload_n M dX7_level_58 rfl ?_
        exact jx_ret (j_iret (v := (m_levelOf K S w)) M dX7_level_59 (Nat.le_of_ble_eq_true rfl) (Nat.le_of_ble_eq_true rfl) (pN_mk (show ((0, m_levelOf K S w, m_build K S w h) : Nat × Int32 × PS) = m_level K S w h from (by unfold m_level; rw [if_neg c1, if_pos c2, if_neg c3]))))
      · exact jx_throw M hlt (by decide +kernel) af_names wL_X7_58 wN_IllegalStateException nS_60 at_ISE ag_ISE dX7_level_24 dX7_level_27 dX7_level_28 dX7_level_30 dX7_level_33 ht (Nat.le_of_ble_eq_true rfl) (Nat.le_of_ble_eq_true rfl) (Nat.le_of_ble_eq_true rfl) (Nat.le_of_ble_eq_true rfl) (xN_mk (show ((3, 0, S) : Nat × Int32 × PS) = m_level K S w h from (by unfold m_level; rw [if_neg c1, if_pos c2, if_pos c3])) (by decide) (by decide)) (Nat.le_of_ble_eq_true rfl) (Nat.le_of_ble_eq_true rfl)
    · obtain ⟨c4, rfl, hu⟩ := h
      obtain rfl := hu.symm
      exact jx_out M ht (xN_mk (show ((2, 0, S) : Nat × Int32 × PS) = m_level K S w h from (by unfold m_level; rw [if_neg c1, if_neg c4])) (by decide) (by decide)) (Nat.le_of_ble_eq_true rfl) (Nat.le_of_ble_eq_true rfl)
  · obtain ⟨c5, rfl, hu⟩ := h
    obtain rfl := hu.symm
    exact jx_out M ht (xN_mk (show ((1, 0, S) : Nat × Int32 × PS) = m_level K S w h from (by unfold m_level; rw [if_pos c5])) (by decide) (by decide)) (Nat.le_of_ble_eq_true rfl) (Nat.le_of_ble_eq_true rfl)
def m_hang (K : Nat → Nat) (S : PS) (k : Nat) : Nat × Int32 × PS :=
  if k < sZ S (K 13) then
    if m_firstLoadOn K S (m_plumb K S (el S (K 13) k)) = none then
      (0, (-1), S)
    else
      if sM S 14 (el S (K 13) k) = none then
        if (m_isJustAbove K S (el S (K 13) k)) = 0 then
          (0, (-1), S)
        else
          if (sI S 20 ((m_firstLoadOn K S (m_plumb K S (el S (K 13) k))).getD 0)) ≤ (m_capacityOf K S (el S (K 13) k) (sI S 10 (el S (K 13) k))) then
            (0, sI (m_hangOn K S ((m_firstLoadOn K S (m_plumb K S (el S (K 13) k))).getD 0) (el S (K 13) k)) 19 ((m_firstLoadOn K S (m_plumb K S (el S (K 13) k))).getD 0), m_hangOn K S ((m_firstLoadOn K S (m_plumb K S (el S (K 13) k))).getD 0) (el S (K 13) k))
          else
            (0, (-1), S)
      else
        (0, (-1), S)
  else
    (1, 0, S)
theorem cf_X7_hang : CFv yX7_hang RX7 cX7_hang 4 (some .int) 1 := ⟨wC_X7_hang, wI_X7_hang, wV_X7_X7_hang, wN_X7, by decide +kernel⟩
set_option maxHeartbeats 4000000 in
set_option maxRecDepth 100000 in
theorem cx_hang {l : Launch} (hlt : l.stackTraces = false) {E : EV} {K : Nat → Nat} {S : PS} (hW : WS K S) (hA : AW S) (hM : WM S) {k : Nat} (hk2 : k < 2 ^ 31) : CX l yX7_hang cX7_hang 4 (some .int) 7 110 1 6 E [.ref (K 0), .int (nI k)] S (pN (m_hang K S k)) (xN (m_hang K S k)) := by
  refine CX.of (by decide) (Nat.le_of_ble_eq_true rfl) ?_
  intro p e s m below meth c M ht
  have M : MC E p s m _ meth c cX7_hang RX7 4 (some .int) := M
  show J p l e _ s m _ below meth c _ E 4 0 [(0, .ref (K 0)), (1, .int (nI k))] [] S 0 0
  refine j_aload_n M dX7_hang_0 rfl ?_
  refine j_iload_n M dX7_hang_1 rfl ?_
  refine jx_callV (As := [.int (nI k)]) M cf_X7_needCrane wM_X7_147 (cx_needCrane hlt hW hk2) hW.k0.1 (pAt_7 E _ hW.k0.2) rfl rfl ⟨Nat.le_of_ble_eq_true rfl, Nat.le_of_ble_eq_true rfl⟩ (Nat.le_of_ble_eq_true rfl) ⟨Nat.le_of_ble_eq_true rfl, Nat.le_of_ble_eq_true rfl⟩ dX7_hang_2 rfl (fun v u h => ?_) (fun X u h => ?_)
  · obtain ⟨c1, rfl, hu⟩ := h
    obtain rfl := hu.symm
    refine j_astore_n (lv' := [(2, .ref (el S (K 13) k)), (0, .ref (K 0)), (1, .int (nI k))]) M dX7_hang_5 rfl (by decide) rfl ?_
    refine j_aload_n M dX7_hang_6 rfl ?_
    refine j_get (v := .ref (K 1)) M hW.k0.1 (pAt_7 E _ hW.k0.2) rfl inU_X7 0 (by decide) wF_X7_17 (fun _ h => h) (rfv hW.r48) dX7_hang_7 ?_
    refine j_aload_n M dX7_hang_10 rfl ?_
    refine j_callV1 (As := []) M cf_X0_plumb wM_X7_167 (c_plumb hW ((LSt.el hW.l13 c1).1) ((LSt.el hW.l13 c1).2)) ((LSt.el hW.l13 c1).1) (pAt_0 E _ ((LSt.el hW.l13 c1).2)) rfl rfl ⟨Nat.le_of_ble_eq_true rfl, Nat.le_of_ble_eq_true rfl⟩ (Nat.le_of_ble_eq_true rfl) ⟨Nat.le_of_ble_eq_true rfl, Nat.le_of_ble_eq_true rfl⟩ dX7_hang_11 rfl ?_
    refine j_callV1 (As := [.int (m_plumb K S (el S (K 13) k))]) M cf_X5_firstLoadOn wM_X7_170 (c_firstLoadOn hW hA hM (m_plumb K S (el S (K 13) k))) hW.k1.1 (pAt_5 E _ hW.k1.2) rfl rfl ⟨Nat.le_of_ble_eq_true rfl, Nat.le_of_ble_eq_true rfl⟩ (Nat.le_of_ble_eq_true rfl) ⟨Nat.le_of_ble_eq_true rfl, Nat.le_of_ble_eq_true rfl⟩ dX7_hang_14 rfl ?_
    refine j_opt (fun c2 => ?_) (fun c2s c2 => ?_)
    · refine j_astore_nN (lv' := [(3, .null), (2, .ref (el S (K 13) k)), (0, .ref (K 0)), (1, .int (nI k))]) M dX7_hang_17 rfl (by decide) rfl ?_
      refine j_aload_nN M dX7_hang_18 rfl ?_
      refine j_ifnullN (tgt := 55) M dX7_hang_19 (by decide) ?_
      refine j_iconst (v := (-1)) M dX7_hang_55 (by decide) ?_
      exact jx_ret (j_iret (v := (-1)) M dX7_hang_56 (Nat.le_of_ble_eq_true rfl) (Nat.le_of_ble_eq_true rfl) (pN_mk (show ((0, (-1), S) : Nat × Int32 × PS) = m_hang K S k from (by unfold m_hang; rw [if_pos c1, if_pos c2]))))
    · refine j_astore_n (lv' := [(3, .ref ((m_firstLoadOn K S (m_plumb K S (el S (K 13) k))).getD 0)), (2, .ref (el S (K 13) k)), (0, .ref (K 0)), (1, .int (nI k))]) M dX7_hang_17 rfl (by decide) rfl ?_
      refine j_aload_n M dX7_hang_18 rfl ?_
      refine j_ifnull M dX7_hang_19 ?_
      refine j_aload_n M dX7_hang_22 rfl ?_
      refine j_getN (v := va_rf (sM S 14 (el S (K 13) k))) M ((LSt.el hW.l13 c1).1) (pAt_0 E _ ((LSt.el hW.l13 c1).2)) rfl inU_X0 14 (by decide) nF_X7_174 (fun _ h => h) rfl dX7_hang_23 ?_
      refine j_opt (fun c3 => ?_) (fun c3s c3 => ?_)
      · refine j_ifnonnullN M dX7_hang_26 ?_
        refine j_aload_n M dX7_hang_29 rfl ?_
        refine j_callV1 (As := []) M cf_X0_isJustAbove wM_X7_178 (c_isJustAbove hW ((LSt.el hW.l13 c1).1) ((LSt.el hW.l13 c1).2)) ((LSt.el hW.l13 c1).1) (pAt_0 E _ ((LSt.el hW.l13 c1).2)) rfl rfl ⟨Nat.le_of_ble_eq_true rfl, Nat.le_of_ble_eq_true rfl⟩ (Nat.le_of_ble_eq_true rfl) ⟨Nat.le_of_ble_eq_true rfl, Nat.le_of_ble_eq_true rfl⟩ dX7_hang_30 rfl ?_
        refine j_if_eq (tgt := 55) M dX7_hang_33 (by decide) (fun c4 => ?_) (fun c4 => ?_)
        · refine j_iconst (v := (-1)) M dX7_hang_55 (by decide) ?_
          exact jx_ret (j_iret (v := (-1)) M dX7_hang_56 (Nat.le_of_ble_eq_true rfl) (Nat.le_of_ble_eq_true rfl) (pN_mk (show ((0, (-1), S) : Nat × Int32 × PS) = m_hang K S k from (by unfold m_hang; rw [if_pos c1, if_neg c2, if_pos c3, if_pos c4]))))
        · refine j_aload_n M dX7_hang_36 rfl ?_
          refine j_getN (v := .int (sI S 20 ((m_firstLoadOn K S (m_plumb K S (el S (K 13) k))).getD 0))) M ((k_firstLoadOn hW c2s).1) (pAt_2 E _ ((k_firstLoadOn hW c2s).2)) rfl inU_X2 1 (by decide) nF_X7_182 (fun _ h => h) rfl dX7_hang_37 ?_
          refine j_aload_n M dX7_hang_40 rfl ?_
          refine j_get (v := .ref (K 1)) M hW.k0.1 (pAt_7 E _ hW.k0.2) rfl inU_X7 0 (by decide) wF_X7_17 (fun _ h => h) (rfv hW.r48) dX7_hang_41 ?_
          refine j_aload_n M dX7_hang_44 rfl ?_
          refine j_aload_n M dX7_hang_45 rfl ?_
          refine j_getN (v := .int (sI S 10 (el S (K 13) k))) M ((LSt.el hW.l13 c1).1) (pAt_0 E _ ((LSt.el hW.l13 c1).2)) rfl inU_X0 10 (by decide) nF_X7_185 (fun _ h => h) rfl dX7_hang_46 ?_
          refine j_callV1 (As := [.ref (el S (K 13) k), .int (sI S 10 (el S (K 13) k))]) M cf_X5_capacityOf wM_X7_188 (c_capacityOf hW hA hM ((LSt.el hW.l13 c1).1) ((LSt.el hW.l13 c1).2) (sI S 10 (el S (K 13) k))) hW.k1.1 (pAt_5 E _ hW.k1.2) rfl rfl ⟨Nat.le_of_ble_eq_true rfl, Nat.le_of_ble_eq_true rfl⟩ (Nat.le_of_ble_eq_true rfl) ⟨Nat.le_of_ble_eq_true rfl, Nat.le_of_ble_eq_true rfl⟩ dX7_hang_49 rfl ?_
          refine j_icmp_le (tgt := 57) M dX7_hang_52 (by decide) (fun c5 => ?_) (fun c5 => ?_)
          · refine j_aload_n M dX7_hang_57 rfl ?_
            refine j_aload_n M dX7_hang_58 rfl ?_
            refine j_callV0 (As := [.ref (el S (K 13) k)]) M cf_X2_hangOn wM_X7_191 (c_hangOn hW hA hM ((k_firstLoadOn hW c2s).1) ((k_firstLoadOn hW c2s).2) ((LSt.el hW.l13 c1).1) ((LSt.el hW.l13 c1).2)) ((k_firstLoadOn hW c2s).1) (pAt_2 E _ ((k_firstLoadOn hW c2s).2)) rfl rfl ⟨Nat.le_of_ble_eq_true rfl, Nat.le_of_ble_eq_true rfl⟩ (Nat.le_of_ble_eq_true rfl) ⟨Nat.le_of_ble_eq_true rfl, Nat.le_of_ble_eq_true rfl⟩ dX7_hang_59 rfl ?_
            have g1 := g_hangOn hW hA hM ((k_firstLoadOn hW c2s).1) ((k_firstLoadOn hW c2s).2) ((LSt.el hW.l13 c1).1) ((LSt.el hW.l13 c1).2)
            refine j_aload_n M dX7_hang_62 rfl ?_
            refine j_getN (v := .int (sI (m_hangOn K S ((m_firstLoadOn K S (m_plumb K S (el S (K 13) k))).getD 0) (el S (K 13) k)) 19 ((m_firstLoadOn K S (m_plumb K S (el S (K 13) k))).getD 0))) M (g1.2.inL ((k_firstLoadOn hW c2s).1)) (pAt_2 E _ (g1.2.inK ((k_firstLoadOn hW c2s).2))) rfl inU_X2 0 (by decide) nF_X7_195 (fun _ h => h) rfl dX7_hang_63 ?_
            exact jx_ret (j_iret (v := (sI (m_hangOn K S ((m_firstLoadOn K S (m_plumb K S (el S (K 13) k))).getD 0) (el S (K 13) k)) 19 ((m_firstLoadOn K S (m_plumb K S (el S (K 13) k))).getD 0))) M dX7_hang_66 (Nat.le_of_ble_eq_true rfl) (Nat.le_of_ble_eq_true rfl) (pN_mk (show ((0, sI (m_hangOn K S ((m_firstLoadOn K S (m_plumb K S (el S (K 13) k))).getD 0) (el S (K 13) k)) 19 ((m_firstLoadOn K S (m_plumb K S (el S (K 13) k))).getD 0), m_hangOn K S ((m_firstLoadOn K S (m_plumb K S (el S (K 13) k))).getD 0) (el S (K 13) k)) : Nat × Int32 × PS) = m_hang K S k from (by unfold m_hang; rw [if_pos c1, if_neg c2, if_pos c3, if_neg c4, if_pos c5]))))
          · refine j_iconst (v := (-1)) M dX7_hang_55 (by decide) ?_
            exact jx_ret (j_iret (v := (-1)) M dX7_hang_56 (Nat.le_of_ble_eq_true rfl) (Nat.le_of_ble_eq_true rfl) (pN_mk (show ((0, (-1), S) : Nat × Int32 × PS) = m_hang K S k from (by unfold m_hang; rw [if_pos c1, if_neg c2, if_pos c3, if_neg c4, if_neg c5]))))
      · refine j_ifnonnull (tgt := 55) M dX7_hang_26 (by decide) ?_
        refine j_iconst (v := (-1)) M dX7_hang_55 (by decide) ?_
        exact jx_ret (j_iret (v := (-1)) M dX7_hang_56 (Nat.le_of_ble_eq_true rfl) (Nat.le_of_ble_eq_true rfl) (pN_mk (show ((0, (-1), S) : Nat × Int32 × PS) = m_hang K S k from (by unfold m_hang; rw [if_pos c1, if_neg c2, if_neg c3]))))
  · obtain ⟨c6, rfl, hu⟩ := h
    obtain rfl := hu.symm
    exact jx_out M ht (xN_mk (show ((1, 0, S) : Nat × Int32 × PS) = m_hang K S k from (by unfold m_hang; rw [if_neg c6])) (by decide) (by decide)) (Nat.le_of_ble_eq_true rfl) (Nat.le_of_ble_eq_true rfl)
def m_set (K : Nat → Nat) (S : PS) (k : Nat) : Nat × Int32 × PS :=
  if k < sZ S (K 13) then
    if sM S 14 (el S (K 13) k) = none then
      (0, (-1), S)
    else
      if (m_isJustAbove K S (el S (K 13) k)) = 0 then
        (0, (-1), S)
      else
        if (m_towerOn K S (m_plumb K S (el S (K 13) k))) = (-1) then
          (0, sI (m_lieOn K (uM S 14 (el S (K 13) k) none) ((sM S 14 (el S (K 13) k)).getD 0) (m_plumb K S (el S (K 13) k))) 19 ((sM S 14 (el S (K 13) k)).getD 0), m_lieOn K (uM S 14 (el S (K 13) k) none) ((sM S 14 (el S (K 13) k)).getD 0) (m_plumb K S (el S (K 13) k)))
        else
          (0, (-1), S)
  else
    (1, 0, S)
theorem cf_X7_set : CFv yX7_set RX7 cX7_set 5 (some .int) 1 := ⟨wC_X7_set, wI_X7_set, wV_X7_X7_set, wN_X7, by decide +kernel⟩
set_option maxHeartbeats 4000000 in
set_option maxRecDepth 100000 in
theorem cx_set {l : Launch} (hlt : l.stackTraces = false) {E : EV} {K : Nat → Nat} {S : PS} (hW : WS K S) (hA : AW S) (hM : WM S) {k : Nat} (hk2 : k < 2 ^ 31) : CX l yX7_set cX7_set 5 (some .int) 7 104 1 6 E [.ref (K 0), .int (nI k)] S (pN (m_set K S k)) (xN (m_set K S k)) := by
  refine CX.of (by decide) (Nat.le_of_ble_eq_true rfl) ?_
  intro p e s m below meth c M ht
  have M : MC E p s m _ meth c cX7_set RX7 5 (some .int) := M
  show J p l e _ s m _ below meth c _ E 5 0 [(0, .ref (K 0)), (1, .int (nI k))] [] S 0 0
  refine j_aload_n M dX7_set_0 rfl ?_
  refine j_iload_n M dX7_set_1 rfl ?_
  refine jx_callV (As := [.int (nI k)]) M cf_X7_needCrane wM_X7_147 (cx_needCrane hlt hW hk2) hW.k0.1 (pAt_7 E _ hW.k0.2) rfl rfl ⟨Nat.le_of_ble_eq_true rfl, Nat.le_of_ble_eq_true rfl⟩ (Nat.le_of_ble_eq_true rfl) ⟨Nat.le_of_ble_eq_true rfl, Nat.le_of_ble_eq_true rfl⟩ dX7_set_2 rfl (fun v u h => ?_) (fun X u h => ?_)
  · obtain ⟨c1, rfl, hu⟩ := h
    obtain rfl := hu.symm
    refine j_astore_n (lv' := [(2, .ref (el S (K 13) k)), (0, .ref (K 0)), (1, .int (nI k))]) M dX7_set_5 rfl (by decide) rfl ?_
    refine j_aload_n M dX7_set_6 rfl ?_
    refine j_getN (v := va_rf (sM S 14 (el S (K 13) k))) M ((LSt.el hW.l13 c1).1) (pAt_0 E _ ((LSt.el hW.l13 c1).2)) rfl inU_X0 14 (by decide) nF_X7_174 (fun _ h => h) rfl dX7_set_7 ?_
    refine j_opt (fun c2 => ?_) (fun c2s c2 => ?_)
    · refine j_astore_nN (lv' := [(3, .null), (2, .ref (el S (K 13) k)), (0, .ref (K 0)), (1, .int (nI k))]) M dX7_set_10 rfl (by decide) rfl ?_
      refine j_aload_n M dX7_set_11 rfl ?_
      refine j_callV1 (As := []) M cf_X0_plumb wM_X7_167 (c_plumb hW ((LSt.el hW.l13 c1).1) ((LSt.el hW.l13 c1).2)) ((LSt.el hW.l13 c1).1) (pAt_0 E _ ((LSt.el hW.l13 c1).2)) rfl rfl ⟨Nat.le_of_ble_eq_true rfl, Nat.le_of_ble_eq_true rfl⟩ (Nat.le_of_ble_eq_true rfl) ⟨Nat.le_of_ble_eq_true rfl, Nat.le_of_ble_eq_true rfl⟩ dX7_set_12 rfl ?_
      refine j_istore (lv' := [(4, .int (m_plumb K S (el S (K 13) k))), (3, .null), (2, .ref (el S (K 13) k)), (0, .ref (K 0)), (1, .int (nI k))]) M dX7_set_15 (by decide) rfl ?_
      refine j_aload_nN M dX7_set_17 rfl ?_
      refine j_ifnullN (tgt := 41) M dX7_set_18 (by decide) ?_
      refine j_iconst (v := (-1)) M dX7_set_41 (by decide) ?_
      exact jx_ret (j_iret (v := (-1)) M dX7_set_42 (Nat.le_of_ble_eq_true rfl) (Nat.le_of_ble_eq_true rfl) (pN_mk (show ((0, (-1), S) : Nat × Int32 × PS) = m_set K S k from (by unfold m_set; rw [if_pos c1, if_pos c2]))))
    · refine j_astore_n (lv' := [(3, .ref ((sM S 14 (el S (K 13) k)).getD 0)), (2, .ref (el S (K 13) k)), (0, .ref (K 0)), (1, .int (nI k))]) M dX7_set_10 rfl (by decide) rfl ?_
      refine j_aload_n M dX7_set_11 rfl ?_
      refine j_callV1 (As := []) M cf_X0_plumb wM_X7_167 (c_plumb hW ((LSt.el hW.l13 c1).1) ((LSt.el hW.l13 c1).2)) ((LSt.el hW.l13 c1).1) (pAt_0 E _ ((LSt.el hW.l13 c1).2)) rfl rfl ⟨Nat.le_of_ble_eq_true rfl, Nat.le_of_ble_eq_true rfl⟩ (Nat.le_of_ble_eq_true rfl) ⟨Nat.le_of_ble_eq_true rfl, Nat.le_of_ble_eq_true rfl⟩ dX7_set_12 rfl ?_
      refine j_istore (lv' := [(4, .int (m_plumb K S (el S (K 13) k))), (3, .ref ((sM S 14 (el S (K 13) k)).getD 0)), (2, .ref (el S (K 13) k)), (0, .ref (K 0)), (1, .int (nI k))]) M dX7_set_15 (by decide) rfl ?_
      refine j_aload_n M dX7_set_17 rfl ?_
      refine j_ifnull M dX7_set_18 ?_
      refine j_aload_n M dX7_set_21 rfl ?_
      refine j_callV1 (As := []) M cf_X0_isJustAbove wM_X7_178 (c_isJustAbove hW ((LSt.el hW.l13 c1).1) ((LSt.el hW.l13 c1).2)) ((LSt.el hW.l13 c1).1) (pAt_0 E _ ((LSt.el hW.l13 c1).2)) rfl rfl ⟨Nat.le_of_ble_eq_true rfl, Nat.le_of_ble_eq_true rfl⟩ (Nat.le_of_ble_eq_true rfl) ⟨Nat.le_of_ble_eq_true rfl, Nat.le_of_ble_eq_true rfl⟩ dX7_set_22 rfl ?_
      refine j_if_eq (tgt := 41) M dX7_set_25 (by decide) (fun c3 => ?_) (fun c3 => ?_)
      · refine j_iconst (v := (-1)) M dX7_set_41 (by decide) ?_
        exact jx_ret (j_iret (v := (-1)) M dX7_set_42 (Nat.le_of_ble_eq_true rfl) (Nat.le_of_ble_eq_true rfl) (pN_mk (show ((0, (-1), S) : Nat × Int32 × PS) = m_set K S k from (by unfold m_set; rw [if_pos c1, if_neg c2, if_pos c3]))))
      · refine j_aload_n M dX7_set_28 rfl ?_
        refine j_get (v := .ref (K 1)) M hW.k0.1 (pAt_7 E _ hW.k0.2) rfl inU_X7 0 (by decide) wF_X7_17 (fun _ h => h) (rfv hW.r48) dX7_set_29 ?_
        refine j_iload M dX7_set_32 rfl ?_
        refine j_callV1 (As := [.int (m_plumb K S (el S (K 13) k))]) M cf_X5_towerOn wM_X7_116 (c_towerOn hW hA hM (m_plumb K S (el S (K 13) k))) hW.k1.1 (pAt_5 E _ hW.k1.2) rfl rfl ⟨Nat.le_of_ble_eq_true rfl, Nat.le_of_ble_eq_true rfl⟩ (Nat.le_of_ble_eq_true rfl) ⟨Nat.le_of_ble_eq_true rfl, Nat.le_of_ble_eq_true rfl⟩ dX7_set_34 rfl ?_
        refine j_iconst (v := (-1)) M dX7_set_37 (by decide) ?_
        refine j_icmp_eq (tgt := 43) M dX7_set_38 (by decide) (fun c4 => ?_) (fun c4 => ?_)
        · refine j_aload_n M dX7_set_43 rfl ?_
          refine j_null M dX7_set_44 ?_
          refine j_putN (S2 := uM S 14 (el S (K 13) k) none) M ((LSt.el hW.l13 c1).1) (pAt_0 E _ ((LSt.el hW.l13 c1).2)) rfl inU_X0 14 (by decide) tyX0 tyX0_ok nmX0 nF_X7_174 (fun _ h => h) rfl (tyX0_ok 14 (by decide)) rfl rfl (Nat.le_of_ble_eq_true rfl) rfl (pUp_14 E S ((LSt.el hW.l13 c1).2) none) dX7_set_45 ?_
          refine j_aload_n M dX7_set_48 rfl ?_
          refine j_iload M dX7_set_49 rfl ?_
          refine j_callV0 (As := [.int (m_plumb K S (el S (K 13) k))]) M cf_X2_lieOn wM_X7_198 (c_lieOn (S := uM S 14 (el S (K 13) k) none) (WS.uM hW) (AW.uM hA) (WM.uMn hM) ((hM.ld ((LSt.el hW.l13 c1).1) ((LSt.el hW.l13 c1).2) c2s).1) ((hM.ld ((LSt.el hW.l13 c1).1) ((LSt.el hW.l13 c1).2) c2s).2) (m_plumb K S (el S (K 13) k))) ((hM.ld ((LSt.el hW.l13 c1).1) ((LSt.el hW.l13 c1).2) c2s).1) (pAt_2 E _ ((hM.ld ((LSt.el hW.l13 c1).1) ((LSt.el hW.l13 c1).2) c2s).2)) rfl rfl ⟨Nat.le_of_ble_eq_true rfl, Nat.le_of_ble_eq_true rfl⟩ (Nat.le_of_ble_eq_true rfl) ⟨Nat.le_of_ble_eq_true rfl, Nat.le_of_ble_eq_true rfl⟩ dX7_set_51 rfl ?_
          have g1 := g_lieOn (S := uM S 14 (el S (K 13) k) none) (WS.uM hW) (AW.uM hA) (WM.uMn hM) ((hM.ld ((LSt.el hW.l13 c1).1) ((LSt.el hW.l13 c1).2) c2s).1) ((hM.ld ((LSt.el hW.l13 c1).1) ((LSt.el hW.l13 c1).2) c2s).2) (m_plumb K S (el S (K 13) k))
          refine j_aload_n M dX7_set_54 rfl ?_
          refine j_getN (v := .int (sI (m_lieOn K (uM S 14 (el S (K 13) k) none) ((sM S 14 (el S (K 13) k)).getD 0) (m_plumb K S (el S (K 13) k))) 19 ((sM S 14 (el S (K 13) k)).getD 0))) M (g1.2.inL ((hM.ld ((LSt.el hW.l13 c1).1) ((LSt.el hW.l13 c1).2) c2s).1)) (pAt_2 E _ (g1.2.inK ((hM.ld ((LSt.el hW.l13 c1).1) ((LSt.el hW.l13 c1).2) c2s).2))) rfl inU_X2 0 (by decide) nF_X7_195 (fun _ h => h) rfl dX7_set_55 ?_
          exact jx_ret (j_iret (v := (sI (m_lieOn K (uM S 14 (el S (K 13) k) none) ((sM S 14 (el S (K 13) k)).getD 0) (m_plumb K S (el S (K 13) k))) 19 ((sM S 14 (el S (K 13) k)).getD 0))) M dX7_set_58 (Nat.le_of_ble_eq_true rfl) (Nat.le_of_ble_eq_true rfl) (pN_mk (show ((0, sI (m_lieOn K (uM S 14 (el S (K 13) k) none) ((sM S 14 (el S (K 13) k)).getD 0) (m_plumb K S (el S (K 13) k))) 19 ((sM S 14 (el S (K 13) k)).getD 0), m_lieOn K (uM S 14 (el S (K 13) k) none) ((sM S 14 (el S (K 13) k)).getD 0) (m_plumb K S (el S (K 13) k))) : Nat × Int32 × PS) = m_set K S k from (by unfold m_set; rw [if_pos c1, if_neg c2, if_neg c3, if_pos c4]))))
        · refine j_iconst (v := (-1)) M dX7_set_41 (by decide) ?_
          exact jx_ret (j_iret (v := (-1)) M dX7_set_42 (Nat.le_of_ble_eq_true rfl) (Nat.le_of_ble_eq_true rfl) (pN_mk (show ((0, (-1), S) : Nat × Int32 × PS) = m_set K S k from (by unfold m_set; rw [if_pos c1, if_neg c2, if_neg c3, if_neg c4]))))
  · obtain ⟨c5, rfl, hu⟩ := h
    obtain rfl := hu.symm
    exact jx_out M ht (xN_mk (show ((1, 0, S) : Nat × Int32 × PS) = m_set K S k from (by unfold m_set; rw [if_neg c5])) (by decide) (by decide)) (Nat.le_of_ble_eq_true rfl) (Nat.le_of_ble_eq_true rfl)
def m_hand (K : Nat → Nat) (S : PS) (k : Nat) (q : Nat) : Nat × Int32 × PS :=
  if k < sZ S (K 13) then
    if q < sZ S (K 13) then
      if (nI k) = (nI q) then
        (2, 0, S)
      else
        if sM S 14 (el S (K 13) k) = none then
          (0, (-1), S)
        else
          if sM S 14 (el S (K 13) q) = none then
            if (m_canMeet K S (el S (K 13) k) (el S (K 13) q)) = 0 then
              (0, (-1), S)
            else
              if (m_capacityOf K S (el S (K 13) q) (sI S 10 (el S (K 13) q))) < (sI S 20 ((sM S 14 (el S (K 13) k)).getD 0)) then
                (0, (-1), S)
              else
                if 2 ≤ (m_above K S (el S (K 13) q)) then
                  (0, sI (m_hangOn K (uM S 14 (el S (K 13) k) none) ((sM S 14 (el S (K 13) k)).getD 0) (el S (K 13) q)) 19 ((sM S 14 (el S (K 13) k)).getD 0), m_hangOn K (uM S 14 (el S (K 13) k) none) ((sM S 14 (el S (K 13) k)).getD 0) (el S (K 13) q))
                else
                  (0, (-1), S)
          else
            (0, (-1), S)
    else
      (1, 0, S)
  else
    (1, 0, S)
theorem cf_X7_hand : CFv yX7_hand RX7 cX7_hand 6 (some .int) 2 := ⟨wC_X7_hand, wI_X7_hand, wV_X7_X7_hand, wN_X7, by decide +kernel⟩
set_option maxHeartbeats 4000000 in
set_option maxRecDepth 100000 in
theorem cx_hand {l : Launch} (hlt : l.stackTraces = false) {E : EV} {K : Nat → Nat} {S : PS} (hW : WS K S) (hA : AW S) (hM : WM S) {k : Nat} {q : Nat} (hk2 : k < 2 ^ 31) (hq2 : q < 2 ^ 31) : CX l yX7_hand cX7_hand 6 (some .int) 7 110 3 18 E [.ref (K 0), .int (nI k), .int (nI q)] S (pN (m_hand K S k q)) (xN (m_hand K S k q)) := by
  refine CX.of (by decide) (Nat.le_of_ble_eq_true rfl) ?_
  intro p e s m below meth c M ht
  have M : MC E p s m _ meth c cX7_hand RX7 6 (some .int) := M
  show J p l e _ s m _ below meth c _ E 6 0 [(0, .ref (K 0)), (1, .int (nI k)), (2, .int (nI q))] [] S 0 0
  refine j_aload_n M dX7_hand_0 rfl ?_
  refine j_iload_n M dX7_hand_1 rfl ?_
  refine jx_callV (As := [.int (nI k)]) M cf_X7_needCrane wM_X7_147 (cx_needCrane hlt hW hk2) hW.k0.1 (pAt_7 E _ hW.k0.2) rfl rfl ⟨Nat.le_of_ble_eq_true rfl, Nat.le_of_ble_eq_true rfl⟩ (Nat.le_of_ble_eq_true rfl) ⟨Nat.le_of_ble_eq_true rfl, Nat.le_of_ble_eq_true rfl⟩ dX7_hand_2 rfl (fun v u h => ?_) (fun X u h => ?_)
  · obtain ⟨c1, rfl, hu⟩ := h
    obtain rfl := hu.symm
    refine j_astore_n (lv' := [(3, .ref (el S (K 13) k)), (0, .ref (K 0)), (1, .int (nI k)), (2, .int (nI q))]) M dX7_hand_5 rfl (by decide) rfl ?_
    refine j_aload_n M dX7_hand_6 rfl ?_
    refine j_iload_n M dX7_hand_7 rfl ?_
    refine jx_callV (As := [.int (nI q)]) M cf_X7_needCrane wM_X7_147 (cx_needCrane hlt hW hq2) hW.k0.1 (pAt_7 E _ hW.k0.2) rfl rfl ⟨Nat.le_of_ble_eq_true rfl, Nat.le_of_ble_eq_true rfl⟩ (Nat.le_of_ble_eq_true rfl) ⟨Nat.le_of_ble_eq_true rfl, Nat.le_of_ble_eq_true rfl⟩ dX7_hand_8 rfl (fun v u h => ?_) (fun X u h => ?_)
    · obtain ⟨c2, rfl, hu⟩ := h
      obtain rfl := hu.symm
      refine j_astore (lv' := [(4, .ref (el S (K 13) q)), (3, .ref (el S (K 13) k)), (0, .ref (K 0)), (1, .int (nI k)), (2, .int (nI q))]) M dX7_hand_11 (by decide) rfl ?_
      refine j_iload_n M dX7_hand_13 rfl ?_
      refine j_iload_n M dX7_hand_14 rfl ?_
      refine j_icmp_ne (tgt := 28) M dX7_hand_15 (by decide) (fun c3 => ?_) (fun c3 => ?_)
      · refine j_aload_n M dX7_hand_28 rfl ?_
        refine j_getN (v := va_rf (sM S 14 (el S (K 13) k))) M ((LSt.el hW.l13 c1).1) (pAt_0 E _ ((LSt.el hW.l13 c1).2)) rfl inU_X0 14 (by decide) nF_X7_174 (fun _ h => h) rfl dX7_hand_29 ?_
        refine j_opt (fun c4 => ?_) (fun c4s c4 => ?_)
        · refine j_astoreN (lv' := [(5, .null), (4, .ref (el S (K 13) q)), (3, .ref (el S (K 13) k)), (0, .ref (K 0)), (1, .int (nI k)), (2, .int (nI q))]) M dX7_hand_32 (by decide) rfl ?_
          refine j_aloadN M dX7_hand_34 rfl ?_
          refine j_ifnullN (tgt := 87) M dX7_hand_36 (by decide) ?_
          refine j_iconst (v := (-1)) M dX7_hand_87 (by decide) ?_
          exact jx_ret (j_iret (v := (-1)) M dX7_hand_88 (Nat.le_of_ble_eq_true rfl) (Nat.le_of_ble_eq_true rfl) (pN_mk (show ((0, (-1), S) : Nat × Int32 × PS) = m_hand K S k q from (by unfold m_hand; rw [if_pos c1, if_pos c2, if_neg c3, if_pos c4]))))
        · refine j_astore (lv' := [(5, .ref ((sM S 14 (el S (K 13) k)).getD 0)), (4, .ref (el S (K 13) q)), (3, .ref (el S (K 13) k)), (0, .ref (K 0)), (1, .int (nI k)), (2, .int (nI q))]) M dX7_hand_32 (by decide) rfl ?_
          refine j_aload M dX7_hand_34 rfl ?_
          refine j_ifnull M dX7_hand_36 ?_
          refine j_aload M dX7_hand_39 rfl ?_
          refine j_getN (v := va_rf (sM S 14 (el S (K 13) q))) M ((LSt.el hW.l13 c2).1) (pAt_0 E _ ((LSt.el hW.l13 c2).2)) rfl inU_X0 14 (by decide) nF_X7_174 (fun _ h => h) rfl dX7_hand_41 ?_
          refine j_opt (fun c5 => ?_) (fun c5s c5 => ?_)
          · refine j_ifnonnullN M dX7_hand_44 ?_
            refine j_aload_n M dX7_hand_47 rfl ?_
            refine j_aload M dX7_hand_48 rfl ?_
            refine j_callV1 (As := [.ref (el S (K 13) q)]) M cf_X0_canMeet wM_X7_206 (c_canMeet hW ((LSt.el hW.l13 c1).1) ((LSt.el hW.l13 c1).2) ((LSt.el hW.l13 c2).1) ((LSt.el hW.l13 c2).2)) ((LSt.el hW.l13 c1).1) (pAt_0 E _ ((LSt.el hW.l13 c1).2)) rfl rfl ⟨Nat.le_of_ble_eq_true rfl, Nat.le_of_ble_eq_true rfl⟩ (Nat.le_of_ble_eq_true rfl) ⟨Nat.le_of_ble_eq_true rfl, Nat.le_of_ble_eq_true rfl⟩ dX7_hand_50 rfl ?_
            refine j_if_eq (tgt := 87) M dX7_hand_53 (by decide) (fun c6 => ?_) (fun c6 => ?_)
            · refine j_iconst (v := (-1)) M dX7_hand_87 (by decide) ?_
              exact jx_ret (j_iret (v := (-1)) M dX7_hand_88 (Nat.le_of_ble_eq_true rfl) (Nat.le_of_ble_eq_true rfl) (pN_mk (show ((0, (-1), S) : Nat × Int32 × PS) = m_hand K S k q from (by unfold m_hand; rw [if_pos c1, if_pos c2, if_neg c3, if_neg c4, if_pos c5, if_pos c6]))))
            · refine j_aload M dX7_hand_56 rfl ?_
              refine j_getN (v := .int (sI S 20 ((sM S 14 (el S (K 13) k)).getD 0))) M ((hM.ld ((LSt.el hW.l13 c1).1) ((LSt.el hW.l13 c1).2) c4s).1) (pAt_2 E _ ((hM.ld ((LSt.el hW.l13 c1).1) ((LSt.el hW.l13 c1).2) c4s).2)) rfl inU_X2 1 (by decide) nF_X7_182 (fun _ h => h) rfl dX7_hand_58 ?_
              refine j_aload_n M dX7_hand_61 rfl ?_
              refine j_get (v := .ref (K 1)) M hW.k0.1 (pAt_7 E _ hW.k0.2) rfl inU_X7 0 (by decide) wF_X7_17 (fun _ h => h) (rfv hW.r48) dX7_hand_62 ?_
              refine j_aload M dX7_hand_65 rfl ?_
              refine j_aload M dX7_hand_67 rfl ?_
              refine j_getN (v := .int (sI S 10 (el S (K 13) q))) M ((LSt.el hW.l13 c2).1) (pAt_0 E _ ((LSt.el hW.l13 c2).2)) rfl inU_X0 10 (by decide) nF_X7_185 (fun _ h => h) rfl dX7_hand_69 ?_
              refine j_callV1 (As := [.ref (el S (K 13) q), .int (sI S 10 (el S (K 13) q))]) M cf_X5_capacityOf wM_X7_188 (c_capacityOf hW hA hM ((LSt.el hW.l13 c2).1) ((LSt.el hW.l13 c2).2) (sI S 10 (el S (K 13) q))) hW.k1.1 (pAt_5 E _ hW.k1.2) rfl rfl ⟨Nat.le_of_ble_eq_true rfl, Nat.le_of_ble_eq_true rfl⟩ (Nat.le_of_ble_eq_true rfl) ⟨Nat.le_of_ble_eq_true rfl, Nat.le_of_ble_eq_true rfl⟩ dX7_hand_72 rfl ?_
              refine j_icmp_gt (tgt := 87) M dX7_hand_75 (by decide) (fun c7 => ?_) (fun c7 => ?_)
              · refine j_iconst (v := (-1)) M dX7_hand_87 (by decide) ?_
                exact jx_ret (j_iret (v := (-1)) M dX7_hand_88 (Nat.le_of_ble_eq_true rfl) (Nat.le_of_ble_eq_true rfl) (pN_mk (show ((0, (-1), S) : Nat × Int32 × PS) = m_hand K S k q from (by unfold m_hand; rw [if_pos c1, if_pos c2, if_neg c3, if_neg c4, if_pos c5, if_neg c6, if_pos c7]))))
              · refine j_aload M dX7_hand_78 rfl ?_
                refine j_callV1 (As := []) M cf_X0_above wM_X7_210 (c_above hW ((LSt.el hW.l13 c2).1) ((LSt.el hW.l13 c2).2)) ((LSt.el hW.l13 c2).1) (pAt_0 E _ ((LSt.el hW.l13 c2).2)) rfl rfl ⟨Nat.le_of_ble_eq_true rfl, Nat.le_of_ble_eq_true rfl⟩ (Nat.le_of_ble_eq_true rfl) ⟨Nat.le_of_ble_eq_true rfl, Nat.le_of_ble_eq_true rfl⟩ dX7_hand_80 rfl ?_
                refine j_iconst (v := 2) M dX7_hand_83 (by decide) ?_
                refine j_icmp_ge (tgt := 89) M dX7_hand_84 (by decide) (fun c8 => ?_) (fun c8 => ?_)
                · refine j_aload_n M dX7_hand_89 rfl ?_
                  refine j_null M dX7_hand_90 ?_
                  refine j_putN (S2 := uM S 14 (el S (K 13) k) none) M ((LSt.el hW.l13 c1).1) (pAt_0 E _ ((LSt.el hW.l13 c1).2)) rfl inU_X0 14 (by decide) tyX0 tyX0_ok nmX0 nF_X7_174 (fun _ h => h) rfl (tyX0_ok 14 (by decide)) rfl rfl (Nat.le_of_ble_eq_true rfl) rfl (pUp_14 E S ((LSt.el hW.l13 c1).2) none) dX7_hand_91 ?_
                  refine j_aload M dX7_hand_94 rfl ?_
                  refine j_aload M dX7_hand_96 rfl ?_
                  refine j_callV0 (As := [.ref (el S (K 13) q)]) M cf_X2_hangOn wM_X7_191 (c_hangOn (S := uM S 14 (el S (K 13) k) none) (WS.uM hW) (AW.uM hA) (WM.uMn hM) ((hM.ld ((LSt.el hW.l13 c1).1) ((LSt.el hW.l13 c1).2) c4s).1) ((hM.ld ((LSt.el hW.l13 c1).1) ((LSt.el hW.l13 c1).2) c4s).2) ((LSt.el hW.l13 c2).1) ((LSt.el hW.l13 c2).2)) ((hM.ld ((LSt.el hW.l13 c1).1) ((LSt.el hW.l13 c1).2) c4s).1) (pAt_2 E _ ((hM.ld ((LSt.el hW.l13 c1).1) ((LSt.el hW.l13 c1).2) c4s).2)) rfl rfl ⟨Nat.le_of_ble_eq_true rfl, Nat.le_of_ble_eq_true rfl⟩ (Nat.le_of_ble_eq_true rfl) ⟨Nat.le_of_ble_eq_true rfl, Nat.le_of_ble_eq_true rfl⟩ dX7_hand_98 rfl ?_
                  have g1 := g_hangOn (S := uM S 14 (el S (K 13) k) none) (WS.uM hW) (AW.uM hA) (WM.uMn hM) ((hM.ld ((LSt.el hW.l13 c1).1) ((LSt.el hW.l13 c1).2) c4s).1) ((hM.ld ((LSt.el hW.l13 c1).1) ((LSt.el hW.l13 c1).2) c4s).2) ((LSt.el hW.l13 c2).1) ((LSt.el hW.l13 c2).2)
                  refine j_aload M dX7_hand_101 rfl ?_
                  refine j_getN (v := .int (sI (m_hangOn K (uM S 14 (el S (K 13) k) none) ((sM S 14 (el S (K 13) k)).getD 0) (el S (K 13) q)) 19 ((sM S 14 (el S (K 13) k)).getD 0))) M (g1.2.inL ((hM.ld ((LSt.el hW.l13 c1).1) ((LSt.el hW.l13 c1).2) c4s).1)) (pAt_2 E _ (g1.2.inK ((hM.ld ((LSt.el hW.l13 c1).1) ((LSt.el hW.l13 c1).2) c4s).2))) rfl inU_X2 0 (by decide) nF_X7_195 (fun _ h => h) rfl dX7_hand_103 ?_
                  exact jx_ret (j_iret (v := (sI (m_hangOn K (uM S 14 (el S (K 13) k) none) ((sM S 14 (el S (K 13) k)).getD 0) (el S (K 13) q)) 19 ((sM S 14 (el S (K 13) k)).getD 0))) M dX7_hand_106 (Nat.le_of_ble_eq_true rfl) (Nat.le_of_ble_eq_true rfl) (pN_mk (show ((0, sI (m_hangOn K (uM S 14 (el S (K 13) k) none) ((sM S 14 (el S (K 13) k)).getD 0) (el S (K 13) q)) 19 ((sM S 14 (el S (K 13) k)).getD 0), m_hangOn K (uM S 14 (el S (K 13) k) none) ((sM S 14 (el S (K 13) k)).getD 0) (el S (K 13) q)) : Nat × Int32 × PS) = m_hand K S k q from (by unfold m_hand; rw [if_pos c1, if_pos c2, if_neg c3, if_neg c4, if_pos c5, if_neg c6, if_neg c7, if_pos c8]))))
                · refine j_iconst (v := (-1)) M dX7_hand_87 (by decide) ?_
                  exact jx_ret (j_iret (v := (-1)) M dX7_hand_88 (Nat.le_of_ble_eq_true rfl) (Nat.le_of_ble_eq_true rfl) (pN_mk (show ((0, (-1), S) : Nat × Int32 × PS) = m_hand K S k q from (by unfold m_hand; rw [if_pos c1, if_pos c2, if_neg c3, if_neg c4, if_pos c5, if_neg c6, if_neg c7, if_neg c8]))))
          · refine j_ifnonnull (tgt := 87) M dX7_hand_44 (by decide) ?_
            refine j_iconst (v := (-1)) M dX7_hand_87 (by decide) ?_
            exact jx_ret (j_iret (v := (-1)) M dX7_hand_88 (Nat.le_of_ble_eq_true rfl) (Nat.le_of_ble_eq_true rfl) (pN_mk (show ((0, (-1), S) : Nat × Int32 × PS) = m_hand K S k q from (by unfold m_hand; rw [if_pos c1, if_pos c2, if_neg c3, if_neg c4, if_neg c5]))))
      · exact jx_throw M hlt (by decide +kernel) af_names wL_X7_201 wN_IllegalArgumentException nS_203 at_IAE ag_IAE dX7_hand_18 dX7_hand_21 dX7_hand_22 dX7_hand_24 dX7_hand_27 ht (Nat.le_of_ble_eq_true rfl) (Nat.le_of_ble_eq_true rfl) (Nat.le_of_ble_eq_true rfl) (Nat.le_of_ble_eq_true rfl) (xN_mk (show ((2, 0, S) : Nat × Int32 × PS) = m_hand K S k q from (by unfold m_hand; rw [if_pos c1, if_pos c2, if_pos c3])) (by decide) (by decide)) (Nat.le_of_ble_eq_true rfl) (Nat.le_of_ble_eq_true rfl)
    · obtain ⟨c9, rfl, hu⟩ := h
      obtain rfl := hu.symm
      exact jx_out M ht (xN_mk (show ((1, 0, S) : Nat × Int32 × PS) = m_hand K S k q from (by unfold m_hand; rw [if_pos c1, if_neg c9])) (by decide) (by decide)) (Nat.le_of_ble_eq_true rfl) (Nat.le_of_ble_eq_true rfl)
  · obtain ⟨c10, rfl, hu⟩ := h
    obtain rfl := hu.symm
    exact jx_out M ht (xN_mk (show ((1, 0, S) : Nat × Int32 × PS) = m_hand K S k q from (by unfold m_hand; rw [if_neg c10])) (by decide) (by decide)) (Nat.le_of_ble_eq_true rfl) (Nat.le_of_ble_eq_true rfl)
def m_rest (K : Nat → Nat) (S : PS) (t : Int32) : Nat × Int32 × PS :=
  if OKw t 1 100 then
    if t ≤ (600 - (sI S 39 (K 1))) then
      if (m_force K (m_idle K S t)) < 8 then
        (0, 0, m_idle K S t)
      else
        (0, (m_turnToWind K (m_idle K S t)).1, (m_turnToWind K (m_idle K S t)).2)
    else
      (3, 0, S)
  else
    (2, 0, S)
theorem cf_X7_rest : CFv yX7_rest RX7 cX7_rest 2 (some .int) 1 := ⟨wC_X7_rest, wI_X7_rest, wV_X7_X7_rest, wN_X7, by decide +kernel⟩
set_option maxHeartbeats 4000000 in
set_option maxRecDepth 100000 in
theorem cx_rest {l : Launch} (hlt : l.stackTraces = false) {E : EV} {K : Nat → Nat} {S : PS} (hW : WS K S) (hA : AW S) (hM : WM S) (t : Int32) : CX l yX7_rest cX7_rest 2 (some .int) 7 161 2 12 E [.ref (K 0), .int t] S (pN (m_rest K S t)) (xN (m_rest K S t)) := by
  refine CX.of (by decide) (Nat.le_of_ble_eq_true rfl) ?_
  intro p e s m below meth c M ht
  have M : MC E p s m _ meth c cX7_rest RX7 2 (some .int) := M
  show J p l e _ s m _ below meth c _ E 2 0 [(0, .ref (K 0)), (1, .int t)] [] S 0 0
  refine j_iload_n M dX7_rest_0 rfl ?_
  refine j_iconst (v := 1) M dX7_rest_1 (by decide) ?_
  refine j_bipush (v := 100) M dX7_rest_2 (by decide) ?_
  refine jx_callS (As := [.int t, .int 1, .int 100]) M cf_X7_needWithin wM_X7_34 (cx_needWithin hlt hW t 1 100) rfl ⟨Nat.le_of_ble_eq_true rfl, Nat.le_of_ble_eq_true rfl⟩ (Nat.le_of_ble_eq_true rfl) ⟨Nat.le_of_ble_eq_true rfl, Nat.le_of_ble_eq_true rfl⟩ dX7_rest_4 rfl (fun v u h => ?_) (fun X u h => ?_)
  · obtain ⟨c1, rfl, hu⟩ := h
    obtain rfl := hu.symm
    refine j_iload_n M dX7_rest_7 rfl ?_
    refine j_sipush (v := 600) M dX7_rest_8 (by decide) ?_
    refine j_aload_n M dX7_rest_11 rfl ?_
    refine j_get (v := .ref (K 1)) M hW.k0.1 (pAt_7 E _ hW.k0.2) rfl inU_X7 0 (by decide) wF_X7_17 (fun _ h => h) (rfv hW.r48) dX7_rest_12 ?_
    refine j_getN (v := .int (sI S 39 (K 1))) M hW.k1.1 (pAt_5 E _ hW.k1.2) rfl inU_X5 7 (by decide) nF_X7_151 (fun _ h => h) rfl dX7_rest_15 ?_
    refine j_isub M dX7_rest_18 ?_
    refine j_icmp_le (tgt := 32) M dX7_rest_19 (by decide) (fun c2 => ?_) (fun c2 => ?_)
    · refine j_aload_n M dX7_rest_32 rfl ?_
      refine j_get (v := .ref (K 1)) M hW.k0.1 (pAt_7 E _ hW.k0.2) rfl inU_X7 0 (by decide) wF_X7_17 (fun _ h => h) (rfv hW.r48) dX7_rest_33 ?_
      refine j_iload_n M dX7_rest_36 rfl ?_
      refine j_callV0 (As := [.int t]) M cf_X5_idle wM_X7_215 (c_idle hW hA hM t) hW.k1.1 (pAt_5 E _ hW.k1.2) rfl rfl ⟨Nat.le_of_ble_eq_true rfl, Nat.le_of_ble_eq_true rfl⟩ (Nat.le_of_ble_eq_true rfl) ⟨Nat.le_of_ble_eq_true rfl, Nat.le_of_ble_eq_true rfl⟩ dX7_rest_37 rfl ?_
      have g1 := g_idle hW hA hM t
      refine j_aload_n M dX7_rest_40 rfl ?_
      refine j_get (v := .ref (K 1)) M g1.1.1.k0.1 (pAt_7 E _ g1.1.1.k0.2) rfl inU_X7 0 (by decide) wF_X7_17 (fun _ h => h) (rfv g1.1.1.r48) dX7_rest_41 ?_
      refine j_callV1 (As := []) M cf_X5_force wM_X7_218 (c_force (S := m_idle K S t) g1.1.1 g1.1.2.1 g1.1.2.2) g1.1.1.k1.1 (pAt_5 E _ g1.1.1.k1.2) rfl rfl ⟨Nat.le_of_ble_eq_true rfl, Nat.le_of_ble_eq_true rfl⟩ (Nat.le_of_ble_eq_true rfl) ⟨Nat.le_of_ble_eq_true rfl, Nat.le_of_ble_eq_true rfl⟩ dX7_rest_44 rfl ?_
      refine j_bipush (v := 8) M dX7_rest_47 (by decide) ?_
      refine j_icmp_lt (tgt := 62) M dX7_rest_49 (by decide) (fun c3 => ?_) (fun c3 => ?_)
      · refine j_iconst (v := 0) M dX7_rest_62 (by decide) ?_
        exact jx_ret (j_iret (v := 0) M dX7_rest_63 (Nat.le_of_ble_eq_true rfl) (Nat.le_of_ble_eq_true rfl) (pN_mk (show ((0, 0, m_idle K S t) : Nat × Int32 × PS) = m_rest K S t from (by unfold m_rest; rw [if_pos c1, if_pos c2, if_pos c3]))))
      · refine j_aload_n M dX7_rest_52 rfl ?_
        refine j_get (v := .ref (K 1)) M g1.1.1.k0.1 (pAt_7 E _ g1.1.1.k0.2) rfl inU_X7 0 (by decide) wF_X7_17 (fun _ h => h) (rfv g1.1.1.r48) dX7_rest_53 ?_
        refine j_callV1 (As := []) M cf_X5_turnToWind wM_X7_221 (c_turnToWind (S := m_idle K S t) g1.1.1 g1.1.2.1 g1.1.2.2) g1.1.1.k1.1 (pAt_5 E _ g1.1.1.k1.2) rfl rfl ⟨Nat.le_of_ble_eq_true rfl, Nat.le_of_ble_eq_true rfl⟩ (Nat.le_of_ble_eq_true rfl) ⟨Nat.le_of_ble_eq_true rfl, Nat.le_of_ble_eq_true rfl⟩ dX7_rest_56 rfl ?_
        have g2 := g_turnToWind (S := m_idle K S t) g1.1.1 g1.1.2.1 g1.1.2.2
        refine j_goto (tgt := 63) M dX7_rest_59 (by decide) ?_
        exact jx_ret (j_iret (v := ((m_turnToWind K (m_idle K S t)).1)) M dX7_rest_63 (Nat.le_of_ble_eq_true rfl) (Nat.le_of_ble_eq_true rfl) (pN_mk (show ((0, (m_turnToWind K (m_idle K S t)).1, (m_turnToWind K (m_idle K S t)).2) : Nat × Int32 × PS) = m_rest K S t from (by unfold m_rest; rw [if_pos c1, if_pos c2, if_neg c3]))))
    · exact jx_throw M hlt (by decide +kernel) af_names wL_X7_58 wN_IllegalStateException nS_213 at_ISE ag_ISE dX7_rest_22 dX7_rest_25 dX7_rest_26 dX7_rest_28 dX7_rest_31 ht (Nat.le_of_ble_eq_true rfl) (Nat.le_of_ble_eq_true rfl) (Nat.le_of_ble_eq_true rfl) (Nat.le_of_ble_eq_true rfl) (xN_mk (show ((3, 0, S) : Nat × Int32 × PS) = m_rest K S t from (by unfold m_rest; rw [if_pos c1, if_neg c2])) (by decide) (by decide)) (Nat.le_of_ble_eq_true rfl) (Nat.le_of_ble_eq_true rfl)
  · obtain ⟨c4, rfl, hu⟩ := h
    obtain rfl := hu.symm
    exact jx_out M ht (xN_mk (show ((2, 0, S) : Nat × Int32 × PS) = m_rest K S t from (by unfold m_rest; rw [if_neg c4])) (by decide) (by decide)) (Nat.le_of_ble_eq_true rfl) (Nat.le_of_ble_eq_true rfl)
def m_step (K : Nat → Nat) (S : PS) (k : Nat) (x : Int32) : Nat × Int32 × PS :=
  if k < sZ S (K 13) then
    if OKw x 0 6 then
      if (sI S 39 (K 1)) < 600 then
        if ((m_reasonAgainst K S (el S (K 13) k) x).1) = 0 then
          (0, (m_reasonAgainst K S (el S (K 13) k) x).1, m_take K ((m_reasonAgainst K S (el S (K 13) k) x).2) (el S (K 13) k) x)
        else
          (0, (m_reasonAgainst K S (el S (K 13) k) x).1, uI ((m_reasonAgainst K S (el S (K 13) k) x).2) 41 (K 1) ((sI ((m_reasonAgainst K S (el S (K 13) k) x).2) 41 (K 1)) + 1))
      else
        (3, 0, S)
    else
      (2, 0, S)
  else
    (1, 0, S)
theorem cf_X7_step : CFv yX7_step RX7 cX7_step 5 (some .int) 2 := ⟨wC_X7_step, wI_X7_step, wV_X7_X7_step, wN_X7, by decide +kernel⟩
set_option maxHeartbeats 4000000 in
set_option maxRecDepth 100000 in
theorem cx_step {l : Launch} (hlt : l.stackTraces = false) {E : EV} {K : Nat → Nat} {S : PS} (hW : WS K S) (hA : AW S) (hM : WM S) {k : Nat} (x : Int32) (hk2 : k < 2 ^ 31) : CX l yX7_step cX7_step 5 (some .int) 7 160 3 18 E [.ref (K 0), .int (nI k), .int x] S (pN (m_step K S k x)) (xN (m_step K S k x)) := by
  refine CX.of (by decide) (Nat.le_of_ble_eq_true rfl) ?_
  intro p e s m below meth c M ht
  have M : MC E p s m _ meth c cX7_step RX7 5 (some .int) := M
  show J p l e _ s m _ below meth c _ E 5 0 [(0, .ref (K 0)), (1, .int (nI k)), (2, .int x)] [] S 0 0
  refine j_aload_n M dX7_step_0 rfl ?_
  refine j_iload_n M dX7_step_1 rfl ?_
  refine jx_callV (As := [.int (nI k)]) M cf_X7_needCrane wM_X7_147 (cx_needCrane hlt hW hk2) hW.k0.1 (pAt_7 E _ hW.k0.2) rfl rfl ⟨Nat.le_of_ble_eq_true rfl, Nat.le_of_ble_eq_true rfl⟩ (Nat.le_of_ble_eq_true rfl) ⟨Nat.le_of_ble_eq_true rfl, Nat.le_of_ble_eq_true rfl⟩ dX7_step_2 rfl (fun v u h => ?_) (fun X u h => ?_)
  · obtain ⟨c1, rfl, hu⟩ := h
    obtain rfl := hu.symm
    refine j_astore_n (lv' := [(3, .ref (el S (K 13) k)), (0, .ref (K 0)), (1, .int (nI k)), (2, .int x)]) M dX7_step_5 rfl (by decide) rfl ?_
    refine j_iload_n M dX7_step_6 rfl ?_
    refine j_iconst (v := 0) M dX7_step_7 (by decide) ?_
    refine j_bipush (v := 6) M dX7_step_8 (by decide) ?_
    refine jx_callS (As := [.int x, .int 0, .int 6]) M cf_X7_needWithin wM_X7_34 (cx_needWithin hlt hW x 0 6) rfl ⟨Nat.le_of_ble_eq_true rfl, Nat.le_of_ble_eq_true rfl⟩ (Nat.le_of_ble_eq_true rfl) ⟨Nat.le_of_ble_eq_true rfl, Nat.le_of_ble_eq_true rfl⟩ dX7_step_10 rfl (fun v u h => ?_) (fun X u h => ?_)
    · obtain ⟨c2, rfl, hu⟩ := h
      obtain rfl := hu.symm
      refine j_aload_n M dX7_step_13 rfl ?_
      refine j_get (v := .ref (K 1)) M hW.k0.1 (pAt_7 E _ hW.k0.2) rfl inU_X7 0 (by decide) wF_X7_17 (fun _ h => h) (rfv hW.r48) dX7_step_14 ?_
      refine j_getN (v := .int (sI S 39 (K 1))) M hW.k1.1 (pAt_5 E _ hW.k1.2) rfl inU_X5 7 (by decide) nF_X7_151 (fun _ h => h) rfl dX7_step_17 ?_
      refine j_sipush (v := 600) M dX7_step_20 (by decide) ?_
      refine j_icmp_lt (tgt := 36) M dX7_step_23 (by decide) (fun c3 => ?_) (fun c3 => ?_)
      · refine j_aload_n M dX7_step_36 rfl ?_
        refine j_get (v := .ref (K 1)) M hW.k0.1 (pAt_7 E _ hW.k0.2) rfl inU_X7 0 (by decide) wF_X7_17 (fun _ h => h) (rfv hW.r48) dX7_step_37 ?_
        refine j_aload_n M dX7_step_40 rfl ?_
        refine j_iload_n M dX7_step_41 rfl ?_
        refine j_callV1 (As := [.ref (el S (K 13) k), .int x]) M cf_X5_reasonAgainst wM_X7_156 (c_reasonAgainst hW hA hM ((LSt.el hW.l13 c1).1) ((LSt.el hW.l13 c1).2) x) hW.k1.1 (pAt_5 E _ hW.k1.2) rfl rfl ⟨Nat.le_of_ble_eq_true rfl, Nat.le_of_ble_eq_true rfl⟩ (Nat.le_of_ble_eq_true rfl) ⟨Nat.le_of_ble_eq_true rfl, Nat.le_of_ble_eq_true rfl⟩ dX7_step_42 rfl ?_
        have g1 := g_reasonAgainst hW hA hM ((LSt.el hW.l13 c1).1) ((LSt.el hW.l13 c1).2) x
        refine j_istore (lv' := [(4, .int ((m_reasonAgainst K S (el S (K 13) k) x).1)), (3, .ref (el S (K 13) k)), (0, .ref (K 0)), (1, .int (nI k)), (2, .int x)]) M dX7_step_45 (by decide) rfl ?_
        refine j_iload M dX7_step_47 rfl ?_
        refine j_if_ne (tgt := 64) M dX7_step_49 (by decide) (fun c4 => ?_) (fun c4 => ?_)
        · refine j_aload_n M dX7_step_64 rfl ?_
          refine j_get (v := .ref (K 1)) M g1.1.1.k0.1 (pAt_7 E _ g1.1.1.k0.2) rfl inU_X7 0 (by decide) wF_X7_17 (fun _ h => h) (rfv g1.1.1.r48) dX7_step_65 ?_
          refine j_dup M dX7_step_68 rfl ?_
          refine j_getN (v := .int (sI ((m_reasonAgainst K S (el S (K 13) k) x).2) 41 (K 1))) M g1.1.1.k1.1 (pAt_5 E _ g1.1.1.k1.2) rfl inU_X5 9 (by decide) nF_X7_164 (fun _ h => h) rfl dX7_step_69 ?_
          refine j_iconst (v := 1) M dX7_step_72 (by decide) ?_
          refine j_iadd M dX7_step_73 ?_
          refine j_putN (S2 := uI ((m_reasonAgainst K S (el S (K 13) k) x).2) 41 (K 1) ((sI ((m_reasonAgainst K S (el S (K 13) k) x).2) 41 (K 1)) + 1)) M g1.1.1.k1.1 (pAt_5 E _ g1.1.1.k1.2) rfl inU_X5 9 (by decide) tyX5 tyX5_ok nmX5 nF_X7_164 (fun _ h => h) rfl (tyX5_ok 9 (by decide)) rfl rfl (Nat.le_of_ble_eq_true rfl) rfl (pUp_41 E ((m_reasonAgainst K S (el S (K 13) k) x).2) g1.1.1.k1.2 _) dX7_step_74 ?_
          refine j_iload M dX7_step_77 rfl ?_
          exact jx_ret (j_iret (v := ((m_reasonAgainst K S (el S (K 13) k) x).1)) M dX7_step_79 (Nat.le_of_ble_eq_true rfl) (Nat.le_of_ble_eq_true rfl) (pN_mk (show ((0, (m_reasonAgainst K S (el S (K 13) k) x).1, uI ((m_reasonAgainst K S (el S (K 13) k) x).2) 41 (K 1) ((sI ((m_reasonAgainst K S (el S (K 13) k) x).2) 41 (K 1)) + 1)) : Nat × Int32 × PS) = m_step K S k x from (by unfold m_step; rw [if_pos c1, if_pos c2, if_pos c3, if_neg c4]))))
        · refine j_aload_n M dX7_step_52 rfl ?_
          refine j_get (v := .ref (K 1)) M g1.1.1.k0.1 (pAt_7 E _ g1.1.1.k0.2) rfl inU_X7 0 (by decide) wF_X7_17 (fun _ h => h) (rfv g1.1.1.r48) dX7_step_53 ?_
          refine j_aload_n M dX7_step_56 rfl ?_
          refine j_iload_n M dX7_step_57 rfl ?_
          refine j_callV0 (As := [.ref (el S (K 13) k), .int x]) M cf_X5_take wM_X7_160 (c_take (S := (m_reasonAgainst K S (el S (K 13) k) x).2) g1.1.1 g1.1.2.1 g1.1.2.2 (g1.2.inL ((LSt.el hW.l13 c1).1)) (g1.2.inK ((LSt.el hW.l13 c1).2)) x) g1.1.1.k1.1 (pAt_5 E _ g1.1.1.k1.2) rfl rfl ⟨Nat.le_of_ble_eq_true rfl, Nat.le_of_ble_eq_true rfl⟩ (Nat.le_of_ble_eq_true rfl) ⟨Nat.le_of_ble_eq_true rfl, Nat.le_of_ble_eq_true rfl⟩ dX7_step_58 rfl ?_
          have g2 := g_take (S := (m_reasonAgainst K S (el S (K 13) k) x).2) g1.1.1 g1.1.2.1 g1.1.2.2 (g1.2.inL ((LSt.el hW.l13 c1).1)) (g1.2.inK ((LSt.el hW.l13 c1).2)) x
          refine j_goto (tgt := 77) M dX7_step_61 (by decide) ?_
          refine j_iload M dX7_step_77 rfl ?_
          exact jx_ret (j_iret (v := ((m_reasonAgainst K S (el S (K 13) k) x).1)) M dX7_step_79 (Nat.le_of_ble_eq_true rfl) (Nat.le_of_ble_eq_true rfl) (pN_mk (show ((0, (m_reasonAgainst K S (el S (K 13) k) x).1, m_take K ((m_reasonAgainst K S (el S (K 13) k) x).2) (el S (K 13) k) x) : Nat × Int32 × PS) = m_step K S k x from (by unfold m_step; rw [if_pos c1, if_pos c2, if_pos c3, if_pos c4]))))
      · exact jx_throw M hlt (by decide +kernel) af_names wL_X7_58 wN_IllegalStateException nS_154 at_ISE ag_ISE dX7_step_26 dX7_step_29 dX7_step_30 dX7_step_32 dX7_step_35 ht (Nat.le_of_ble_eq_true rfl) (Nat.le_of_ble_eq_true rfl) (Nat.le_of_ble_eq_true rfl) (Nat.le_of_ble_eq_true rfl) (xN_mk (show ((3, 0, S) : Nat × Int32 × PS) = m_step K S k x from (by unfold m_step; rw [if_pos c1, if_pos c2, if_neg c3])) (by decide) (by decide)) (Nat.le_of_ble_eq_true rfl) (Nat.le_of_ble_eq_true rfl)
    · obtain ⟨c5, rfl, hu⟩ := h
      obtain rfl := hu.symm
      exact jx_out M ht (xN_mk (show ((2, 0, S) : Nat × Int32 × PS) = m_step K S k x from (by unfold m_step; rw [if_pos c1, if_neg c5])) (by decide) (by decide)) (Nat.le_of_ble_eq_true rfl) (Nat.le_of_ble_eq_true rfl)
  · obtain ⟨c6, rfl, hu⟩ := h
    obtain rfl := hu.symm
    exact jx_out M ht (xN_mk (show ((1, 0, S) : Nat × Int32 × PS) = m_step K S k x from (by unfold m_step; rw [if_neg c6])) (by decide) (by decide)) (Nat.le_of_ble_eq_true rfl) (Nat.le_of_ble_eq_true rfl)
def m_wouldx (K : Nat → Nat) (S : PS) (k : Nat) (x : Int32) : Nat × Int32 × PS :=
  if k < sZ S (K 13) then
    if OKw x 0 6 then
      if (sI S 39 (K 1)) < 600 then
        (0, (m_reasonAgainst K S (el S (K 13) k) x).1, (m_reasonAgainst K S (el S (K 13) k) x).2)
      else
        (0, (-1), S)
    else
      (2, 0, S)
  else
    (1, 0, S)
set_option maxHeartbeats 4000000 in
set_option maxRecDepth 100000 in
theorem cx_would {l : Launch} (hlt : l.stackTraces = false) {E : EV} {K : Nat → Nat} {S : PS} (hW : WS K S) (hA : AW S) (hM : WM S) {k : Nat} (x : Int32) (hk2 : k < 2 ^ 31) : CX l yX7_would cX7_would 4 (some .int) 7 160 2 12 E [.ref (K 0), .int (nI k), .int x] S (pN (m_wouldx K S k x)) (xN (m_wouldx K S k x)) := by
  refine CX.of (by decide) (Nat.le_of_ble_eq_true rfl) ?_
  intro p e s m below meth c M ht
  have M : MC E p s m _ meth c cX7_would RX7 4 (some .int) := M
  show J p l e _ s m _ below meth c _ E 4 0 [(0, .ref (K 0)), (1, .int (nI k)), (2, .int x)] [] S 0 0
  refine j_aload_n M dX7_would_0 rfl ?_
  refine j_iload_n M dX7_would_1 rfl ?_
  refine jx_callV (As := [.int (nI k)]) M cf_X7_needCrane wM_X7_147 (cx_needCrane hlt hW hk2) hW.k0.1 (pAt_7 E _ hW.k0.2) rfl rfl ⟨Nat.le_of_ble_eq_true rfl, Nat.le_of_ble_eq_true rfl⟩ (Nat.le_of_ble_eq_true rfl) ⟨Nat.le_of_ble_eq_true rfl, Nat.le_of_ble_eq_true rfl⟩ dX7_would_2 rfl (fun v u h => ?_) (fun X u h => ?_)
  · obtain ⟨c1, rfl, hu⟩ := h
    obtain rfl := hu.symm
    refine j_astore_n (lv' := [(3, .ref (el S (K 13) k)), (0, .ref (K 0)), (1, .int (nI k)), (2, .int x)]) M dX7_would_5 rfl (by decide) rfl ?_
    refine j_iload_n M dX7_would_6 rfl ?_
    refine j_iconst (v := 0) M dX7_would_7 (by decide) ?_
    refine j_bipush (v := 6) M dX7_would_8 (by decide) ?_
    refine jx_callS (As := [.int x, .int 0, .int 6]) M cf_X7_needWithin wM_X7_34 (cx_needWithin hlt hW x 0 6) rfl ⟨Nat.le_of_ble_eq_true rfl, Nat.le_of_ble_eq_true rfl⟩ (Nat.le_of_ble_eq_true rfl) ⟨Nat.le_of_ble_eq_true rfl, Nat.le_of_ble_eq_true rfl⟩ dX7_would_10 rfl (fun v u h => ?_) (fun X u h => ?_)
    · obtain ⟨c2, rfl, hu⟩ := h
      obtain rfl := hu.symm
      refine j_aload_n M dX7_would_13 rfl ?_
      refine j_get (v := .ref (K 1)) M hW.k0.1 (pAt_7 E _ hW.k0.2) rfl inU_X7 0 (by decide) wF_X7_17 (fun _ h => h) (rfv hW.r48) dX7_would_14 ?_
      refine j_getN (v := .int (sI S 39 (K 1))) M hW.k1.1 (pAt_5 E _ hW.k1.2) rfl inU_X5 7 (by decide) nF_X7_151 (fun _ h => h) rfl dX7_would_17 ?_
      refine j_sipush (v := 600) M dX7_would_20 (by decide) ?_
      refine j_icmp_lt (tgt := 30) M dX7_would_23 (by decide) (fun c3 => ?_) (fun c3 => ?_)
      · refine j_aload_n M dX7_would_30 rfl ?_
        refine j_get (v := .ref (K 1)) M hW.k0.1 (pAt_7 E _ hW.k0.2) rfl inU_X7 0 (by decide) wF_X7_17 (fun _ h => h) (rfv hW.r48) dX7_would_31 ?_
        refine j_aload_n M dX7_would_34 rfl ?_
        refine j_iload_n M dX7_would_35 rfl ?_
        refine j_callV1 (As := [.ref (el S (K 13) k), .int x]) M cf_X5_reasonAgainst wM_X7_156 (c_reasonAgainst hW hA hM ((LSt.el hW.l13 c1).1) ((LSt.el hW.l13 c1).2) x) hW.k1.1 (pAt_5 E _ hW.k1.2) rfl rfl ⟨Nat.le_of_ble_eq_true rfl, Nat.le_of_ble_eq_true rfl⟩ (Nat.le_of_ble_eq_true rfl) ⟨Nat.le_of_ble_eq_true rfl, Nat.le_of_ble_eq_true rfl⟩ dX7_would_36 rfl ?_
        have g1 := g_reasonAgainst hW hA hM ((LSt.el hW.l13 c1).1) ((LSt.el hW.l13 c1).2) x
        exact jx_ret (j_iret (v := ((m_reasonAgainst K S (el S (K 13) k) x).1)) M dX7_would_39 (Nat.le_of_ble_eq_true rfl) (Nat.le_of_ble_eq_true rfl) (pN_mk (show ((0, (m_reasonAgainst K S (el S (K 13) k) x).1, (m_reasonAgainst K S (el S (K 13) k) x).2) : Nat × Int32 × PS) = m_wouldx K S k x from (by unfold m_wouldx; rw [if_pos c1, if_pos c2, if_pos c3]))))
      · refine j_iconst (v := (-1)) M dX7_would_26 (by decide) ?_
        refine j_goto (tgt := 39) M dX7_would_27 (by decide) ?_
        exact jx_ret (j_iret (v := (-1)) M dX7_would_39 (Nat.le_of_ble_eq_true rfl) (Nat.le_of_ble_eq_true rfl) (pN_mk (show ((0, (-1), S) : Nat × Int32 × PS) = m_wouldx K S k x from (by unfold m_wouldx; rw [if_pos c1, if_pos c2, if_neg c3]))))
    · obtain ⟨c4, rfl, hu⟩ := h
      obtain rfl := hu.symm
      exact jx_out M ht (xN_mk (show ((2, 0, S) : Nat × Int32 × PS) = m_wouldx K S k x from (by unfold m_wouldx; rw [if_pos c1, if_neg c4])) (by decide) (by decide)) (Nat.le_of_ble_eq_true rfl) (Nat.le_of_ble_eq_true rfl)
  · obtain ⟨c5, rfl, hu⟩ := h
    obtain rfl := hu.symm
    exact jx_out M ht (xN_mk (show ((1, 0, S) : Nat × Int32 × PS) = m_wouldx K S k x from (by unfold m_wouldx; rw [if_neg c5])) (by decide) (by decide)) (Nat.le_of_ble_eq_true rfl) (Nat.le_of_ble_eq_true rfl)
