def m_drawIn (K : Nat → Nat) (S : PS) (a : Nat) (b : Int32) : PS :=
  uI (uI (m_face K S a b) 10 a 1) 11 a ((sI (m_face K S a b) 5 a) - 1)
theorem cf_X0_drawIn : CFv yX0_drawIn RX0 cX0_drawIn 2 none 1 := ⟨wC_X0_drawIn, wI_X0_drawIn, wV_X0_X0_drawIn, wN_X0, by decide +kernel⟩
set_option maxHeartbeats 4000000 in
set_option maxRecDepth 100000 in
theorem c_drawIn {l : Launch} {E : EV} {K : Nat → Nat} {S : PS} (hW : WS K S) (hA : AW S) (hM : WM S) {a : Nat} (haL : a ∈ sL S) (haK : sK S a = 0) (b : Int32) : CT l yX0_drawIn cX0_drawIn 2 none 2 43 0 0 E [.ref a, .int b] S (p0 (m_drawIn K S a b)) := by
  refine CT.of (by decide) (Nat.le_of_ble_eq_true rfl) ?_
  intro p e s m below meth c M hin
  have M : MC E p s m _ meth c cX0_drawIn RX0 2 none := M
  show J p l e _ s m _ below meth c _ E 2 0 [(0, .ref a), (1, .int b)] [] S 0 0
  refine j_aload_n M dX0_drawIn_0 rfl ?_
  refine j_iload_n M dX0_drawIn_1 rfl ?_
  refine j_callV0 (As := [.int b]) M cf_X0_face wM_X0_81 (c_face hW hA hM haL haK b) haL (pAt_0 E _ haK) rfl rfl ⟨Nat.le_of_ble_eq_true rfl, Nat.le_of_ble_eq_true rfl⟩ (Nat.le_of_ble_eq_true rfl) ⟨Nat.zero_le _, Nat.zero_le _⟩ dX0_drawIn_2 rfl ?_
  have g1 := g_face hW hA hM haL haK b
  refine j_aload_n M dX0_drawIn_5 rfl ?_
  refine j_iconst (v := 1) M dX0_drawIn_6 (by decide) ?_
  refine j_put (host := "") (S2 := uI (m_face K S a b) 10 a 1) M (g1.2.inL haL) (pAt_0 E _ (g1.2.inK haK)) rfl inU_X0 10 (by decide) tyX0 tyX0_ok nmX0 wF_X0_18 (fun _ h => h) rfl (tyX0_ok 10 (by decide)) rfl rfl (Nat.le_of_ble_eq_true rfl) rfl (pUp_10 E (m_face K S a b) (g1.2.inK haK) _) dX0_drawIn_7 ?_
  refine j_aload_n M dX0_drawIn_10 rfl ?_
  refine j_aload_n M dX0_drawIn_11 rfl ?_
  refine j_get (v := .int (sI (m_face K S a b) 5 a)) M (g1.2.inL haL) (pAt_0 E _ (g1.2.inK haK)) rfl inU_X0 5 (by decide) wF_X0_59 (fun _ h => h) rfl dX0_drawIn_12 ?_
  refine j_iconst (v := 1) M dX0_drawIn_15 (by decide) ?_
  refine j_isub M dX0_drawIn_16 ?_
  refine j_put (host := "") (S2 := uI (uI (m_face K S a b) 10 a 1) 11 a ((sI (m_face K S a b) 5 a) - 1)) M (g1.2.inL haL) (pAt_0 E _ (g1.2.inK haK)) rfl inU_X0 11 (by decide) tyX0 tyX0_ok nmX0 wF_X0_68 (fun _ h => h) rfl (tyX0_ok 11 (by decide)) rfl rfl (Nat.le_of_ble_eq_true rfl) rfl (pUp_11 E (uI (m_face K S a b) 10 a 1) (g1.2.inK haK) _) dX0_drawIn_17 ?_
  exact j_vret M dX0_drawIn_20 (Nat.le_refl _) (Nat.le_refl _) ⟨rfl, (show uI (uI (m_face K S a b) 10 a 1) 11 a ((sI (m_face K S a b) 5 a) - 1) = m_drawIn K S a b from rfl)⟩
theorem GW.uI {K : Nat → Nat} {S : PS} {f a : Nat} {v : Int32} (h6 : f ≠ 6) (h9 : f ≠ 9) (h : GW K S) : GW K (uI S f a v) :=
  ⟨h.1, h.2.1.uI h6 h9, h.2.2⟩
theorem g_drawIn {K : Nat → Nat} {S : PS} (hW : WS K S) (hA : AW S) (hM : WM S) {a : Nat} (haL : a ∈ sL S) (haK : sK S a = 0) (b : Int32) : GW K (m_drawIn K S a b) ∧ SS S (m_drawIn K S a b) := by
  have h := g_face hW hA hM haL haK b
  exact ⟨GW.uI (by decide) (by decide) (GW.uI (by decide) (by decide) h.1), h.2⟩
def m_move (K : Nat → Nat) (S : PS) (a : Nat) (x : Int32) : PS :=
  if x = 0 then
    m_face K S a (((sI S 8 a) + 1) &&& 7)
  else
    if x = 1 then
      m_face K S a (((sI S 8 a) - 1) &&& 7)
    else
      if x = 2 then
        uI S 10 a ((sI S 10 a) + 1)
      else
        if x = 3 then
          uI S 10 a ((sI S 10 a) - 1)
        else
          if x = 4 then
            uI S 11 a ((sI S 11 a) + 1)
          else
            if x = 5 then
              uI S 11 a ((sI S 11 a) - 1)
            else
              S
theorem cf_X0_move : CFv yX0_move RX0 cX0_move 2 none 1 := ⟨wC_X0_move, wI_X0_move, wV_X0_X0_move, wN_X0, by decide +kernel⟩
set_option maxHeartbeats 4000000 in
set_option maxRecDepth 100000 in
theorem c_move {l : Launch} {E : EV} {K : Nat → Nat} {S : PS} (hW : WS K S) (hA : AW S) (hM : WM S) {a : Nat} (haL : a ∈ sL S) (haK : sK S a = 0) (x : Int32) : CT l yX0_move cX0_move 2 none 2 43 0 0 E [.ref a, .int x] S (p0 (m_move K S a x)) := by
  refine CT.of (by decide) (Nat.le_of_ble_eq_true rfl) ?_
  intro p e s m below meth c M hin
  have M : MC E p s m _ meth c cX0_move RX0 2 none := M
  show J p l e _ s m _ below meth c _ E 2 0 [(0, .ref a), (1, .int x)] [] S 0 0
  refine j_iload_n M dX0_move_0 rfl ?_
  by_cases c1 : x = 0
  · refine j_tableIn (tgt := 40) M dX0_move_1 (by rw [c1]; decide) (by rw [c1]; decide) (by rw [c1]; rfl) (by decide) ?_
    refine j_aload_n M dX0_move_40 rfl ?_
    refine j_aload_n M dX0_move_41 rfl ?_
    refine j_get (v := .int (sI S 8 a)) M haL (pAt_0 E _ haK) rfl inU_X0 8 (by decide) wF_X0_9 (fun _ h => h) rfl dX0_move_42 ?_
    refine j_iconst (v := 1) M dX0_move_45 (by decide) ?_
    refine j_iadd M dX0_move_46 ?_
    refine j_bipush (v := 7) M dX0_move_47 (by decide) ?_
    refine j_iand M dX0_move_49 ?_
    refine j_callV0 (As := [.int (((sI S 8 a) + 1) &&& 7)]) M cf_X0_face wM_X0_81 (c_face hW hA hM haL haK (((sI S 8 a) + 1) &&& 7)) haL (pAt_0 E _ haK) rfl rfl ⟨Nat.le_of_ble_eq_true rfl, Nat.le_of_ble_eq_true rfl⟩ (Nat.le_of_ble_eq_true rfl) ⟨Nat.zero_le _, Nat.zero_le _⟩ dX0_move_50 rfl ?_
    have g1 := g_face hW hA hM haL haK (((sI S 8 a) + 1) &&& 7)
    refine j_goto (tgt := 124) M dX0_move_53 (by decide) ?_
    exact j_vret M dX0_move_124 (Nat.le_refl _) (Nat.le_refl _) ⟨rfl, (show m_face K S a (((sI S 8 a) + 1) &&& 7) = m_move K S a x from (by unfold m_move; rw [if_pos c1]))⟩
  · by_cases c2 : x = 1
    · refine j_tableIn (tgt := 56) M dX0_move_1 (by rw [c2]; decide) (by rw [c2]; decide) (by rw [c2]; rfl) (by decide) ?_
      refine j_aload_n M dX0_move_56 rfl ?_
      refine j_aload_n M dX0_move_57 rfl ?_
      refine j_get (v := .int (sI S 8 a)) M haL (pAt_0 E _ haK) rfl inU_X0 8 (by decide) wF_X0_9 (fun _ h => h) rfl dX0_move_58 ?_
      refine j_iconst (v := 1) M dX0_move_61 (by decide) ?_
      refine j_isub M dX0_move_62 ?_
      refine j_bipush (v := 7) M dX0_move_63 (by decide) ?_
      refine j_iand M dX0_move_65 ?_
      refine j_callV0 (As := [.int (((sI S 8 a) - 1) &&& 7)]) M cf_X0_face wM_X0_81 (c_face hW hA hM haL haK (((sI S 8 a) - 1) &&& 7)) haL (pAt_0 E _ haK) rfl rfl ⟨Nat.le_of_ble_eq_true rfl, Nat.le_of_ble_eq_true rfl⟩ (Nat.le_of_ble_eq_true rfl) ⟨Nat.zero_le _, Nat.zero_le _⟩ dX0_move_66 rfl ?_
      have g2 := g_face hW hA hM haL haK (((sI S 8 a) - 1) &&& 7)
      refine j_goto (tgt := 124) M dX0_move_69 (by decide) ?_
      exact j_vret M dX0_move_124 (Nat.le_refl _) (Nat.le_refl _) ⟨rfl, (show m_face K S a (((sI S 8 a) - 1) &&& 7) = m_move K S a x from (by unfold m_move; rw [if_neg c1, if_pos c2]))⟩
    · by_cases c3 : x = 2
      · refine j_tableIn (tgt := 72) M dX0_move_1 (by rw [c3]; decide) (by rw [c3]; decide) (by rw [c3]; rfl) (by decide) ?_
        refine j_aload_n M dX0_move_72 rfl ?_
        refine j_dup M dX0_move_73 rfl ?_
        refine j_get (v := .int (sI S 10 a)) M haL (pAt_0 E _ haK) rfl inU_X0 10 (by decide) wF_X0_18 (fun _ h => h) rfl dX0_move_74 ?_
        refine j_iconst (v := 1) M dX0_move_77 (by decide) ?_
        refine j_iadd M dX0_move_78 ?_
        refine j_put (host := "") (S2 := uI S 10 a ((sI S 10 a) + 1)) M haL (pAt_0 E _ haK) rfl inU_X0 10 (by decide) tyX0 tyX0_ok nmX0 wF_X0_18 (fun _ h => h) rfl (tyX0_ok 10 (by decide)) rfl rfl (Nat.le_of_ble_eq_true rfl) rfl (pUp_10 E S haK _) dX0_move_79 ?_
        refine j_goto (tgt := 124) M dX0_move_82 (by decide) ?_
        exact j_vret M dX0_move_124 (Nat.le_refl _) (Nat.le_refl _) ⟨rfl, (show uI S 10 a ((sI S 10 a) + 1) = m_move K S a x from (by unfold m_move; rw [if_neg c1, if_neg c2, if_pos c3]))⟩
      · by_cases c4 : x = 3
        · refine j_tableIn (tgt := 85) M dX0_move_1 (by rw [c4]; decide) (by rw [c4]; decide) (by rw [c4]; rfl) (by decide) ?_
          refine j_aload_n M dX0_move_85 rfl ?_
          refine j_dup M dX0_move_86 rfl ?_
          refine j_get (v := .int (sI S 10 a)) M haL (pAt_0 E _ haK) rfl inU_X0 10 (by decide) wF_X0_18 (fun _ h => h) rfl dX0_move_87 ?_
          refine j_iconst (v := 1) M dX0_move_90 (by decide) ?_
          refine j_isub M dX0_move_91 ?_
          refine j_put (host := "") (S2 := uI S 10 a ((sI S 10 a) - 1)) M haL (pAt_0 E _ haK) rfl inU_X0 10 (by decide) tyX0 tyX0_ok nmX0 wF_X0_18 (fun _ h => h) rfl (tyX0_ok 10 (by decide)) rfl rfl (Nat.le_of_ble_eq_true rfl) rfl (pUp_10 E S haK _) dX0_move_92 ?_
          refine j_goto (tgt := 124) M dX0_move_95 (by decide) ?_
          exact j_vret M dX0_move_124 (Nat.le_refl _) (Nat.le_refl _) ⟨rfl, (show uI S 10 a ((sI S 10 a) - 1) = m_move K S a x from (by unfold m_move; rw [if_neg c1, if_neg c2, if_neg c3, if_pos c4]))⟩
        · by_cases c5 : x = 4
          · refine j_tableIn (tgt := 98) M dX0_move_1 (by rw [c5]; decide) (by rw [c5]; decide) (by rw [c5]; rfl) (by decide) ?_
            refine j_aload_n M dX0_move_98 rfl ?_
            refine j_dup M dX0_move_99 rfl ?_
            refine j_get (v := .int (sI S 11 a)) M haL (pAt_0 E _ haK) rfl inU_X0 11 (by decide) wF_X0_68 (fun _ h => h) rfl dX0_move_100 ?_
            refine j_iconst (v := 1) M dX0_move_103 (by decide) ?_
            refine j_iadd M dX0_move_104 ?_
            refine j_put (host := "") (S2 := uI S 11 a ((sI S 11 a) + 1)) M haL (pAt_0 E _ haK) rfl inU_X0 11 (by decide) tyX0 tyX0_ok nmX0 wF_X0_68 (fun _ h => h) rfl (tyX0_ok 11 (by decide)) rfl rfl (Nat.le_of_ble_eq_true rfl) rfl (pUp_11 E S haK _) dX0_move_105 ?_
            refine j_goto (tgt := 124) M dX0_move_108 (by decide) ?_
            exact j_vret M dX0_move_124 (Nat.le_refl _) (Nat.le_refl _) ⟨rfl, (show uI S 11 a ((sI S 11 a) + 1) = m_move K S a x from (by unfold m_move; rw [if_neg c1, if_neg c2, if_neg c3, if_neg c4, if_pos c5]))⟩
          · by_cases c6 : x = 5
            · refine j_tableIn (tgt := 111) M dX0_move_1 (by rw [c6]; decide) (by rw [c6]; decide) (by rw [c6]; rfl) (by decide) ?_
              refine j_aload_n M dX0_move_111 rfl ?_
              refine j_dup M dX0_move_112 rfl ?_
              refine j_get (v := .int (sI S 11 a)) M haL (pAt_0 E _ haK) rfl inU_X0 11 (by decide) wF_X0_68 (fun _ h => h) rfl dX0_move_113 ?_
              refine j_iconst (v := 1) M dX0_move_116 (by decide) ?_
              refine j_isub M dX0_move_117 ?_
              refine j_put (host := "") (S2 := uI S 11 a ((sI S 11 a) - 1)) M haL (pAt_0 E _ haK) rfl inU_X0 11 (by decide) tyX0 tyX0_ok nmX0 wF_X0_68 (fun _ h => h) rfl (tyX0_ok 11 (by decide)) rfl rfl (Nat.le_of_ble_eq_true rfl) rfl (pUp_11 E S haK _) dX0_move_118 ?_
              refine j_goto (tgt := 124) M dX0_move_121 (by decide) ?_
              exact j_vret M dX0_move_124 (Nat.le_refl _) (Nat.le_refl _) ⟨rfl, (show uI S 11 a ((sI S 11 a) - 1) = m_move K S a x from (by unfold m_move; rw [if_neg c1, if_neg c2, if_neg c3, if_neg c4, if_neg c5, if_pos c6]))⟩
            · refine j_tableOut (tgt := 124) M dX0_move_1 (tsw_out (fun k h1 h2 => by
                have hk : k = 0 ∨ k = 1 ∨ k = 2 ∨ k = 3 ∨ k = 4 ∨ k = 5 := by omega
                rcases hk with rfl | rfl | rfl | rfl | rfl | rfl
                · exact c1
                · exact c2
                · exact c3
                · exact c4
                · exact c5
                · exact c6
                )) (by decide) ?_
              exact j_vret M dX0_move_124 (Nat.le_refl _) (Nat.le_refl _) ⟨rfl, (show S = m_move K S a x from (by unfold m_move; rw [if_neg c1, if_neg c2, if_neg c3, if_neg c4, if_neg c5, if_neg c6]))⟩
theorem g_move {K : Nat → Nat} {S : PS} (hW : WS K S) (hA : AW S) (hM : WM S) {a : Nat} (haL : a ∈ sL S) (haK : sK S a = 0) (x : Int32) : GW K (m_move K S a x) ∧ SS S (m_move K S a x) := by
  unfold m_move
  repeat' split
  · exact g_face hW hA hM haL haK _
  · exact g_face hW hA hM haL haK _
  · exact ⟨GW.uI (by decide) (by decide) ⟨hW, hA, hM⟩, SS.rf⟩
  · exact ⟨GW.uI (by decide) (by decide) ⟨hW, hA, hM⟩, SS.rf⟩
  · exact ⟨GW.uI (by decide) (by decide) ⟨hW, hA, hM⟩, SS.rf⟩
  · exact ⟨GW.uI (by decide) (by decide) ⟨hW, hA, hM⟩, SS.rf⟩
  · exact ⟨⟨hW, hA, hM⟩, SS.rf⟩
def m_tire (K : Nat → Nat) (S : PS) (a : Nat) (x : Int32) : PS :=
  if x = 6 then
    if x = 0 then
      if sM S 14 a = none then
        uI (uI S 13 a 0) 12 a (imin ((sI S 12 a) + 2) 20)
      else
        uI (uI S 13 a 0) 12 a (imin ((sI S 12 a) + 3) 20)
    else
      if x = 1 then
        if sM S 14 a = none then
          uI (uI S 13 a 0) 12 a (imin ((sI S 12 a) + 2) 20)
        else
          uI (uI S 13 a 0) 12 a (imin ((sI S 12 a) + 3) 20)
      else
        m_settle K (uI S 13 a 0) a 1
  else
    if x = 0 then
      if sM S 14 a = none then
        uI (uI S 13 a ((sI S 13 a) + 1)) 12 a (imin ((sI S 12 a) + 2) 20)
      else
        uI (uI S 13 a ((sI S 13 a) + 1)) 12 a (imin ((sI S 12 a) + 3) 20)
    else
      if x = 1 then
        if sM S 14 a = none then
          uI (uI S 13 a ((sI S 13 a) + 1)) 12 a (imin ((sI S 12 a) + 2) 20)
        else
          uI (uI S 13 a ((sI S 13 a) + 1)) 12 a (imin ((sI S 12 a) + 3) 20)
      else
        m_settle K (uI S 13 a ((sI S 13 a) + 1)) a 1
theorem cf_X0_tire : CFv yX0_tire RX0 cX0_tire 2 none 1 := ⟨wC_X0_tire, wI_X0_tire, wV_X0_X0_tire, wN_X0, by decide +kernel⟩
set_option maxHeartbeats 4000000 in
set_option maxRecDepth 100000 in
theorem c_tire {l : Launch} {E : EV} {K : Nat → Nat} {S : PS} (hW : WS K S) (hA : AW S) (hM : WM S) {a : Nat} (haL : a ∈ sL S) (haK : sK S a = 0) (x : Int32) : CT l yX0_tire cX0_tire 2 none 2 35 0 0 E [.ref a, .int x] S (p0 (m_tire K S a x)) := by
  refine CT.of (by decide) (Nat.le_of_ble_eq_true rfl) ?_
  intro p e s m below meth c M hin
  have M : MC E p s m _ meth c cX0_tire RX0 2 none := M
  show J p l e _ s m _ below meth c _ E 2 0 [(0, .ref a), (1, .int x)] [] S 0 0
  refine j_aload_n M dX0_tire_0 rfl ?_
  refine j_iload_n M dX0_tire_1 rfl ?_
  refine j_bipush (v := 6) M dX0_tire_2 (by decide) ?_
  refine j_icmp_ne (tgt := 11) M dX0_tire_4 (by decide) (fun c1 => ?_) (fun c1 => ?_)
  · refine j_aload_n M dX0_tire_11 rfl ?_
    refine j_get (v := .int (sI S 13 a)) M haL (pAt_0 E _ haK) rfl inU_X0 13 (by decide) wF_X0_24 (fun _ h => h) rfl dX0_tire_12 ?_
    refine j_iconst (v := 1) M dX0_tire_15 (by decide) ?_
    refine j_iadd M dX0_tire_16 ?_
    refine j_put (host := "") (S2 := uI S 13 a ((sI S 13 a) + 1)) M haL (pAt_0 E _ haK) rfl inU_X0 13 (by decide) tyX0 tyX0_ok nmX0 wF_X0_24 (fun _ h => h) rfl (tyX0_ok 13 (by decide)) rfl rfl (Nat.le_of_ble_eq_true rfl) rfl (pUp_13 E S haK _) dX0_tire_17 ?_
    refine j_iload_n M dX0_tire_20 rfl ?_
    refine j_if_eq (tgt := 29) M dX0_tire_21 (by decide) (fun c2 => ?_) (fun c2 => ?_)
    · refine j_aload_n M dX0_tire_29 rfl ?_
      refine j_aload_n M dX0_tire_30 rfl ?_
      refine j_get (v := .int (sI S 12 a)) M haL (pAt_0 E _ haK) rfl inU_X0 12 (by decide) wF_X0_21 (fun _ h => h) rfl dX0_tire_31 ?_
      refine j_aload_n M dX0_tire_34 rfl ?_
      refine j_get (v := va_rf (sM S 14 a)) M haL (pAt_0 E _ haK) rfl inU_X0 14 (by decide) wF_X0_27 (fun _ h => h) rfl dX0_tire_35 ?_
      refine j_opt (fun c3 => ?_) (fun c3s c3 => ?_)
      · refine j_ifnonnullN M dX0_tire_38 ?_
        refine j_iconst (v := 2) M dX0_tire_41 (by decide) ?_
        refine j_goto (tgt := 46) M dX0_tire_42 (by decide) ?_
        refine j_iadd M dX0_tire_46 ?_
        refine j_bipush (v := 20) M dX0_tire_47 (by decide) ?_
        refine j_min M wM_X0_85 dX0_tire_49 (Nat.le_of_ble_eq_true rfl) (Nat.le_of_ble_eq_true rfl) ⟨Nat.zero_le _, Nat.zero_le _⟩ ?_
        refine j_put (host := "") (S2 := uI (uI S 13 a ((sI S 13 a) + 1)) 12 a (imin ((sI S 12 a) + 2) 20)) M haL (pAt_0 E _ haK) rfl inU_X0 12 (by decide) tyX0 tyX0_ok nmX0 wF_X0_21 (fun _ h => h) rfl (tyX0_ok 12 (by decide)) rfl rfl (Nat.le_of_ble_eq_true rfl) rfl (pUp_12 E (uI S 13 a ((sI S 13 a) + 1)) haK _) dX0_tire_52 ?_
        refine j_goto (tgt := 63) M dX0_tire_55 (by decide) ?_
        exact j_vret M dX0_tire_63 (Nat.le_refl _) (Nat.le_refl _) ⟨rfl, (show uI (uI S 13 a ((sI S 13 a) + 1)) 12 a (imin ((sI S 12 a) + 2) 20) = m_tire K S a x from (by unfold m_tire; rw [if_neg c1, if_pos c2, if_pos c3]))⟩
      · refine j_ifnonnull (tgt := 45) M dX0_tire_38 (by decide) ?_
        refine j_iconst (v := 3) M dX0_tire_45 (by decide) ?_
        refine j_iadd M dX0_tire_46 ?_
        refine j_bipush (v := 20) M dX0_tire_47 (by decide) ?_
        refine j_min M wM_X0_85 dX0_tire_49 (Nat.le_of_ble_eq_true rfl) (Nat.le_of_ble_eq_true rfl) ⟨Nat.zero_le _, Nat.zero_le _⟩ ?_
        refine j_put (host := "") (S2 := uI (uI S 13 a ((sI S 13 a) + 1)) 12 a (imin ((sI S 12 a) + 3) 20)) M haL (pAt_0 E _ haK) rfl inU_X0 12 (by decide) tyX0 tyX0_ok nmX0 wF_X0_21 (fun _ h => h) rfl (tyX0_ok 12 (by decide)) rfl rfl (Nat.le_of_ble_eq_true rfl) rfl (pUp_12 E (uI S 13 a ((sI S 13 a) + 1)) haK _) dX0_tire_52 ?_
        refine j_goto (tgt := 63) M dX0_tire_55 (by decide) ?_
        exact j_vret M dX0_tire_63 (Nat.le_refl _) (Nat.le_refl _) ⟨rfl, (show uI (uI S 13 a ((sI S 13 a) + 1)) 12 a (imin ((sI S 12 a) + 3) 20) = m_tire K S a x from (by unfold m_tire; rw [if_neg c1, if_pos c2, if_neg c3]))⟩
    · refine j_iload_n M dX0_tire_24 rfl ?_
      refine j_iconst (v := 1) M dX0_tire_25 (by decide) ?_
      refine j_icmp_ne (tgt := 58) M dX0_tire_26 (by decide) (fun c4 => ?_) (fun c4 => ?_)
      · refine j_aload_n M dX0_tire_58 rfl ?_
        refine j_iconst (v := 1) M dX0_tire_59 (by decide) ?_
        refine j_callV0 (As := [.int 1]) M cf_X0_settle wM_X0_91 (c_settle (S := uI S 13 a ((sI S 13 a) + 1)) (WS.uI hW) (AW.uI (by decide) (by decide) hA) (WM.uI hM) haL haK 1) haL (pAt_0 E _ haK) rfl rfl ⟨Nat.le_of_ble_eq_true rfl, Nat.le_of_ble_eq_true rfl⟩ (Nat.le_of_ble_eq_true rfl) ⟨Nat.zero_le _, Nat.zero_le _⟩ dX0_tire_60 rfl ?_
        have g1 := g_settle (S := uI S 13 a ((sI S 13 a) + 1)) (WS.uI hW) (AW.uI (by decide) (by decide) hA) (WM.uI hM) haL haK 1
        exact j_vret M dX0_tire_63 (Nat.le_refl _) (Nat.le_refl _) ⟨rfl, (show m_settle K (uI S 13 a ((sI S 13 a) + 1)) a 1 = m_tire K S a x from (by unfold m_tire; rw [if_neg c1, if_neg c2, if_neg c4]))⟩
      · refine j_aload_n M dX0_tire_29 rfl ?_
        refine j_aload_n M dX0_tire_30 rfl ?_
        refine j_get (v := .int (sI S 12 a)) M haL (pAt_0 E _ haK) rfl inU_X0 12 (by decide) wF_X0_21 (fun _ h => h) rfl dX0_tire_31 ?_
        refine j_aload_n M dX0_tire_34 rfl ?_
        refine j_get (v := va_rf (sM S 14 a)) M haL (pAt_0 E _ haK) rfl inU_X0 14 (by decide) wF_X0_27 (fun _ h => h) rfl dX0_tire_35 ?_
        refine j_opt (fun c5 => ?_) (fun c5s c5 => ?_)
        · refine j_ifnonnullN M dX0_tire_38 ?_
          refine j_iconst (v := 2) M dX0_tire_41 (by decide) ?_
          refine j_goto (tgt := 46) M dX0_tire_42 (by decide) ?_
          refine j_iadd M dX0_tire_46 ?_
          refine j_bipush (v := 20) M dX0_tire_47 (by decide) ?_
          refine j_min M wM_X0_85 dX0_tire_49 (Nat.le_of_ble_eq_true rfl) (Nat.le_of_ble_eq_true rfl) ⟨Nat.zero_le _, Nat.zero_le _⟩ ?_
          refine j_put (host := "") (S2 := uI (uI S 13 a ((sI S 13 a) + 1)) 12 a (imin ((sI S 12 a) + 2) 20)) M haL (pAt_0 E _ haK) rfl inU_X0 12 (by decide) tyX0 tyX0_ok nmX0 wF_X0_21 (fun _ h => h) rfl (tyX0_ok 12 (by decide)) rfl rfl (Nat.le_of_ble_eq_true rfl) rfl (pUp_12 E (uI S 13 a ((sI S 13 a) + 1)) haK _) dX0_tire_52 ?_
          refine j_goto (tgt := 63) M dX0_tire_55 (by decide) ?_
          exact j_vret M dX0_tire_63 (Nat.le_refl _) (Nat.le_refl _) ⟨rfl, (show uI (uI S 13 a ((sI S 13 a) + 1)) 12 a (imin ((sI S 12 a) + 2) 20) = m_tire K S a x from (by unfold m_tire; rw [if_neg c1, if_neg c2, if_pos c4, if_pos c5]))⟩
        · refine j_ifnonnull (tgt := 45) M dX0_tire_38 (by decide) ?_
          refine j_iconst (v := 3) M dX0_tire_45 (by decide) ?_
          refine j_iadd M dX0_tire_46 ?_
          refine j_bipush (v := 20) M dX0_tire_47 (by decide) ?_
          refine j_min M wM_X0_85 dX0_tire_49 (Nat.le_of_ble_eq_true rfl) (Nat.le_of_ble_eq_true rfl) ⟨Nat.zero_le _, Nat.zero_le _⟩ ?_
          refine j_put (host := "") (S2 := uI (uI S 13 a ((sI S 13 a) + 1)) 12 a (imin ((sI S 12 a) + 3) 20)) M haL (pAt_0 E _ haK) rfl inU_X0 12 (by decide) tyX0 tyX0_ok nmX0 wF_X0_21 (fun _ h => h) rfl (tyX0_ok 12 (by decide)) rfl rfl (Nat.le_of_ble_eq_true rfl) rfl (pUp_12 E (uI S 13 a ((sI S 13 a) + 1)) haK _) dX0_tire_52 ?_
          refine j_goto (tgt := 63) M dX0_tire_55 (by decide) ?_
          exact j_vret M dX0_tire_63 (Nat.le_refl _) (Nat.le_refl _) ⟨rfl, (show uI (uI S 13 a ((sI S 13 a) + 1)) 12 a (imin ((sI S 12 a) + 3) 20) = m_tire K S a x from (by unfold m_tire; rw [if_neg c1, if_neg c2, if_pos c4, if_neg c5]))⟩
  · refine j_iconst (v := 0) M dX0_tire_7 (by decide) ?_
    refine j_goto (tgt := 17) M dX0_tire_8 (by decide) ?_
    refine j_put (host := "") (S2 := uI S 13 a 0) M haL (pAt_0 E _ haK) rfl inU_X0 13 (by decide) tyX0 tyX0_ok nmX0 wF_X0_24 (fun _ h => h) rfl (tyX0_ok 13 (by decide)) rfl rfl (Nat.le_of_ble_eq_true rfl) rfl (pUp_13 E S haK _) dX0_tire_17 ?_
    refine j_iload_n M dX0_tire_20 rfl ?_
    refine j_if_eq (tgt := 29) M dX0_tire_21 (by decide) (fun c6 => ?_) (fun c6 => ?_)
    · refine j_aload_n M dX0_tire_29 rfl ?_
      refine j_aload_n M dX0_tire_30 rfl ?_
      refine j_get (v := .int (sI S 12 a)) M haL (pAt_0 E _ haK) rfl inU_X0 12 (by decide) wF_X0_21 (fun _ h => h) rfl dX0_tire_31 ?_
      refine j_aload_n M dX0_tire_34 rfl ?_
      refine j_get (v := va_rf (sM S 14 a)) M haL (pAt_0 E _ haK) rfl inU_X0 14 (by decide) wF_X0_27 (fun _ h => h) rfl dX0_tire_35 ?_
      refine j_opt (fun c7 => ?_) (fun c7s c7 => ?_)
      · refine j_ifnonnullN M dX0_tire_38 ?_
        refine j_iconst (v := 2) M dX0_tire_41 (by decide) ?_
        refine j_goto (tgt := 46) M dX0_tire_42 (by decide) ?_
        refine j_iadd M dX0_tire_46 ?_
        refine j_bipush (v := 20) M dX0_tire_47 (by decide) ?_
        refine j_min M wM_X0_85 dX0_tire_49 (Nat.le_of_ble_eq_true rfl) (Nat.le_of_ble_eq_true rfl) ⟨Nat.zero_le _, Nat.zero_le _⟩ ?_
        refine j_put (host := "") (S2 := uI (uI S 13 a 0) 12 a (imin ((sI S 12 a) + 2) 20)) M haL (pAt_0 E _ haK) rfl inU_X0 12 (by decide) tyX0 tyX0_ok nmX0 wF_X0_21 (fun _ h => h) rfl (tyX0_ok 12 (by decide)) rfl rfl (Nat.le_of_ble_eq_true rfl) rfl (pUp_12 E (uI S 13 a 0) haK _) dX0_tire_52 ?_
        refine j_goto (tgt := 63) M dX0_tire_55 (by decide) ?_
        exact j_vret M dX0_tire_63 (Nat.le_refl _) (Nat.le_refl _) ⟨rfl, (show uI (uI S 13 a 0) 12 a (imin ((sI S 12 a) + 2) 20) = m_tire K S a x from (by unfold m_tire; rw [if_pos c1, if_pos c6, if_pos c7]))⟩
      · refine j_ifnonnull (tgt := 45) M dX0_tire_38 (by decide) ?_
        refine j_iconst (v := 3) M dX0_tire_45 (by decide) ?_
        refine j_iadd M dX0_tire_46 ?_
        refine j_bipush (v := 20) M dX0_tire_47 (by decide) ?_
        refine j_min M wM_X0_85 dX0_tire_49 (Nat.le_of_ble_eq_true rfl) (Nat.le_of_ble_eq_true rfl) ⟨Nat.zero_le _, Nat.zero_le _⟩ ?_
        refine j_put (host := "") (S2 := uI (uI S 13 a 0) 12 a (imin ((sI S 12 a) + 3) 20)) M haL (pAt_0 E _ haK) rfl inU_X0 12 (by decide) tyX0 tyX0_ok nmX0 wF_X0_21 (fun _ h => h) rfl (tyX0_ok 12 (by decide)) rfl rfl (Nat.le_of_ble_eq_true rfl) rfl (pUp_12 E (uI S 13 a 0) haK _) dX0_tire_52 ?_
        refine j_goto (tgt := 63) M dX0_tire_55 (by decide) ?_
        exact j_vret M dX0_tire_63 (Nat.le_refl _) (Nat.le_refl _) ⟨rfl, (show uI (uI S 13 a 0) 12 a (imin ((sI S 12 a) + 3) 20) = m_tire K S a x from (by unfold m_tire; rw [if_pos c1, if_pos c6, if_neg c7]))⟩
    · refine j_iload_n M dX0_tire_24 rfl ?_
      refine j_iconst (v := 1) M dX0_tire_25 (by decide) ?_
      refine j_icmp_ne (tgt := 58) M dX0_tire_26 (by decide) (fun c8 => ?_) (fun c8 => ?_)
      · refine j_aload_n M dX0_tire_58 rfl ?_
        refine j_iconst (v := 1) M dX0_tire_59 (by decide) ?_
        refine j_callV0 (As := [.int 1]) M cf_X0_settle wM_X0_91 (c_settle (S := uI S 13 a 0) (WS.uI hW) (AW.uI (by decide) (by decide) hA) (WM.uI hM) haL haK 1) haL (pAt_0 E _ haK) rfl rfl ⟨Nat.le_of_ble_eq_true rfl, Nat.le_of_ble_eq_true rfl⟩ (Nat.le_of_ble_eq_true rfl) ⟨Nat.zero_le _, Nat.zero_le _⟩ dX0_tire_60 rfl ?_
        have g2 := g_settle (S := uI S 13 a 0) (WS.uI hW) (AW.uI (by decide) (by decide) hA) (WM.uI hM) haL haK 1
        exact j_vret M dX0_tire_63 (Nat.le_refl _) (Nat.le_refl _) ⟨rfl, (show m_settle K (uI S 13 a 0) a 1 = m_tire K S a x from (by unfold m_tire; rw [if_pos c1, if_neg c6, if_neg c8]))⟩
      · refine j_aload_n M dX0_tire_29 rfl ?_
        refine j_aload_n M dX0_tire_30 rfl ?_
        refine j_get (v := .int (sI S 12 a)) M haL (pAt_0 E _ haK) rfl inU_X0 12 (by decide) wF_X0_21 (fun _ h => h) rfl dX0_tire_31 ?_
        refine j_aload_n M dX0_tire_34 rfl ?_
        refine j_get (v := va_rf (sM S 14 a)) M haL (pAt_0 E _ haK) rfl inU_X0 14 (by decide) wF_X0_27 (fun _ h => h) rfl dX0_tire_35 ?_
        refine j_opt (fun c9 => ?_) (fun c9s c9 => ?_)
        · refine j_ifnonnullN M dX0_tire_38 ?_
          refine j_iconst (v := 2) M dX0_tire_41 (by decide) ?_
          refine j_goto (tgt := 46) M dX0_tire_42 (by decide) ?_
          refine j_iadd M dX0_tire_46 ?_
          refine j_bipush (v := 20) M dX0_tire_47 (by decide) ?_
          refine j_min M wM_X0_85 dX0_tire_49 (Nat.le_of_ble_eq_true rfl) (Nat.le_of_ble_eq_true rfl) ⟨Nat.zero_le _, Nat.zero_le _⟩ ?_
          refine j_put (host := "") (S2 := uI (uI S 13 a 0) 12 a (imin ((sI S 12 a) + 2) 20)) M haL (pAt_0 E _ haK) rfl inU_X0 12 (by decide) tyX0 tyX0_ok nmX0 wF_X0_21 (fun _ h => h) rfl (tyX0_ok 12 (by decide)) rfl rfl (Nat.le_of_ble_eq_true rfl) rfl (pUp_12 E (uI S 13 a 0) haK _) dX0_tire_52 ?_
          refine j_goto (tgt := 63) M dX0_tire_55 (by decide) ?_
          exact j_vret M dX0_tire_63 (Nat.le_refl _) (Nat.le_refl _) ⟨rfl, (show uI (uI S 13 a 0) 12 a (imin ((sI S 12 a) + 2) 20) = m_tire K S a x from (by unfold m_tire; rw [if_pos c1, if_neg c6, if_pos c8, if_pos c9]))⟩
        · refine j_ifnonnull (tgt := 45) M dX0_tire_38 (by decide) ?_
          refine j_iconst (v := 3) M dX0_tire_45 (by decide) ?_
          refine j_iadd M dX0_tire_46 ?_
          refine j_bipush (v := 20) M dX0_tire_47 (by decide) ?_
          refine j_min M wM_X0_85 dX0_tire_49 (Nat.le_of_ble_eq_true rfl) (Nat.le_of_ble_eq_true rfl) ⟨Nat.zero_le _, Nat.zero_le _⟩ ?_
          refine j_put (host := "") (S2 := uI (uI S 13 a 0) 12 a (imin ((sI S 12 a) + 3) 20)) M haL (pAt_0 E _ haK) rfl inU_X0 12 (by decide) tyX0 tyX0_ok nmX0 wF_X0_21 (fun _ h => h) rfl (tyX0_ok 12 (by decide)) rfl rfl (Nat.le_of_ble_eq_true rfl) rfl (pUp_12 E (uI S 13 a 0) haK _) dX0_tire_52 ?_
          refine j_goto (tgt := 63) M dX0_tire_55 (by decide) ?_
          exact j_vret M dX0_tire_63 (Nat.le_refl _) (Nat.le_refl _) ⟨rfl, (show uI (uI S 13 a 0) 12 a (imin ((sI S 12 a) + 3) 20) = m_tire K S a x from (by unfold m_tire; rw [if_pos c1, if_neg c6, if_pos c8, if_neg c9]))⟩
theorem g_tire {K : Nat → Nat} {S : PS} (hW : WS K S) (hA : AW S) (hM : WM S) {a : Nat} (haL : a ∈ sL S) (haK : sK S a = 0) (x : Int32) : GW K (m_tire K S a x) ∧ SS S (m_tire K S a x) := by
  unfold m_tire
  repeat' split
  all_goals exact ⟨GW.uI (by decide) (by decide) (GW.uI (by decide) (by decide) ⟨hW, hA, hM⟩), SS.rf⟩
def m_poseOf (K : Nat → Nat) (S : PS) (a : Nat) : Int32 :=
  ((sI S 8 a) * 10) + (sI S 10 a)
theorem cf_X3_poseOf : CFs yX3_poseOf cX3_poseOf 1 (some .int) 1 := ⟨wC_X3_poseOf, wS_X3_poseOf, wN_X3, by decide +kernel⟩
set_option maxHeartbeats 4000000 in
set_option maxRecDepth 100000 in
theorem c_poseOf {l : Launch} {E : EV} {K : Nat → Nat} {S : PS} (hW : WS K S) {a : Nat} (haL : a ∈ sL S) (haK : sK S a = 0) : CT l yX3_poseOf cX3_poseOf 1 (some .int) 0 0 0 0 E [.ref a] S (pv (.int (m_poseOf K S a)) S) := by
  refine CT.of (by decide) (Nat.le_of_ble_eq_true rfl) ?_
  intro p e s m below meth c M hin
  have M : MC E p s m _ meth c cX3_poseOf RX3 1 (some .int) := M
  show J p l e _ s m _ below meth c _ E 1 0 [(0, .ref a)] [] S 0 0
  refine j_aload_n M dX3_poseOf_0 rfl ?_
  refine j_getN (v := .int (sI S 8 a)) M haL (pAt_0 E _ haK) rfl inU_X0 8 (by decide) nF_X3_69 (fun _ h => h) rfl dX3_poseOf_1 ?_
  refine j_bipush (v := 10) M dX3_poseOf_4 (by decide) ?_
  refine j_imul M dX3_poseOf_6 ?_
  refine j_aload_n M dX3_poseOf_7 rfl ?_
  refine j_getN (v := .int (sI S 10 a)) M haL (pAt_0 E _ haK) rfl inU_X0 10 (by decide) nF_X3_73 (fun _ h => h) rfl dX3_poseOf_8 ?_
  refine j_iadd M dX3_poseOf_11 ?_
  exact j_iret (v := (((sI S 8 a) * 10) + (sI S 10 a))) M dX3_poseOf_12 (Nat.le_refl _) (Nat.le_refl _) ⟨congrArg (fun z => some (Value.int z)) (show (((sI S 8 a) * 10) + (sI S 10 a)) = m_poseOf K S a from rfl), rfl⟩
def m_assume (K : Nat → Nat) (S : PS) (x : Int32) : PS :=
  uI (m_face K S (K 4) (x / 10)) 10 (K 4) (x - x / 10 * 10)
theorem cf_X3_assume : CFv yX3_assume RX3 cX3_assume 2 none 1 := ⟨wC_X3_assume, wI_X3_assume, wV_X3_X3_assume, wN_X3, by decide +kernel⟩
set_option maxHeartbeats 4000000 in
set_option maxRecDepth 100000 in
theorem c_assume {l : Launch} {E : EV} {K : Nat → Nat} {S : PS} (hW : WS K S) (hA : AW S) (hM : WM S) (x : Int32) : CT l yX3_assume cX3_assume 2 none 2 43 0 0 E [.ref (K 3), .int x] S (p0 (m_assume K S x)) := by
  refine CT.of (by decide) (Nat.le_of_ble_eq_true rfl) ?_
  intro p e s m below meth c M hin
  have M : MC E p s m _ meth c cX3_assume RX3 2 none := M
  show J p l e _ s m _ below meth c _ E 2 0 [(0, .ref (K 3)), (1, .int x)] [] S 0 0
  refine j_aload_n M dX3_assume_0 rfl ?_
  refine j_get (v := .ref (K 4)) M hW.k3.1 (pAt_3 E _ hW.k3.2) rfl inU_X3 1 (by decide) wF_X3_34 (fun _ h => h) (rfv hW.r24) dX3_assume_1 ?_
  refine j_iload_n M dX3_assume_4 rfl ?_
  refine j_bipush (v := 10) M dX3_assume_5 (by decide) ?_
  refine j_idiv M dX3_assume_7 (by decide) ?_
  refine j_callV0 (As := [.int (x / 10)]) M cf_X0_face wM_X3_76 (c_face hW hA hM hW.k4.1 hW.k4.2 (x / 10)) hW.k4.1 (pAt_0 E _ hW.k4.2) rfl rfl ⟨Nat.le_of_ble_eq_true rfl, Nat.le_of_ble_eq_true rfl⟩ (Nat.le_of_ble_eq_true rfl) ⟨Nat.zero_le _, Nat.zero_le _⟩ dX3_assume_8 rfl ?_
  have g1 := g_face hW hA hM hW.k4.1 hW.k4.2 (x / 10)
  refine j_aload_n M dX3_assume_11 rfl ?_
  refine j_get (v := .ref (K 4)) M g1.1.1.k3.1 (pAt_3 E _ g1.1.1.k3.2) rfl inU_X3 1 (by decide) wF_X3_34 (fun _ h => h) (rfv g1.1.1.r24) dX3_assume_12 ?_
  refine j_iload_n M dX3_assume_15 rfl ?_
  refine j_bipush (v := 10) M dX3_assume_16 (by decide) ?_
  refine j_irem M dX3_assume_18 (by decide) ?_
  refine j_putN (S2 := uI (m_face K S (K 4) (x / 10)) 10 (K 4) (x - x / 10 * 10)) M g1.1.1.k4.1 (pAt_0 E _ g1.1.1.k4.2) rfl inU_X0 10 (by decide) tyX0 tyX0_ok nmX0 nF_X3_73 (fun _ h => h) rfl (tyX0_ok 10 (by decide)) rfl rfl (Nat.le_of_ble_eq_true rfl) rfl (pUp_10 E (m_face K S (K 4) (x / 10)) g1.1.1.k4.2 _) dX3_assume_19 ?_
  exact j_vret M dX3_assume_22 (Nat.le_refl _) (Nat.le_refl _) ⟨rfl, (show uI (m_face K S (K 4) (x / 10)) 10 (K 4) (x - x / 10 * 10) = m_assume K S x from rfl)⟩
theorem g_assume {K : Nat → Nat} {S : PS} (hW : WS K S) (hA : AW S) (hM : WM S) (x : Int32) : GW K (m_assume K S x) ∧ SS S (m_assume K S x) := by
  have h := g_face hW hA hM hW.k4.1 hW.k4.2 (x / 10)
  exact ⟨GW.uI (by decide) (by decide) h.1, h.2⟩
def m_reasonAgainst (K : Nat → Nat) (S : PS) (a : Nat) (x : Int32) : Int32 × PS :=
  if x = 6 then
    (0, S)
  else
    if 3 < x then
      if (m_hindrance K (m_move K (m_mimic K S (K 4) a) (K 4) x) (K 4) 0 (m_clashesOf K (m_move K (m_mimic K S (K 4) a) (K 4) x) a)) = 1 then
        (1, m_move K (m_mimic K S (K 4) a) (K 4) x)
      else
        if (m_force K (m_move K (m_mimic K S (K 4) a) (K 4) x)) ≤ 6 then
          if (sI (m_move K (m_mimic K S (K 4) a) (K 4) x) 13 a) < 30 then
            (m_hindrance K (m_move K (m_mimic K S (K 4) a) (K 4) x) (K 4) 0 (m_clashesOf K (m_move K (m_mimic K S (K 4) a) (K 4) x) a), m_move K (m_mimic K S (K 4) a) (K 4) x)
          else
            (3, m_move K (m_mimic K S (K 4) a) (K 4) x)
        else
          (2, m_move K (m_mimic K S (K 4) a) (K 4) x)
    else
      if (m_hindrance K (m_move K (m_mimic K S (K 4) a) (K 4) x) (K 4) 1 (m_clashesOf K (m_move K (m_mimic K S (K 4) a) (K 4) x) a)) = 1 then
        (1, m_move K (m_mimic K S (K 4) a) (K 4) x)
      else
        if (m_force K (m_move K (m_mimic K S (K 4) a) (K 4) x)) ≤ 6 then
          if (sI (m_move K (m_mimic K S (K 4) a) (K 4) x) 13 a) < 30 then
            (m_hindrance K (m_move K (m_mimic K S (K 4) a) (K 4) x) (K 4) 1 (m_clashesOf K (m_move K (m_mimic K S (K 4) a) (K 4) x) a), m_move K (m_mimic K S (K 4) a) (K 4) x)
          else
            (3, m_move K (m_mimic K S (K 4) a) (K 4) x)
        else
          (2, m_move K (m_mimic K S (K 4) a) (K 4) x)
theorem cf_X5_reasonAgainst : CFv yX5_reasonAgainst RX5 cX5_reasonAgainst 4 (some .int) 2 := ⟨wC_X5_reasonAgainst, wI_X5_reasonAgainst, wV_X5_X5_reasonAgainst, wN_X5, by decide +kernel⟩
set_option maxHeartbeats 4000000 in
set_option maxRecDepth 100000 in
theorem c_reasonAgainst {l : Launch} {E : EV} {K : Nat → Nat} {S : PS} (hW : WS K S) (hA : AW S) (hM : WM S) {a : Nat} (haL : a ∈ sL S) (haK : sK S a = 0) (x : Int32) : CT l yX5_reasonAgainst cX5_reasonAgainst 4 (some .int) 6 137 0 0 E [.ref (K 1), .ref a, .int x] S (pv (.int (m_reasonAgainst K S a x).1) (m_reasonAgainst K S a x).2) := by
  refine CT.of (by decide) (Nat.le_of_ble_eq_true rfl) ?_
  intro p e s m below meth c M hin
  have M : MC E p s m _ meth c cX5_reasonAgainst RX5 4 (some .int) := M
  show J p l e _ s m _ below meth c _ E 4 0 [(0, .ref (K 1)), (1, .ref a), (2, .int x)] [] S 0 0
  refine j_iload_n M dX5_reasonAgainst_0 rfl ?_
  refine j_bipush (v := 6) M dX5_reasonAgainst_1 (by decide) ?_
  refine j_icmp_ne (tgt := 8) M dX5_reasonAgainst_3 (by decide) (fun c1 => ?_) (fun c1 => ?_)
  · refine j_aload_n M dX5_reasonAgainst_8 rfl ?_
    refine j_get (v := .ref (K 4)) M hW.k1.1 (pAt_5 E _ hW.k1.2) rfl inU_X5 6 (by decide) wF_X5_55 (fun _ h => h) (rfv hW.r38) dX5_reasonAgainst_9 ?_
    refine j_aload_n M dX5_reasonAgainst_12 rfl ?_
    refine j_callV0 (As := [.ref a]) M cf_X0_mimic wM_X5_184 (c_mimic hW hA hM hW.k4.1 hW.k4.2 haL haK) hW.k4.1 (pAt_0 E _ hW.k4.2) rfl rfl ⟨Nat.le_of_ble_eq_true rfl, Nat.le_of_ble_eq_true rfl⟩ (Nat.le_of_ble_eq_true rfl) ⟨Nat.zero_le _, Nat.zero_le _⟩ dX5_reasonAgainst_13 rfl ?_
    have g1 := g_mimic hW hA hM hW.k4.1 hW.k4.2 haL haK
    refine j_aload_n M dX5_reasonAgainst_16 rfl ?_
    refine j_get (v := .ref (K 4)) M g1.1.1.k1.1 (pAt_5 E _ g1.1.1.k1.2) rfl inU_X5 6 (by decide) wF_X5_55 (fun _ h => h) (rfv g1.1.1.r38) dX5_reasonAgainst_17 ?_
    refine j_iload_n M dX5_reasonAgainst_20 rfl ?_
    refine j_callV0 (As := [.int x]) M cf_X0_move wM_X5_188 (c_move (S := m_mimic K S (K 4) a) g1.1.1 g1.1.2.1 g1.1.2.2 g1.1.1.k4.1 g1.1.1.k4.2 x) g1.1.1.k4.1 (pAt_0 E _ g1.1.1.k4.2) rfl rfl ⟨Nat.le_of_ble_eq_true rfl, Nat.le_of_ble_eq_true rfl⟩ (Nat.le_of_ble_eq_true rfl) ⟨Nat.zero_le _, Nat.zero_le _⟩ dX5_reasonAgainst_21 rfl ?_
    have g2 := g_move (S := m_mimic K S (K 4) a) g1.1.1 g1.1.2.1 g1.1.2.2 g1.1.1.k4.1 g1.1.1.k4.2 x
    refine j_aload_n M dX5_reasonAgainst_24 rfl ?_
    refine j_aload_n M dX5_reasonAgainst_25 rfl ?_
    refine j_get (v := .ref (K 4)) M g2.1.1.k1.1 (pAt_5 E _ g2.1.1.k1.2) rfl inU_X5 6 (by decide) wF_X5_55 (fun _ h => h) (rfv g2.1.1.r38) dX5_reasonAgainst_26 ?_
    refine j_iload_n M dX5_reasonAgainst_29 rfl ?_
    refine j_iconst (v := 3) M dX5_reasonAgainst_30 (by decide) ?_
    refine j_icmp_gt (tgt := 38) M dX5_reasonAgainst_31 (by decide) (fun c2 => ?_) (fun c2 => ?_)
    · refine j_iconst (v := 0) M dX5_reasonAgainst_38 (by decide) ?_
      refine j_aload_n M dX5_reasonAgainst_39 rfl ?_
      refine j_aload_n M dX5_reasonAgainst_40 rfl ?_
      refine j_callV1 (As := [.ref a]) M cf_X5_clashesOf wM_X5_156 (c_clashesOf (S := m_move K (m_mimic K S (K 4) a) (K 4) x) g2.1.1 g2.1.2.1 g2.1.2.2 (g2.2.inL (g1.2.inL haL)) (g2.2.inK (g1.2.inK haK))) g2.1.1.k1.1 (pAt_5 E _ g2.1.1.k1.2) rfl rfl ⟨Nat.le_of_ble_eq_true rfl, Nat.le_of_ble_eq_true rfl⟩ (Nat.le_of_ble_eq_true rfl) ⟨Nat.zero_le _, Nat.zero_le _⟩ dX5_reasonAgainst_41 rfl ?_
      refine j_callV1 (As := [.ref (K 4), .int 0, .int (m_clashesOf K (m_move K (m_mimic K S (K 4) a) (K 4) x) a)]) M cf_X5_hindrance wM_X5_192 (c_hindrance (S := m_move K (m_mimic K S (K 4) a) (K 4) x) g2.1.1 g2.1.2.1 g2.1.2.2 g2.1.1.k4.1 g2.1.1.k4.2 0 (m_clashesOf K (m_move K (m_mimic K S (K 4) a) (K 4) x) a)) g2.1.1.k1.1 (pAt_5 E _ g2.1.1.k1.2) rfl rfl ⟨Nat.le_of_ble_eq_true rfl, Nat.le_of_ble_eq_true rfl⟩ (Nat.le_of_ble_eq_true rfl) ⟨Nat.zero_le _, Nat.zero_le _⟩ dX5_reasonAgainst_44 rfl ?_
      refine j_istore_n (lv' := [(3, .int (m_hindrance K (m_move K (m_mimic K S (K 4) a) (K 4) x) (K 4) 0 (m_clashesOf K (m_move K (m_mimic K S (K 4) a) (K 4) x) a))), (0, .ref (K 1)), (1, .ref a), (2, .int x)]) M dX5_reasonAgainst_47 rfl (by decide) rfl ?_
      refine j_iload_n M dX5_reasonAgainst_48 rfl ?_
      refine j_iconst (v := 1) M dX5_reasonAgainst_49 (by decide) ?_
      refine j_icmp_ne (tgt := 55) M dX5_reasonAgainst_50 (by decide) (fun c3 => ?_) (fun c3 => ?_)
      · refine j_aload_n M dX5_reasonAgainst_55 rfl ?_
        refine j_callV1 (As := []) M cf_X5_force wM_X5_196 (c_force (S := m_move K (m_mimic K S (K 4) a) (K 4) x) g2.1.1 g2.1.2.1 g2.1.2.2) g2.1.1.k1.1 (pAt_5 E _ g2.1.1.k1.2) rfl rfl ⟨Nat.le_of_ble_eq_true rfl, Nat.le_of_ble_eq_true rfl⟩ (Nat.le_of_ble_eq_true rfl) ⟨Nat.zero_le _, Nat.zero_le _⟩ dX5_reasonAgainst_56 rfl ?_
        refine j_bipush (v := 6) M dX5_reasonAgainst_59 (by decide) ?_
        refine j_icmp_le (tgt := 66) M dX5_reasonAgainst_61 (by decide) (fun c4 => ?_) (fun c4 => ?_)
        · refine j_aload_n M dX5_reasonAgainst_66 rfl ?_
          refine j_getN (v := .int (sI (m_move K (m_mimic K S (K 4) a) (K 4) x) 13 a)) M (g2.2.inL (g1.2.inL haL)) (pAt_0 E _ (g2.2.inK (g1.2.inK haK))) rfl inU_X0 13 (by decide) nF_X5_198 (fun _ h => h) rfl dX5_reasonAgainst_67 ?_
          refine j_bipush (v := 30) M dX5_reasonAgainst_70 (by decide) ?_
          refine j_icmp_lt (tgt := 79) M dX5_reasonAgainst_72 (by decide) (fun c5 => ?_) (fun c5 => ?_)
          · refine j_iload_n M dX5_reasonAgainst_79 rfl ?_
            have hz : ((m_hindrance K (m_move K (m_mimic K S (K 4) a) (K 4) x) (K 4) 0 (m_clashesOf K (m_move K (m_mimic K S (K 4) a) (K 4) x) a), m_move K (m_mimic K S (K 4) a) (K 4) x) : Int32 × PS) = m_reasonAgainst K S a x := (by unfold m_reasonAgainst; rw [if_neg c1, if_pos c2, if_neg c3, if_pos c4, if_pos c5])
            exact j_iret (v := (m_hindrance K (m_move K (m_mimic K S (K 4) a) (K 4) x) (K 4) 0 (m_clashesOf K (m_move K (m_mimic K S (K 4) a) (K 4) x) a))) M dX5_reasonAgainst_80 (Nat.le_refl _) (Nat.le_refl _) ⟨fst_of hz, snd_of hz⟩
          · refine j_iconst (v := 3) M dX5_reasonAgainst_75 (by decide) ?_
            refine j_goto (tgt := 80) M dX5_reasonAgainst_76 (by decide) ?_
            have hz : ((3, m_move K (m_mimic K S (K 4) a) (K 4) x) : Int32 × PS) = m_reasonAgainst K S a x := (by unfold m_reasonAgainst; rw [if_neg c1, if_pos c2, if_neg c3, if_pos c4, if_neg c5])
            exact j_iret (v := 3) M dX5_reasonAgainst_80 (Nat.le_refl _) (Nat.le_refl _) ⟨fst_of hz, snd_of hz⟩
        · refine j_iconst (v := 2) M dX5_reasonAgainst_64 (by decide) ?_
          have hz : ((2, m_move K (m_mimic K S (K 4) a) (K 4) x) : Int32 × PS) = m_reasonAgainst K S a x := (by unfold m_reasonAgainst; rw [if_neg c1, if_pos c2, if_neg c3, if_neg c4])
          exact j_iret (v := 2) M dX5_reasonAgainst_65 (Nat.le_refl _) (Nat.le_refl _) ⟨fst_of hz, snd_of hz⟩
      · refine j_iconst (v := 1) M dX5_reasonAgainst_53 (by decide) ?_
        have hz : ((1, m_move K (m_mimic K S (K 4) a) (K 4) x) : Int32 × PS) = m_reasonAgainst K S a x := (by unfold m_reasonAgainst; rw [if_neg c1, if_pos c2, if_pos c3])
        exact j_iret (v := 1) M dX5_reasonAgainst_54 (Nat.le_refl _) (Nat.le_refl _) ⟨fst_of hz, snd_of hz⟩
    · refine j_iconst (v := 1) M dX5_reasonAgainst_34 (by decide) ?_
      refine j_goto (tgt := 39) M dX5_reasonAgainst_35 (by decide) ?_
      refine j_aload_n M dX5_reasonAgainst_39 rfl ?_
      refine j_aload_n M dX5_reasonAgainst_40 rfl ?_
      refine j_callV1 (As := [.ref a]) M cf_X5_clashesOf wM_X5_156 (c_clashesOf (S := m_move K (m_mimic K S (K 4) a) (K 4) x) g2.1.1 g2.1.2.1 g2.1.2.2 (g2.2.inL (g1.2.inL haL)) (g2.2.inK (g1.2.inK haK))) g2.1.1.k1.1 (pAt_5 E _ g2.1.1.k1.2) rfl rfl ⟨Nat.le_of_ble_eq_true rfl, Nat.le_of_ble_eq_true rfl⟩ (Nat.le_of_ble_eq_true rfl) ⟨Nat.zero_le _, Nat.zero_le _⟩ dX5_reasonAgainst_41 rfl ?_
      refine j_callV1 (As := [.ref (K 4), .int 1, .int (m_clashesOf K (m_move K (m_mimic K S (K 4) a) (K 4) x) a)]) M cf_X5_hindrance wM_X5_192 (c_hindrance (S := m_move K (m_mimic K S (K 4) a) (K 4) x) g2.1.1 g2.1.2.1 g2.1.2.2 g2.1.1.k4.1 g2.1.1.k4.2 1 (m_clashesOf K (m_move K (m_mimic K S (K 4) a) (K 4) x) a)) g2.1.1.k1.1 (pAt_5 E _ g2.1.1.k1.2) rfl rfl ⟨Nat.le_of_ble_eq_true rfl, Nat.le_of_ble_eq_true rfl⟩ (Nat.le_of_ble_eq_true rfl) ⟨Nat.zero_le _, Nat.zero_le _⟩ dX5_reasonAgainst_44 rfl ?_
      refine j_istore_n (lv' := [(3, .int (m_hindrance K (m_move K (m_mimic K S (K 4) a) (K 4) x) (K 4) 1 (m_clashesOf K (m_move K (m_mimic K S (K 4) a) (K 4) x) a))), (0, .ref (K 1)), (1, .ref a), (2, .int x)]) M dX5_reasonAgainst_47 rfl (by decide) rfl ?_
      refine j_iload_n M dX5_reasonAgainst_48 rfl ?_
      refine j_iconst (v := 1) M dX5_reasonAgainst_49 (by decide) ?_
      refine j_icmp_ne (tgt := 55) M dX5_reasonAgainst_50 (by decide) (fun c6 => ?_) (fun c6 => ?_)
      · refine j_aload_n M dX5_reasonAgainst_55 rfl ?_
        refine j_callV1 (As := []) M cf_X5_force wM_X5_196 (c_force (S := m_move K (m_mimic K S (K 4) a) (K 4) x) g2.1.1 g2.1.2.1 g2.1.2.2) g2.1.1.k1.1 (pAt_5 E _ g2.1.1.k1.2) rfl rfl ⟨Nat.le_of_ble_eq_true rfl, Nat.le_of_ble_eq_true rfl⟩ (Nat.le_of_ble_eq_true rfl) ⟨Nat.zero_le _, Nat.zero_le _⟩ dX5_reasonAgainst_56 rfl ?_
        refine j_bipush (v := 6) M dX5_reasonAgainst_59 (by decide) ?_
        refine j_icmp_le (tgt := 66) M dX5_reasonAgainst_61 (by decide) (fun c7 => ?_) (fun c7 => ?_)
        · refine j_aload_n M dX5_reasonAgainst_66 rfl ?_
          refine j_getN (v := .int (sI (m_move K (m_mimic K S (K 4) a) (K 4) x) 13 a)) M (g2.2.inL (g1.2.inL haL)) (pAt_0 E _ (g2.2.inK (g1.2.inK haK))) rfl inU_X0 13 (by decide) nF_X5_198 (fun _ h => h) rfl dX5_reasonAgainst_67 ?_
          refine j_bipush (v := 30) M dX5_reasonAgainst_70 (by decide) ?_
          refine j_icmp_lt (tgt := 79) M dX5_reasonAgainst_72 (by decide) (fun c8 => ?_) (fun c8 => ?_)
          · refine j_iload_n M dX5_reasonAgainst_79 rfl ?_
            have hz : ((m_hindrance K (m_move K (m_mimic K S (K 4) a) (K 4) x) (K 4) 1 (m_clashesOf K (m_move K (m_mimic K S (K 4) a) (K 4) x) a), m_move K (m_mimic K S (K 4) a) (K 4) x) : Int32 × PS) = m_reasonAgainst K S a x := (by unfold m_reasonAgainst; rw [if_neg c1, if_neg c2, if_neg c6, if_pos c7, if_pos c8])
            exact j_iret (v := (m_hindrance K (m_move K (m_mimic K S (K 4) a) (K 4) x) (K 4) 1 (m_clashesOf K (m_move K (m_mimic K S (K 4) a) (K 4) x) a))) M dX5_reasonAgainst_80 (Nat.le_refl _) (Nat.le_refl _) ⟨fst_of hz, snd_of hz⟩
          · refine j_iconst (v := 3) M dX5_reasonAgainst_75 (by decide) ?_
            refine j_goto (tgt := 80) M dX5_reasonAgainst_76 (by decide) ?_
            have hz : ((3, m_move K (m_mimic K S (K 4) a) (K 4) x) : Int32 × PS) = m_reasonAgainst K S a x := (by unfold m_reasonAgainst; rw [if_neg c1, if_neg c2, if_neg c6, if_pos c7, if_neg c8])
            exact j_iret (v := 3) M dX5_reasonAgainst_80 (Nat.le_refl _) (Nat.le_refl _) ⟨fst_of hz, snd_of hz⟩
        · refine j_iconst (v := 2) M dX5_reasonAgainst_64 (by decide) ?_
          have hz : ((2, m_move K (m_mimic K S (K 4) a) (K 4) x) : Int32 × PS) = m_reasonAgainst K S a x := (by unfold m_reasonAgainst; rw [if_neg c1, if_neg c2, if_neg c6, if_neg c7])
          exact j_iret (v := 2) M dX5_reasonAgainst_65 (Nat.le_refl _) (Nat.le_refl _) ⟨fst_of hz, snd_of hz⟩
      · refine j_iconst (v := 1) M dX5_reasonAgainst_53 (by decide) ?_
        have hz : ((1, m_move K (m_mimic K S (K 4) a) (K 4) x) : Int32 × PS) = m_reasonAgainst K S a x := (by unfold m_reasonAgainst; rw [if_neg c1, if_neg c2, if_pos c6])
        exact j_iret (v := 1) M dX5_reasonAgainst_54 (Nat.le_refl _) (Nat.le_refl _) ⟨fst_of hz, snd_of hz⟩
  · refine j_iconst (v := 0) M dX5_reasonAgainst_6 (by decide) ?_
    have hz : ((0, S) : Int32 × PS) = m_reasonAgainst K S a x := (by unfold m_reasonAgainst; rw [if_pos c1])
    exact j_iret (v := 0) M dX5_reasonAgainst_7 (Nat.le_refl _) (Nat.le_refl _) ⟨fst_of hz, snd_of hz⟩
