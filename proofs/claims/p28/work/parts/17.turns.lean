def m_take (K : Nat → Nat) (S : PS) (a : Nat) (x : Int32) : PS :=
  if x = 6 then
    uI (uI (m_tire K (m_move K S a x) a x) 39 (K 1) ((sI (m_tire K (m_move K S a x) a x) 39 (K 1)) + 1)) 40 (K 1) ((sI (m_tire K (m_move K S a x) a x) 40 (K 1)) + 1)
  else
    uI (uI (uI (m_tire K (m_move K S a x) a x) 39 (K 1) ((sI (m_tire K (m_move K S a x) a x) 39 (K 1)) + 1)) 40 (K 1) ((sI (m_tire K (m_move K S a x) a x) 40 (K 1)) + 1)) 15 a ((sI (m_tire K (m_move K S a x) a x) 15 a) + (m_missesNow K (uI (uI (m_tire K (m_move K S a x) a x) 39 (K 1) ((sI (m_tire K (m_move K S a x) a x) 39 (K 1)) + 1)) 40 (K 1) ((sI (m_tire K (m_move K S a x) a x) 40 (K 1)) + 1)) a))
theorem cf_X5_take : CFv yX5_take RX5 cX5_take 3 none 2 := ⟨wC_X5_take, wI_X5_take, wV_X5_X5_take, wN_X5, by decide +kernel⟩
set_option maxHeartbeats 4000000 in
set_option maxRecDepth 100000 in
theorem c_take {l : Launch} {E : EV} {K : Nat → Nat} {S : PS} (hW : WS K S) (hA : AW S) (hM : WM S) {a : Nat} (haL : a ∈ sL S) (haK : sK S a = 0) (x : Int32) : CT l yX5_take cX5_take 3 none 5 112 0 0 E [.ref (K 1), .ref a, .int x] S (p0 (m_take K S a x)) := by
  refine CT.of (by decide) (Nat.le_of_ble_eq_true rfl) ?_
  intro p e s m below meth c M hin
  have M : MC E p s m _ meth c cX5_take RX5 3 none := M
  show J p l e _ s m _ below meth c _ E 3 0 [(0, .ref (K 1)), (1, .ref a), (2, .int x)] [] S 0 0
  refine j_aload_n M dX5_take_0 rfl ?_
  refine j_iload_n M dX5_take_1 rfl ?_
  refine j_callV0 (As := [.int x]) M cf_X0_move wM_X5_188 (c_move hW hA hM haL haK x) haL (pAt_0 E _ haK) rfl rfl ⟨Nat.le_of_ble_eq_true rfl, Nat.le_of_ble_eq_true rfl⟩ (Nat.le_of_ble_eq_true rfl) ⟨Nat.zero_le _, Nat.zero_le _⟩ dX5_take_2 rfl ?_
  have g1 := g_move hW hA hM haL haK x
  refine j_aload_n M dX5_take_5 rfl ?_
  refine j_iload_n M dX5_take_6 rfl ?_
  refine j_callV0 (As := [.int x]) M cf_X0_tire wM_X5_201 (c_tire (S := m_move K S a x) g1.1.1 g1.1.2.1 g1.1.2.2 (g1.2.inL haL) (g1.2.inK haK) x) (g1.2.inL haL) (pAt_0 E _ (g1.2.inK haK)) rfl rfl ⟨Nat.le_of_ble_eq_true rfl, Nat.le_of_ble_eq_true rfl⟩ (Nat.le_of_ble_eq_true rfl) ⟨Nat.zero_le _, Nat.zero_le _⟩ dX5_take_7 rfl ?_
  have g2 := g_tire (S := m_move K S a x) g1.1.1 g1.1.2.1 g1.1.2.2 (g1.2.inL haL) (g1.2.inK haK) x
  refine j_aload_n M dX5_take_10 rfl ?_
  refine j_dup M dX5_take_11 rfl ?_
  refine j_get (v := .int (sI (m_tire K (m_move K S a x) a x) 39 (K 1))) M g2.1.1.k1.1 (pAt_5 E _ g2.1.1.k1.2) rfl inU_X5 7 (by decide) wF_X5_36 (fun _ h => h) rfl dX5_take_12 ?_
  refine j_iconst (v := 1) M dX5_take_15 (by decide) ?_
  refine j_iadd M dX5_take_16 ?_
  refine j_put (host := "") (S2 := uI (m_tire K (m_move K S a x) a x) 39 (K 1) ((sI (m_tire K (m_move K S a x) a x) 39 (K 1)) + 1)) M g2.1.1.k1.1 (pAt_5 E _ g2.1.1.k1.2) rfl inU_X5 7 (by decide) tyX5 tyX5_ok nmX5 wF_X5_36 (fun _ h => h) rfl (tyX5_ok 7 (by decide)) rfl rfl (Nat.le_of_ble_eq_true rfl) rfl (pUp_39 E (m_tire K (m_move K S a x) a x) g2.1.1.k1.2 _) dX5_take_17 ?_
  refine j_aload_n M dX5_take_20 rfl ?_
  refine j_dup M dX5_take_21 rfl ?_
  refine j_get (v := .int (sI (m_tire K (m_move K S a x) a x) 40 (K 1))) M ((WS.uI g2.1.1).k1.1) (pAt_5 E _ ((WS.uI g2.1.1).k1.2)) rfl inU_X5 8 (by decide) wF_X5_40 (fun _ h => h) rfl dX5_take_22 ?_
  refine j_iconst (v := 1) M dX5_take_25 (by decide) ?_
  refine j_iadd M dX5_take_26 ?_
  refine j_put (host := "") (S2 := uI (uI (m_tire K (m_move K S a x) a x) 39 (K 1) ((sI (m_tire K (m_move K S a x) a x) 39 (K 1)) + 1)) 40 (K 1) ((sI (m_tire K (m_move K S a x) a x) 40 (K 1)) + 1)) M ((WS.uI g2.1.1).k1.1) (pAt_5 E _ ((WS.uI g2.1.1).k1.2)) rfl inU_X5 8 (by decide) tyX5 tyX5_ok nmX5 wF_X5_40 (fun _ h => h) rfl (tyX5_ok 8 (by decide)) rfl rfl (Nat.le_of_ble_eq_true rfl) rfl (pUp_40 E (uI (m_tire K (m_move K S a x) a x) 39 (K 1) ((sI (m_tire K (m_move K S a x) a x) 39 (K 1)) + 1)) ((WS.uI g2.1.1).k1.2) _) dX5_take_27 ?_
  refine j_iload_n M dX5_take_30 rfl ?_
  refine j_bipush (v := 6) M dX5_take_31 (by decide) ?_
  refine j_icmp_eq (tgt := 50) M dX5_take_33 (by decide) (fun c1 => ?_) (fun c1 => ?_)
  · exact j_vret M dX5_take_50 (Nat.le_refl _) (Nat.le_refl _) ⟨rfl, (show uI (uI (m_tire K (m_move K S a x) a x) 39 (K 1) ((sI (m_tire K (m_move K S a x) a x) 39 (K 1)) + 1)) 40 (K 1) ((sI (m_tire K (m_move K S a x) a x) 40 (K 1)) + 1) = m_take K S a x from (by unfold m_take; rw [if_pos c1]))⟩
  · refine j_aload_n M dX5_take_36 rfl ?_
    refine j_dup M dX5_take_37 rfl ?_
    refine j_getN (v := .int (sI (m_tire K (m_move K S a x) a x) 15 a)) M (g2.2.inL (g1.2.inL haL)) (pAt_0 E _ (g2.2.inK (g1.2.inK haK))) rfl inU_X0 15 (by decide) nF_X5_165 (fun _ h => h) rfl dX5_take_38 ?_
    refine j_aload_n M dX5_take_41 rfl ?_
    refine j_aload_n M dX5_take_42 rfl ?_
    refine j_callV1 (As := [.ref a]) M cf_X5_missesNow wM_X5_204 (c_missesNow (S := uI (uI (m_tire K (m_move K S a x) a x) 39 (K 1) ((sI (m_tire K (m_move K S a x) a x) 39 (K 1)) + 1)) 40 (K 1) ((sI (m_tire K (m_move K S a x) a x) 40 (K 1)) + 1)) (WS.uI (WS.uI g2.1.1)) (AW.uI (by decide) (by decide) (AW.uI (by decide) (by decide) g2.1.2.1)) (WM.uI (WM.uI g2.1.2.2)) (g2.2.inL (g1.2.inL haL)) (g2.2.inK (g1.2.inK haK))) ((WS.uI (WS.uI g2.1.1)).k1.1) (pAt_5 E _ ((WS.uI (WS.uI g2.1.1)).k1.2)) rfl rfl ⟨Nat.le_of_ble_eq_true rfl, Nat.le_of_ble_eq_true rfl⟩ (Nat.le_of_ble_eq_true rfl) ⟨Nat.zero_le _, Nat.zero_le _⟩ dX5_take_43 rfl ?_
    refine j_iadd M dX5_take_46 ?_
    refine j_putN (S2 := uI (uI (uI (m_tire K (m_move K S a x) a x) 39 (K 1) ((sI (m_tire K (m_move K S a x) a x) 39 (K 1)) + 1)) 40 (K 1) ((sI (m_tire K (m_move K S a x) a x) 40 (K 1)) + 1)) 15 a ((sI (m_tire K (m_move K S a x) a x) 15 a) + (m_missesNow K (uI (uI (m_tire K (m_move K S a x) a x) 39 (K 1) ((sI (m_tire K (m_move K S a x) a x) 39 (K 1)) + 1)) 40 (K 1) ((sI (m_tire K (m_move K S a x) a x) 40 (K 1)) + 1)) a))) M (g2.2.inL (g1.2.inL haL)) (pAt_0 E _ (g2.2.inK (g1.2.inK haK))) rfl inU_X0 15 (by decide) tyX0 tyX0_ok nmX0 nF_X5_165 (fun _ h => h) rfl (tyX0_ok 15 (by decide)) rfl rfl (Nat.le_of_ble_eq_true rfl) rfl (pUp_15 E (uI (uI (m_tire K (m_move K S a x) a x) 39 (K 1) ((sI (m_tire K (m_move K S a x) a x) 39 (K 1)) + 1)) 40 (K 1) ((sI (m_tire K (m_move K S a x) a x) 40 (K 1)) + 1)) (g2.2.inK (g1.2.inK haK)) _) dX5_take_47 ?_
    exact j_vret M dX5_take_50 (Nat.le_refl _) (Nat.le_refl _) ⟨rfl, (show uI (uI (uI (m_tire K (m_move K S a x) a x) 39 (K 1) ((sI (m_tire K (m_move K S a x) a x) 39 (K 1)) + 1)) 40 (K 1) ((sI (m_tire K (m_move K S a x) a x) 40 (K 1)) + 1)) 15 a ((sI (m_tire K (m_move K S a x) a x) 15 a) + (m_missesNow K (uI (uI (m_tire K (m_move K S a x) a x) 39 (K 1) ((sI (m_tire K (m_move K S a x) a x) 39 (K 1)) + 1)) 40 (K 1) ((sI (m_tire K (m_move K S a x) a x) 40 (K 1)) + 1)) a)) = m_take K S a x from (by unfold m_take; rw [if_neg c1]))⟩
theorem g_take {K : Nat → Nat} {S : PS} (hW : WS K S) (hA : AW S) (hM : WM S) {a : Nat} (haL : a ∈ sL S) (haK : sK S a = 0) (x : Int32) : GW K (m_take K S a x) ∧ SS S (m_take K S a x) := by
  have g1 := g_move hW hA hM haL haK x
  have g2 := g_tire g1.1.1 g1.1.2.1 g1.1.2.2 (g1.2.inL haL) (g1.2.inK haK) x
  have g3 := GW.uI (f := 39) (a := K 1) (v := sI (m_tire K (m_move K S a x) a x) 39 (K 1) + 1) (by decide) (by decide) g2.1
  unfold m_take
  repeat' split
  · exact ⟨GW.uI (by decide) (by decide) g3, SS.tr g1.2 g2.2⟩
  · exact ⟨GW.uI (by decide) (by decide) (GW.uI (by decide) (by decide) g3), SS.tr g1.2 g2.2⟩
def m_idle_lp (K : Nat → Nat) (S : PS) (t : Int32) : Nat → Nat → PS → PS
  | 0, j, T => T
  | r + 1, j, T => m_idle_lp K S t r (j + 1) (m_settle K T (el T (K 13) j) t)
def m_idle (K : Nat → Nat) (S : PS) (t : Int32) : PS :=
  m_idle_lp K S t (sZ S (K 13)) 0 (uI S 39 (K 1) ((sI S 39 (K 1)) + t))
theorem cf_X5_idle : CFv yX5_idle RX5 cX5_idle 3 none 1 := ⟨wC_X5_idle, wI_X5_idle, wV_X5_X5_idle, wN_X5, by decide +kernel⟩
set_option maxHeartbeats 4000000 in
set_option maxRecDepth 100000 in
theorem c_idle {l : Launch} {E : EV} {K : Nat → Nat} {S : PS} (hW : WS K S) (hA : AW S) (hM : WM S) (t : Int32) : CT l yX5_idle cX5_idle 3 none 3 64 0 0 E [.ref (K 1), .int t] S (p0 (m_idle K S t)) := by
  refine CT.of (by decide) (Nat.le_of_ble_eq_true rfl) ?_
  intro p e s m below meth c M hin
  have M : MC E p s m _ meth c cX5_idle RX5 3 none := M
  show J p l e _ s m _ below meth c _ E 3 0 [(0, .ref (K 1)), (1, .int t)] [] S 0 0
  refine j_aload_n M dX5_idle_0 rfl ?_
  refine j_dup M dX5_idle_1 rfl ?_
  refine j_get (v := .int (sI S 39 (K 1))) M hW.k1.1 (pAt_5 E _ hW.k1.2) rfl inU_X5 7 (by decide) wF_X5_36 (fun _ h => h) rfl dX5_idle_2 ?_
  refine j_iload_n M dX5_idle_5 rfl ?_
  refine j_iadd M dX5_idle_6 ?_
  refine j_put (host := "") (S2 := uI S 39 (K 1) ((sI S 39 (K 1)) + t)) M hW.k1.1 (pAt_5 E _ hW.k1.2) rfl inU_X5 7 (by decide) tyX5 tyX5_ok nmX5 wF_X5_36 (fun _ h => h) rfl (tyX5_ok 7 (by decide)) rfl rfl (Nat.le_of_ble_eq_true rfl) rfl (pUp_39 E S hW.k1.2 _) dX5_idle_7 ?_
  refine j_iconst (v := 0) M dX5_idle_10 (by decide) ?_
  refine j_istore_n (lv' := [(2, .int 0), (0, .ref (K 1)), (1, .int t)]) M dX5_idle_11 rfl (by decide) rfl ?_
  have hz13 := hW.l13.2.1
  have lp : ∀ (r j : Nat) (T : PS), j + r = sZ S (K 13) → GW K T ∧ SS S T → m_idle K S t = m_idle_lp K S t r j T → J p l e { frames := 3, cells := 0, slots := 0, locals := 64 } s m ([.ref (K 1), .int t] : List Value).toArray below meth c (MQ below (QC E (p0 (m_idle K S t))) ([.ref (K 1), .int t] : List Value).toArray s 0 0 (AE E)) E 3 12 [(0, .ref (K 1)), (1, .int t), (2, .int (nI j))] [] T 0 0 := by
    intro r
    induction r with
    | zero =>
      intro j T hj hT hq
      have hzT := hT.2.z (K 13)
      refine j_iload_n M dX5_idle_12 rfl ?_
      refine j_aload_n M dX5_idle_13 rfl ?_
      refine j_get (v := .ref (K 13)) M hT.1.1.k1.1 (pAt_5 E _ hT.1.1.k1.2) rfl inU_X5 3 (by decide) wF_X5_21 (fun _ h => h) (rfv hT.1.1.r35) dX5_idle_14 ?_
      refine j_callV1 (As := []) (x := .int (nI (sZ T (K 13)))) M cf_size wM_X5_68 (c_size hT.1.1.l13) hT.1.1.l13.1.1 (pAt_8 E _ hT.1.1.l13.1.2) rfl rfl ⟨Nat.le_of_ble_eq_true rfl, Nat.le_of_ble_eq_true rfl⟩ (Nat.le_of_ble_eq_true rfl) ⟨Nat.zero_le _, Nat.zero_le _⟩ dX5_idle_17 rfl ?_
      refine j_icmp_ge (tgt := 44) M dX5_idle_20 (by decide) (fun _ => ?_) (fun z => absurd (nI_le (by omega) (by omega)) z)
      exact j_vret M dX5_idle_44 (Nat.le_refl _) (Nat.le_refl _) ⟨rfl, (show T = m_idle K S t from (hq.trans (by simp only [m_idle_lp])).symm)⟩
    | succ r ih =>
      intro j T hj hT hq
      have hzT := hT.2.z (K 13)
      refine j_iload_n M dX5_idle_12 rfl ?_
      refine j_aload_n M dX5_idle_13 rfl ?_
      refine j_get (v := .ref (K 13)) M hT.1.1.k1.1 (pAt_5 E _ hT.1.1.k1.2) rfl inU_X5 3 (by decide) wF_X5_21 (fun _ h => h) (rfv hT.1.1.r35) dX5_idle_14 ?_
      refine j_callV1 (As := []) (x := .int (nI (sZ T (K 13)))) M cf_size wM_X5_68 (c_size hT.1.1.l13) hT.1.1.l13.1.1 (pAt_8 E _ hT.1.1.l13.1.2) rfl rfl ⟨Nat.le_of_ble_eq_true rfl, Nat.le_of_ble_eq_true rfl⟩ (Nat.le_of_ble_eq_true rfl) ⟨Nat.zero_le _, Nat.zero_le _⟩ dX5_idle_17 rfl ?_
      refine j_icmp_ge (tgt := 44) M dX5_idle_20 (by decide) (fun z => absurd z (nI_ge (by omega) (by omega))) (fun _ => ?_)
      refine j_aload_n M dX5_idle_23 rfl ?_
      refine j_get (v := .ref (K 13)) M hT.1.1.k1.1 (pAt_5 E _ hT.1.1.k1.2) rfl inU_X5 3 (by decide) wF_X5_21 (fun _ h => h) (rfv hT.1.1.r35) dX5_idle_24 ?_
      refine j_iload_n M dX5_idle_27 rfl ?_
      refine j_callV1 (As := [.int (nI j)]) (x := .ref (el T (K 13) j)) M cf_get wM_X5_72 (c_get hT.1.1.l13 (by decide) (show j < sZ T (K 13) by omega)) hT.1.1.l13.1.1 (pAt_8 E _ hT.1.1.l13.1.2) rfl rfl ⟨Nat.le_of_ble_eq_true rfl, Nat.le_of_ble_eq_true rfl⟩ (Nat.le_of_ble_eq_true rfl) ⟨Nat.zero_le _, Nat.zero_le _⟩ dX5_idle_28 rfl ?_
      refine j_cast M ((LSt.el hT.1.1.l13 (show j < sZ T (K 13) by omega)).1) (pAt_0 E _ ((LSt.el hT.1.1.l13 (show j < sZ T (K 13) by omega)).2)) rfl wL_X5_50 dX5_idle_31 ?_
      refine j_iload_n M dX5_idle_34 rfl ?_
      refine j_callV0 (As := [.int t]) M cf_X0_settle wM_X5_207 (c_settle (S := T) hT.1.1 hT.1.2.1 hT.1.2.2 ((LSt.el hT.1.1.l13 (show j < sZ T (K 13) by omega)).1) ((LSt.el hT.1.1.l13 (show j < sZ T (K 13) by omega)).2) t) ((LSt.el hT.1.1.l13 (show j < sZ T (K 13) by omega)).1) (pAt_0 E _ ((LSt.el hT.1.1.l13 (show j < sZ T (K 13) by omega)).2)) rfl rfl ⟨Nat.le_of_ble_eq_true rfl, Nat.le_of_ble_eq_true rfl⟩ (Nat.le_of_ble_eq_true rfl) ⟨Nat.zero_le _, Nat.zero_le _⟩ dX5_idle_35 rfl ?_
      have g1 := g_settle (S := T) hT.1.1 hT.1.2.1 hT.1.2.2 ((LSt.el hT.1.1.l13 (show j < sZ T (K 13) by omega)).1) ((LSt.el hT.1.1.l13 (show j < sZ T (K 13) by omega)).2) t
      refine j_iinc (v := (nI (j + 1))) (lv' := [(2, .int (nI (j + 1))), (0, .ref (K 1)), (1, .int t)]) M dX5_idle_38 rfl (nI_1 _) (by decide) rfl ?_
      refine j_goto (tgt := 12) M dX5_idle_41 (by decide) ?_
      refine j_pick [1, 2, 0] rfl ?_
      exact ih (j + 1) (m_settle K T (el T (K 13) j) t) (by omega) ⟨⟨g1.1.1, g1.1.2.1, g1.1.2.2⟩, (SS.tr hT.2 g1.2)⟩ (hq.trans (by simp only [m_idle_lp]))
  refine j_pick (lv' := [(0, .ref (K 1)), (1, .int t), (2, .int (nI 0))]) [1, 2, 0] rfl ?_
  exact lp (sZ S (K 13)) 0 (uI S 39 (K 1) ((sI S 39 (K 1)) + t)) (by omega) ⟨⟨(WS.uI hW), (AW.uI (by decide) (by decide) hA), (WM.uI hM)⟩, SS.rf⟩ (by unfold m_idle; rfl)
theorem g_idle_lp {K : Nat → Nat} {S : PS} (hW : WS K S) (t : Int32) : ∀ (r j : Nat) (T : PS), j + r = sZ S (K 13) → GW K T ∧ SS S T → GW K (m_idle_lp K S t r j T) ∧ SS S (m_idle_lp K S t r j T)
  | 0, j, T, _, h => h
  | r + 1, j, T, hj, h => by
    have hz := h.2.z (K 13)
    have he := LSt.el h.1.1.l13 (show j < sZ T (K 13) by omega)
    have g := g_settle h.1.1 h.1.2.1 h.1.2.2 he.1 he.2 t
    simp only [m_idle_lp]
    exact g_idle_lp hW t r (j + 1) _ (by omega) ⟨g.1, SS.tr h.2 g.2⟩
theorem g_idle {K : Nat → Nat} {S : PS} (hW : WS K S) (hA : AW S) (hM : WM S) (t : Int32) : GW K (m_idle K S t) ∧ SS S (m_idle K S t) := by
  unfold m_idle
  exact g_idle_lp hW t _ _ _ (by omega) ⟨GW.uI (by decide) (by decide) ⟨hW, hA, hM⟩, SS.rf⟩
def m_turnToWind_lp (K : Nat → Nat) (S : PS) : Nat → Nat → PS → Int32 → Int32 × PS
  | 0, j, T, n => (n, T)
  | r + 1, j, T, n => if sM (m_drawIn K (m_mimic K T (K 4) (el T (K 13) j)) (K 4) (m_windBearing K S)) 14 (el T (K 13) j) = none then
      if (m_hindrance K (m_drawIn K (m_mimic K T (K 4) (el T (K 13) j)) (K 4) (m_windBearing K S)) (K 4) 0 (-1)) = 0 then
        if (sI (m_drawIn K (m_mimic K T (K 4) (el T (K 13) j)) (K 4) (m_windBearing K S)) 8 (el T (K 13) j)) = (m_windBearing K S) then
          m_turnToWind_lp K S r (j + 1) (m_drawIn K (m_drawIn K (m_mimic K T (K 4) (el T (K 13) j)) (K 4) (m_windBearing K S)) (el T (K 13) j) (m_windBearing K S)) (n + 0)
        else
          m_turnToWind_lp K S r (j + 1) (m_drawIn K (m_drawIn K (m_mimic K T (K 4) (el T (K 13) j)) (K 4) (m_windBearing K S)) (el T (K 13) j) (m_windBearing K S)) (n + 1)
      else
        m_turnToWind_lp K S r (j + 1) (m_drawIn K (m_mimic K T (K 4) (el T (K 13) j)) (K 4) (m_windBearing K S)) n
    else
      m_turnToWind_lp K S r (j + 1) (m_drawIn K (m_mimic K T (K 4) (el T (K 13) j)) (K 4) (m_windBearing K S)) n
def m_turnToWind (K : Nat → Nat) (S : PS) : Int32 × PS :=
  m_turnToWind_lp K S (sZ S (K 13)) 0 S 0
theorem cf_X5_turnToWind : CFv yX5_turnToWind RX5 cX5_turnToWind 5 (some .int) 0 := ⟨wC_X5_turnToWind, wI_X5_turnToWind, wV_X5_X5_turnToWind, wN_X5, by decide +kernel⟩
set_option maxHeartbeats 4000000 in
set_option maxRecDepth 100000 in
theorem c_turnToWind {l : Launch} {E : EV} {K : Nat → Nat} {S : PS} (hW : WS K S) (hA : AW S) (hM : WM S) : CT l yX5_turnToWind cX5_turnToWind 5 (some .int) 6 137 0 0 E [.ref (K 1)] S (pv (.int (m_turnToWind K S).1) (m_turnToWind K S).2) := by
  refine CT.of (by decide) (Nat.le_of_ble_eq_true rfl) ?_
  intro p e s m below meth c M hin
  have M : MC E p s m _ meth c cX5_turnToWind RX5 5 (some .int) := M
  show J p l e _ s m _ below meth c _ E 5 0 [(0, .ref (K 1))] [] S 0 0
  refine j_aload_n M dX5_turnToWind_0 rfl ?_
  refine j_callV1 (As := []) M cf_X5_windBearing wM_X5_210 (c_windBearing hW hA hM) hW.k1.1 (pAt_5 E _ hW.k1.2) rfl rfl ⟨Nat.le_of_ble_eq_true rfl, Nat.le_of_ble_eq_true rfl⟩ (Nat.le_of_ble_eq_true rfl) ⟨Nat.zero_le _, Nat.zero_le _⟩ dX5_turnToWind_1 rfl ?_
  refine j_istore_n (lv' := [(1, .int (m_windBearing K S)), (0, .ref (K 1))]) M dX5_turnToWind_4 rfl (by decide) rfl ?_
  refine j_iconst (v := 0) M dX5_turnToWind_5 (by decide) ?_
  refine j_istore_n (lv' := [(2, .int 0), (1, .int (m_windBearing K S)), (0, .ref (K 1))]) M dX5_turnToWind_6 rfl (by decide) rfl ?_
  refine j_iconst (v := 0) M dX5_turnToWind_7 (by decide) ?_
  refine j_istore_n (lv' := [(3, .int 0), (2, .int 0), (1, .int (m_windBearing K S)), (0, .ref (K 1))]) M dX5_turnToWind_8 rfl (by decide) rfl ?_
  have hz13 := hW.l13.2.1
  have lp : ∀ (r j : Nat) (T : PS) (n : Int32), j + r = sZ S (K 13) → GW K T ∧ SS S T → m_turnToWind K S = m_turnToWind_lp K S r j T n → J p l e { frames := 6, cells := 0, slots := 0, locals := 137 } s m ([.ref (K 1)] : List Value).toArray below meth c (MQ below (QC E (pv (.int (m_turnToWind K S).1) (m_turnToWind K S).2)) ([.ref (K 1)] : List Value).toArray s 0 0 (AE E)) E 5 9 [(0, .ref (K 1)), (1, .int (m_windBearing K S)), (2, .int n), (3, .int (nI j))] [] T 0 0 := by
    intro r
    induction r with
    | zero =>
      intro j T n hj hT hq
      have hzT := hT.2.z (K 13)
      refine j_iload_n M dX5_turnToWind_9 rfl ?_
      refine j_aload_n M dX5_turnToWind_10 rfl ?_
      refine j_get (v := .ref (K 13)) M hT.1.1.k1.1 (pAt_5 E _ hT.1.1.k1.2) rfl inU_X5 3 (by decide) wF_X5_21 (fun _ h => h) (rfv hT.1.1.r35) dX5_turnToWind_11 ?_
      refine j_callV1 (As := []) (x := .int (nI (sZ T (K 13)))) M cf_size wM_X5_68 (c_size hT.1.1.l13) hT.1.1.l13.1.1 (pAt_8 E _ hT.1.1.l13.1.2) rfl rfl ⟨Nat.le_of_ble_eq_true rfl, Nat.le_of_ble_eq_true rfl⟩ (Nat.le_of_ble_eq_true rfl) ⟨Nat.zero_le _, Nat.zero_le _⟩ dX5_turnToWind_14 rfl ?_
      refine j_icmp_ge (tgt := 100) M dX5_turnToWind_17 (by decide) (fun _ => ?_) (fun z => absurd (nI_le (by omega) (by omega)) z)
      refine j_iload_n M dX5_turnToWind_100 rfl ?_
      have hz : ((n, T) : Int32 × PS) = m_turnToWind K S := (hq.trans (by simp only [m_turnToWind_lp])).symm
      exact j_iret (v := n) M dX5_turnToWind_101 (Nat.le_refl _) (Nat.le_refl _) ⟨fst_of hz, snd_of hz⟩
    | succ r ih =>
      intro j T n hj hT hq
      have hzT := hT.2.z (K 13)
      refine j_iload_n M dX5_turnToWind_9 rfl ?_
      refine j_aload_n M dX5_turnToWind_10 rfl ?_
      refine j_get (v := .ref (K 13)) M hT.1.1.k1.1 (pAt_5 E _ hT.1.1.k1.2) rfl inU_X5 3 (by decide) wF_X5_21 (fun _ h => h) (rfv hT.1.1.r35) dX5_turnToWind_11 ?_
      refine j_callV1 (As := []) (x := .int (nI (sZ T (K 13)))) M cf_size wM_X5_68 (c_size hT.1.1.l13) hT.1.1.l13.1.1 (pAt_8 E _ hT.1.1.l13.1.2) rfl rfl ⟨Nat.le_of_ble_eq_true rfl, Nat.le_of_ble_eq_true rfl⟩ (Nat.le_of_ble_eq_true rfl) ⟨Nat.zero_le _, Nat.zero_le _⟩ dX5_turnToWind_14 rfl ?_
      refine j_icmp_ge (tgt := 100) M dX5_turnToWind_17 (by decide) (fun z => absurd z (nI_ge (by omega) (by omega))) (fun _ => ?_)
      refine j_aload_n M dX5_turnToWind_20 rfl ?_
      refine j_get (v := .ref (K 13)) M hT.1.1.k1.1 (pAt_5 E _ hT.1.1.k1.2) rfl inU_X5 3 (by decide) wF_X5_21 (fun _ h => h) (rfv hT.1.1.r35) dX5_turnToWind_21 ?_
      refine j_iload_n M dX5_turnToWind_24 rfl ?_
      refine j_callV1 (As := [.int (nI j)]) (x := .ref (el T (K 13) j)) M cf_get wM_X5_72 (c_get hT.1.1.l13 (by decide) (show j < sZ T (K 13) by omega)) hT.1.1.l13.1.1 (pAt_8 E _ hT.1.1.l13.1.2) rfl rfl ⟨Nat.le_of_ble_eq_true rfl, Nat.le_of_ble_eq_true rfl⟩ (Nat.le_of_ble_eq_true rfl) ⟨Nat.zero_le _, Nat.zero_le _⟩ dX5_turnToWind_25 rfl ?_
      refine j_cast M ((LSt.el hT.1.1.l13 (show j < sZ T (K 13) by omega)).1) (pAt_0 E _ ((LSt.el hT.1.1.l13 (show j < sZ T (K 13) by omega)).2)) rfl wL_X5_50 dX5_turnToWind_28 ?_
      refine j_astore (lv' := [(4, .ref (el T (K 13) j)), (0, .ref (K 1)), (1, .int (m_windBearing K S)), (2, .int n), (3, .int (nI j))]) M dX5_turnToWind_31 (by decide) rfl ?_
      refine j_aload_n M dX5_turnToWind_33 rfl ?_
      refine j_get (v := .ref (K 4)) M hT.1.1.k1.1 (pAt_5 E _ hT.1.1.k1.2) rfl inU_X5 6 (by decide) wF_X5_55 (fun _ h => h) (rfv hT.1.1.r38) dX5_turnToWind_34 ?_
      refine j_aload M dX5_turnToWind_37 rfl ?_
      refine j_callV0 (As := [.ref (el T (K 13) j)]) M cf_X0_mimic wM_X5_184 (c_mimic (S := T) hT.1.1 hT.1.2.1 hT.1.2.2 hT.1.1.k4.1 hT.1.1.k4.2 ((LSt.el hT.1.1.l13 (show j < sZ T (K 13) by omega)).1) ((LSt.el hT.1.1.l13 (show j < sZ T (K 13) by omega)).2)) hT.1.1.k4.1 (pAt_0 E _ hT.1.1.k4.2) rfl rfl ⟨Nat.le_of_ble_eq_true rfl, Nat.le_of_ble_eq_true rfl⟩ (Nat.le_of_ble_eq_true rfl) ⟨Nat.zero_le _, Nat.zero_le _⟩ dX5_turnToWind_39 rfl ?_
      have g1 := g_mimic (S := T) hT.1.1 hT.1.2.1 hT.1.2.2 hT.1.1.k4.1 hT.1.1.k4.2 ((LSt.el hT.1.1.l13 (show j < sZ T (K 13) by omega)).1) ((LSt.el hT.1.1.l13 (show j < sZ T (K 13) by omega)).2)
      refine j_aload_n M dX5_turnToWind_42 rfl ?_
      refine j_get (v := .ref (K 4)) M g1.1.1.k1.1 (pAt_5 E _ g1.1.1.k1.2) rfl inU_X5 6 (by decide) wF_X5_55 (fun _ h => h) (rfv g1.1.1.r38) dX5_turnToWind_43 ?_
      refine j_iload_n M dX5_turnToWind_46 rfl ?_
      refine j_callV0 (As := [.int (m_windBearing K S)]) M cf_X0_drawIn wM_X5_213 (c_drawIn (S := m_mimic K T (K 4) (el T (K 13) j)) g1.1.1 g1.1.2.1 g1.1.2.2 g1.1.1.k4.1 g1.1.1.k4.2 (m_windBearing K S)) g1.1.1.k4.1 (pAt_0 E _ g1.1.1.k4.2) rfl rfl ⟨Nat.le_of_ble_eq_true rfl, Nat.le_of_ble_eq_true rfl⟩ (Nat.le_of_ble_eq_true rfl) ⟨Nat.zero_le _, Nat.zero_le _⟩ dX5_turnToWind_47 rfl ?_
      have g2 := g_drawIn (S := m_mimic K T (K 4) (el T (K 13) j)) g1.1.1 g1.1.2.1 g1.1.2.2 g1.1.1.k4.1 g1.1.1.k4.2 (m_windBearing K S)
      refine j_aload M dX5_turnToWind_50 rfl ?_
      refine j_getN (v := va_rf (sM (m_drawIn K (m_mimic K T (K 4) (el T (K 13) j)) (K 4) (m_windBearing K S)) 14 (el T (K 13) j))) M (g2.2.inL (g1.2.inL ((LSt.el hT.1.1.l13 (show j < sZ T (K 13) by omega)).1))) (pAt_0 E _ (g2.2.inK (g1.2.inK ((LSt.el hT.1.1.l13 (show j < sZ T (K 13) by omega)).2)))) rfl inU_X0 14 (by decide) nF_X5_131 (fun _ h => h) rfl dX5_turnToWind_52 ?_
      refine j_opt (fun c1 => ?_) (fun c1s c1 => ?_)
      · refine j_ifnonnullN M dX5_turnToWind_55 ?_
        refine j_aload_n M dX5_turnToWind_58 rfl ?_
        refine j_aload_n M dX5_turnToWind_59 rfl ?_
        refine j_get (v := .ref (K 4)) M g2.1.1.k1.1 (pAt_5 E _ g2.1.1.k1.2) rfl inU_X5 6 (by decide) wF_X5_55 (fun _ h => h) (rfv g2.1.1.r38) dX5_turnToWind_60 ?_
        refine j_iconst (v := 0) M dX5_turnToWind_63 (by decide) ?_
        refine j_iconst (v := (-1)) M dX5_turnToWind_64 (by decide) ?_
        refine j_callV1 (As := [.ref (K 4), .int 0, .int (-1)]) M cf_X5_hindrance wM_X5_192 (c_hindrance (S := m_drawIn K (m_mimic K T (K 4) (el T (K 13) j)) (K 4) (m_windBearing K S)) g2.1.1 g2.1.2.1 g2.1.2.2 g2.1.1.k4.1 g2.1.1.k4.2 0 (-1)) g2.1.1.k1.1 (pAt_5 E _ g2.1.1.k1.2) rfl rfl ⟨Nat.le_of_ble_eq_true rfl, Nat.le_of_ble_eq_true rfl⟩ (Nat.le_of_ble_eq_true rfl) ⟨Nat.zero_le _, Nat.zero_le _⟩ dX5_turnToWind_65 rfl ?_
        refine j_if_ne (tgt := 94) M dX5_turnToWind_68 (by decide) (fun c2 => ?_) (fun c2 => ?_)
        · refine j_iinc (v := (nI (j + 1))) (lv' := [(3, .int (nI (j + 1))), (4, .ref (el T (K 13) j)), (0, .ref (K 1)), (1, .int (m_windBearing K S)), (2, .int n)]) M dX5_turnToWind_94 rfl (nI_1 _) (by decide) rfl ?_
          refine j_goto (tgt := 9) M dX5_turnToWind_97 (by decide) ?_
          refine j_pick [2, 3, 4, 0] rfl ?_
          exact ih (j + 1) (m_drawIn K (m_mimic K T (K 4) (el T (K 13) j)) (K 4) (m_windBearing K S)) n (by omega) ⟨⟨g2.1.1, g2.1.2.1, g2.1.2.2⟩, (SS.tr (SS.tr hT.2 g1.2) g2.2)⟩ (hq.trans (by simp only [m_turnToWind_lp, if_pos c1, if_neg c2]))
        · refine j_iload_n M dX5_turnToWind_71 rfl ?_
          refine j_aload M dX5_turnToWind_72 rfl ?_
          refine j_getN (v := .int (sI (m_drawIn K (m_mimic K T (K 4) (el T (K 13) j)) (K 4) (m_windBearing K S)) 8 (el T (K 13) j))) M (g2.2.inL (g1.2.inL ((LSt.el hT.1.1.l13 (show j < sZ T (K 13) by omega)).1))) (pAt_0 E _ (g2.2.inK (g1.2.inK ((LSt.el hT.1.1.l13 (show j < sZ T (K 13) by omega)).2)))) rfl inU_X0 8 (by decide) nF_X5_216 (fun _ h => h) rfl dX5_turnToWind_74 ?_
          refine j_iload_n M dX5_turnToWind_77 rfl ?_
          refine j_icmp_ne (tgt := 85) M dX5_turnToWind_78 (by decide) (fun c3 => ?_) (fun c3 => ?_)
          · refine j_iconst (v := 1) M dX5_turnToWind_85 (by decide) ?_
            refine j_iadd M dX5_turnToWind_86 ?_
            refine j_istore_n (lv' := [(2, .int (n + 1)), (4, .ref (el T (K 13) j)), (0, .ref (K 1)), (1, .int (m_windBearing K S)), (3, .int (nI j))]) M dX5_turnToWind_87 rfl (by decide) rfl ?_
            refine j_aload M dX5_turnToWind_88 rfl ?_
            refine j_iload_n M dX5_turnToWind_90 rfl ?_
            refine j_callV0 (As := [.int (m_windBearing K S)]) M cf_X0_drawIn wM_X5_213 (c_drawIn (S := m_drawIn K (m_mimic K T (K 4) (el T (K 13) j)) (K 4) (m_windBearing K S)) g2.1.1 g2.1.2.1 g2.1.2.2 (g2.2.inL (g1.2.inL ((LSt.el hT.1.1.l13 (show j < sZ T (K 13) by omega)).1))) (g2.2.inK (g1.2.inK ((LSt.el hT.1.1.l13 (show j < sZ T (K 13) by omega)).2))) (m_windBearing K S)) (g2.2.inL (g1.2.inL ((LSt.el hT.1.1.l13 (show j < sZ T (K 13) by omega)).1))) (pAt_0 E _ (g2.2.inK (g1.2.inK ((LSt.el hT.1.1.l13 (show j < sZ T (K 13) by omega)).2)))) rfl rfl ⟨Nat.le_of_ble_eq_true rfl, Nat.le_of_ble_eq_true rfl⟩ (Nat.le_of_ble_eq_true rfl) ⟨Nat.zero_le _, Nat.zero_le _⟩ dX5_turnToWind_91 rfl ?_
            have g3 := g_drawIn (S := m_drawIn K (m_mimic K T (K 4) (el T (K 13) j)) (K 4) (m_windBearing K S)) g2.1.1 g2.1.2.1 g2.1.2.2 (g2.2.inL (g1.2.inL ((LSt.el hT.1.1.l13 (show j < sZ T (K 13) by omega)).1))) (g2.2.inK (g1.2.inK ((LSt.el hT.1.1.l13 (show j < sZ T (K 13) by omega)).2))) (m_windBearing K S)
            refine j_iinc (v := (nI (j + 1))) (lv' := [(3, .int (nI (j + 1))), (2, .int (n + 1)), (4, .ref (el T (K 13) j)), (0, .ref (K 1)), (1, .int (m_windBearing K S))]) M dX5_turnToWind_94 rfl (nI_1 _) (by decide) rfl ?_
            refine j_goto (tgt := 9) M dX5_turnToWind_97 (by decide) ?_
            refine j_pick [3, 4, 1, 0] rfl ?_
            exact ih (j + 1) (m_drawIn K (m_drawIn K (m_mimic K T (K 4) (el T (K 13) j)) (K 4) (m_windBearing K S)) (el T (K 13) j) (m_windBearing K S)) (n + 1) (by omega) ⟨⟨g3.1.1, g3.1.2.1, g3.1.2.2⟩, (SS.tr (SS.tr (SS.tr hT.2 g1.2) g2.2) g3.2)⟩ (hq.trans (by simp only [m_turnToWind_lp, if_pos c1, if_pos c2, if_neg c3]))
          · refine j_iconst (v := 0) M dX5_turnToWind_81 (by decide) ?_
            refine j_goto (tgt := 86) M dX5_turnToWind_82 (by decide) ?_
            refine j_iadd M dX5_turnToWind_86 ?_
            refine j_istore_n (lv' := [(2, .int (n + 0)), (4, .ref (el T (K 13) j)), (0, .ref (K 1)), (1, .int (m_windBearing K S)), (3, .int (nI j))]) M dX5_turnToWind_87 rfl (by decide) rfl ?_
            refine j_aload M dX5_turnToWind_88 rfl ?_
            refine j_iload_n M dX5_turnToWind_90 rfl ?_
            refine j_callV0 (As := [.int (m_windBearing K S)]) M cf_X0_drawIn wM_X5_213 (c_drawIn (S := m_drawIn K (m_mimic K T (K 4) (el T (K 13) j)) (K 4) (m_windBearing K S)) g2.1.1 g2.1.2.1 g2.1.2.2 (g2.2.inL (g1.2.inL ((LSt.el hT.1.1.l13 (show j < sZ T (K 13) by omega)).1))) (g2.2.inK (g1.2.inK ((LSt.el hT.1.1.l13 (show j < sZ T (K 13) by omega)).2))) (m_windBearing K S)) (g2.2.inL (g1.2.inL ((LSt.el hT.1.1.l13 (show j < sZ T (K 13) by omega)).1))) (pAt_0 E _ (g2.2.inK (g1.2.inK ((LSt.el hT.1.1.l13 (show j < sZ T (K 13) by omega)).2)))) rfl rfl ⟨Nat.le_of_ble_eq_true rfl, Nat.le_of_ble_eq_true rfl⟩ (Nat.le_of_ble_eq_true rfl) ⟨Nat.zero_le _, Nat.zero_le _⟩ dX5_turnToWind_91 rfl ?_
            have g4 := g_drawIn (S := m_drawIn K (m_mimic K T (K 4) (el T (K 13) j)) (K 4) (m_windBearing K S)) g2.1.1 g2.1.2.1 g2.1.2.2 (g2.2.inL (g1.2.inL ((LSt.el hT.1.1.l13 (show j < sZ T (K 13) by omega)).1))) (g2.2.inK (g1.2.inK ((LSt.el hT.1.1.l13 (show j < sZ T (K 13) by omega)).2))) (m_windBearing K S)
            refine j_iinc (v := (nI (j + 1))) (lv' := [(3, .int (nI (j + 1))), (2, .int (n + 0)), (4, .ref (el T (K 13) j)), (0, .ref (K 1)), (1, .int (m_windBearing K S))]) M dX5_turnToWind_94 rfl (nI_1 _) (by decide) rfl ?_
            refine j_goto (tgt := 9) M dX5_turnToWind_97 (by decide) ?_
            refine j_pick [3, 4, 1, 0] rfl ?_
            exact ih (j + 1) (m_drawIn K (m_drawIn K (m_mimic K T (K 4) (el T (K 13) j)) (K 4) (m_windBearing K S)) (el T (K 13) j) (m_windBearing K S)) (n + 0) (by omega) ⟨⟨g4.1.1, g4.1.2.1, g4.1.2.2⟩, (SS.tr (SS.tr (SS.tr hT.2 g1.2) g2.2) g4.2)⟩ (hq.trans (by simp only [m_turnToWind_lp, if_pos c1, if_pos c2, if_pos c3]))
      · refine j_ifnonnull (tgt := 94) M dX5_turnToWind_55 (by decide) ?_
        refine j_iinc (v := (nI (j + 1))) (lv' := [(3, .int (nI (j + 1))), (4, .ref (el T (K 13) j)), (0, .ref (K 1)), (1, .int (m_windBearing K S)), (2, .int n)]) M dX5_turnToWind_94 rfl (nI_1 _) (by decide) rfl ?_
        refine j_goto (tgt := 9) M dX5_turnToWind_97 (by decide) ?_
        refine j_pick [2, 3, 4, 0] rfl ?_
        exact ih (j + 1) (m_drawIn K (m_mimic K T (K 4) (el T (K 13) j)) (K 4) (m_windBearing K S)) n (by omega) ⟨⟨g2.1.1, g2.1.2.1, g2.1.2.2⟩, (SS.tr (SS.tr hT.2 g1.2) g2.2)⟩ (hq.trans (by simp only [m_turnToWind_lp, if_neg c1]))
  refine j_pick (lv' := [(0, .ref (K 1)), (1, .int (m_windBearing K S)), (2, .int 0), (3, .int (nI 0))]) [3, 2, 1, 0] rfl ?_
  exact lp (sZ S (K 13)) 0 S 0 (by omega) ⟨⟨hW, hA, hM⟩, SS.rf⟩ (by unfold m_turnToWind; rfl)
def m_nextToGo_lp (K : Nat → Nat) (S : PS) (x : Int32) : Nat → Nat → Int32
  | 0, j => (-1)
  | r + 1, j => if ((x >>> ((nI j) &&& 31)) &&& 1) = 1 then
      if ((sA S (K 9) (nI j).toNatClampNeg) &&& x) = 0 then
        m_nextToGo_lp K S x r (j + 1)
      else
        nI j
    else
      m_nextToGo_lp K S x r (j + 1)
def m_nextToGo (K : Nat → Nat) (S : PS) (x : Int32) : Int32 :=
  m_nextToGo_lp K S x 4 0
theorem cf_X3_nextToGo : CFv yX3_nextToGo RX3 cX3_nextToGo 3 (some .int) 1 := ⟨wC_X3_nextToGo, wI_X3_nextToGo, wV_X3_X3_nextToGo, wN_X3, by decide +kernel⟩
set_option maxHeartbeats 4000000 in
set_option maxRecDepth 100000 in
theorem c_nextToGo {l : Launch} {E : EV} {K : Nat → Nat} {S : PS} (hW : WS K S) (hA : AW S) (hM : WM S) (x : Int32) : CT l yX3_nextToGo cX3_nextToGo 3 (some .int) 0 0 0 0 E [.ref (K 3), .int x] S (pv (.int (m_nextToGo K S x)) S) := by
  refine CT.of (by decide) (Nat.le_of_ble_eq_true rfl) ?_
  intro p e s m below meth c M hin
  have M : MC E p s m _ meth c cX3_nextToGo RX3 3 (some .int) := M
  show J p l e _ s m _ below meth c _ E 3 0 [(0, .ref (K 3)), (1, .int x)] [] S 0 0
  refine j_iconst (v := 0) M dX3_nextToGo_0 (by decide) ?_
  refine j_istore_n (lv' := [(2, .int 0), (0, .ref (K 3)), (1, .int x)]) M dX3_nextToGo_1 rfl (by decide) rfl ?_
  have hn9 := hW.n9
  have lp : ∀ (r j : Nat), j + r = 4 → m_nextToGo K S x = m_nextToGo_lp K S x r j → J p l e { frames := 0, cells := 0, slots := 0, locals := 0 } s m ([.ref (K 3), .int x] : List Value).toArray below meth c (MQ below (QC E (pv (.int (m_nextToGo K S x)) S)) ([.ref (K 3), .int x] : List Value).toArray s 0 0 (AE E)) E 3 2 [(0, .ref (K 3)), (1, .int x), (2, .int (nI j))] [] S 0 0 := by
    intro r
    induction r with
    | zero =>
      intro j hj hq
      refine j_iload_n M dX3_nextToGo_2 rfl ?_
      refine j_aload_n M dX3_nextToGo_3 rfl ?_
      refine j_get (v := .ref (K 9)) M hW.k3.1 (pAt_3 E _ hW.k3.2) rfl inU_X3 4 (by decide) wF_X3_18 (fun _ h => h) (rfv hW.r27) dX3_nextToGo_4 ?_
      refine j_alen M hW.k9.1 hW.k9.2 dX3_nextToGo_7 ?_
      refine j_icmp_ge (tgt := 39) M dX3_nextToGo_8 (by decide) (fun _ => ?_) (fun z => absurd (nI_le (by omega) (by omega)) z)
      refine j_iconst (v := (-1)) M dX3_nextToGo_39 (by decide) ?_
      exact j_iret (v := (-1)) M dX3_nextToGo_40 (Nat.le_refl _) (Nat.le_refl _) ⟨congrArg (fun z => some (Value.int z)) (show (-1) = m_nextToGo K S x from (hq.trans (by simp only [m_nextToGo_lp])).symm), rfl⟩
    | succ r ih =>
      intro j hj hq
      refine j_iload_n M dX3_nextToGo_2 rfl ?_
      refine j_aload_n M dX3_nextToGo_3 rfl ?_
      refine j_get (v := .ref (K 9)) M hW.k3.1 (pAt_3 E _ hW.k3.2) rfl inU_X3 4 (by decide) wF_X3_18 (fun _ h => h) (rfv hW.r27) dX3_nextToGo_4 ?_
      refine j_alen M hW.k9.1 hW.k9.2 dX3_nextToGo_7 ?_
      refine j_icmp_ge (tgt := 39) M dX3_nextToGo_8 (by decide) (fun z => absurd z (nI_ge (by omega) (by omega))) (fun _ => ?_)
      refine j_iload_n M dX3_nextToGo_11 rfl ?_
      refine j_iload_n M dX3_nextToGo_12 rfl ?_
      refine j_ishr M dX3_nextToGo_13 ?_
      refine j_iconst (v := 1) M dX3_nextToGo_14 (by decide) ?_
      refine j_iand M dX3_nextToGo_15 ?_
      refine j_iconst (v := 1) M dX3_nextToGo_16 (by decide) ?_
      refine j_icmp_ne (tgt := 33) M dX3_nextToGo_17 (by decide) (fun c1 => ?_) (fun c1 => ?_)
      · refine j_iinc (v := (nI (j + 1))) (lv' := [(2, .int (nI (j + 1))), (0, .ref (K 3)), (1, .int x)]) M dX3_nextToGo_33 rfl (nI_1 _) (by decide) rfl ?_
        refine j_goto (tgt := 2) M dX3_nextToGo_36 (by decide) ?_
        refine j_pick [1, 2, 0] rfl ?_
        exact ih (j + 1) (by omega) (hq.trans (by simp only [m_nextToGo_lp, if_neg c1]))
      · refine j_aload_n M dX3_nextToGo_20 rfl ?_
        refine j_get (v := .ref (K 9)) M hW.k3.1 (pAt_3 E _ hW.k3.2) rfl inU_X3 4 (by decide) wF_X3_18 (fun _ h => h) (rfv hW.r27) dX3_nextToGo_21 ?_
        refine j_iload_n M dX3_nextToGo_24 rfl ?_
        refine j_iald M hW.k9.1 hW.k9.2 (by rw [hn9]; exact vp_in_nI (by omega) (by omega)) dX3_nextToGo_25 ?_
        refine j_iload_n M dX3_nextToGo_26 rfl ?_
        refine j_iand M dX3_nextToGo_27 ?_
        refine j_if_eq (tgt := 33) M dX3_nextToGo_28 (by decide) (fun c2 => ?_) (fun c2 => ?_)
        · refine j_iinc (v := (nI (j + 1))) (lv' := [(2, .int (nI (j + 1))), (0, .ref (K 3)), (1, .int x)]) M dX3_nextToGo_33 rfl (nI_1 _) (by decide) rfl ?_
          refine j_goto (tgt := 2) M dX3_nextToGo_36 (by decide) ?_
          refine j_pick [1, 2, 0] rfl ?_
          exact ih (j + 1) (by omega) (hq.trans (by simp only [m_nextToGo_lp, if_pos c1, if_pos c2]))
        · refine j_iload_n M dX3_nextToGo_31 rfl ?_
          exact j_iret (v := (nI j)) M dX3_nextToGo_32 (Nat.le_refl _) (Nat.le_refl _) ⟨congrArg (fun z => some (Value.int z)) (show (nI j) = m_nextToGo K S x from (hq.trans (by simp only [m_nextToGo_lp, if_pos c1, if_neg c2])).symm), rfl⟩
  refine j_pick (lv' := [(0, .ref (K 3)), (1, .int x), (2, .int (nI 0))]) [1, 2, 0] rfl ?_
  exact lp 4 0 (by omega) (by unfold m_nextToGo; rfl)
def m_leaverAt (K : Nat → Nat) (S : PS) (x : Int32) : Int32 :=
  if x < 0 then
    (-1)
  else
    if (nI (sN S (K 10))) ≤ x then
      (-1)
    else
      sA S (K 10) x.toNatClampNeg
theorem cf_X3_leaverAt : CFv yX3_leaverAt RX3 cX3_leaverAt 2 (some .int) 1 := ⟨wC_X3_leaverAt, wI_X3_leaverAt, wV_X3_X3_leaverAt, wN_X3, by decide +kernel⟩
set_option maxHeartbeats 4000000 in
set_option maxRecDepth 100000 in
theorem c_leaverAt {l : Launch} {E : EV} {K : Nat → Nat} {S : PS} (hW : WS K S) (hA : AW S) (hM : WM S) (x : Int32) : CT l yX3_leaverAt cX3_leaverAt 2 (some .int) 0 0 0 0 E [.ref (K 3), .int x] S (pv (.int (m_leaverAt K S x)) S) := by
  refine CT.of (by decide) (Nat.le_of_ble_eq_true rfl) ?_
  intro p e s m below meth c M hin
  have M : MC E p s m _ meth c cX3_leaverAt RX3 2 (some .int) := M
  show J p l e _ s m _ below meth c _ E 2 0 [(0, .ref (K 3)), (1, .int x)] [] S 0 0
  refine j_iload_n M dX3_leaverAt_0 rfl ?_
  refine j_if_lt (tgt := 22) M dX3_leaverAt_1 (by decide) (fun c1 => ?_) (fun c1 => ?_)
  · refine j_iconst (v := (-1)) M dX3_leaverAt_22 (by decide) ?_
    exact j_iret (v := (-1)) M dX3_leaverAt_23 (Nat.le_refl _) (Nat.le_refl _) ⟨congrArg (fun z => some (Value.int z)) (show (-1) = m_leaverAt K S x from (by unfold m_leaverAt; rw [if_pos c1])), rfl⟩
  · refine j_iload_n M dX3_leaverAt_4 rfl ?_
    refine j_aload_n M dX3_leaverAt_5 rfl ?_
    refine j_get (v := .ref (K 10)) M hW.k3.1 (pAt_3 E _ hW.k3.2) rfl inU_X3 5 (by decide) wF_X3_21 (fun _ h => h) (rfv hW.r28) dX3_leaverAt_6 ?_
    refine j_alen M hW.k10.1 hW.k10.2 dX3_leaverAt_9 ?_
    refine j_icmp_ge (tgt := 22) M dX3_leaverAt_10 (by decide) (fun c2 => ?_) (fun c2 => ?_)
    · refine j_iconst (v := (-1)) M dX3_leaverAt_22 (by decide) ?_
      exact j_iret (v := (-1)) M dX3_leaverAt_23 (Nat.le_refl _) (Nat.le_refl _) ⟨congrArg (fun z => some (Value.int z)) (show (-1) = m_leaverAt K S x from (by unfold m_leaverAt; rw [if_neg c1, if_pos c2])), rfl⟩
    · refine j_aload_n M dX3_leaverAt_13 rfl ?_
      refine j_get (v := .ref (K 10)) M hW.k3.1 (pAt_3 E _ hW.k3.2) rfl inU_X3 5 (by decide) wF_X3_21 (fun _ h => h) (rfv hW.r28) dX3_leaverAt_14 ?_
      refine j_iload_n M dX3_leaverAt_17 rfl ?_
      refine j_iald M hW.k10.1 hW.k10.2 (vp_of (by rw [hW.n10]; decide) c1 c2) dX3_leaverAt_18 ?_
      refine j_goto (tgt := 23) M dX3_leaverAt_19 (by decide) ?_
      exact j_iret (v := (sA S (K 10) x.toNatClampNeg)) M dX3_leaverAt_23 (Nat.le_refl _) (Nat.le_refl _) ⟨congrArg (fun z => some (Value.int z)) (show (sA S (K 10) x.toNatClampNeg) = m_leaverAt K S x from (by unfold m_leaverAt; rw [if_neg c1, if_neg c2])), rfl⟩
def m_stepsTo (K : Nat → Nat) (S : PS) (x : Int32) : Int32 :=
  if x < 0 then
    (-1)
  else
    if (nI (sN S (K 7))) ≤ x then
      (-1)
    else
      if (sA S (K 7) x.toNatClampNeg) < 0 then
        (-1)
      else
        sA S (K 7) x.toNatClampNeg
theorem cf_X3_stepsTo : CFv yX3_stepsTo RX3 cX3_stepsTo 3 (some .int) 1 := ⟨wC_X3_stepsTo, wI_X3_stepsTo, wV_X3_X3_stepsTo, wN_X3, by decide +kernel⟩
set_option maxHeartbeats 4000000 in
set_option maxRecDepth 100000 in
theorem c_stepsTo {l : Launch} {E : EV} {K : Nat → Nat} {S : PS} (hW : WS K S) (hA : AW S) (hM : WM S) (x : Int32) : CT l yX3_stepsTo cX3_stepsTo 3 (some .int) 0 0 0 0 E [.ref (K 3), .int x] S (pv (.int (m_stepsTo K S x)) S) := by
  refine CT.of (by decide) (Nat.le_of_ble_eq_true rfl) ?_
  intro p e s m below meth c M hin
  have M : MC E p s m _ meth c cX3_stepsTo RX3 3 (some .int) := M
  show J p l e _ s m _ below meth c _ E 3 0 [(0, .ref (K 3)), (1, .int x)] [] S 0 0
  refine j_iload_n M dX3_stepsTo_0 rfl ?_
  refine j_if_lt (tgt := 26) M dX3_stepsTo_1 (by decide) (fun c1 => ?_) (fun c1 => ?_)
  · refine j_iconst (v := 0) M dX3_stepsTo_26 (by decide) ?_
    refine j_istore_n (lv' := [(2, .int 0), (0, .ref (K 3)), (1, .int x)]) M dX3_stepsTo_27 rfl (by decide) rfl ?_
    refine j_iload_n M dX3_stepsTo_28 rfl ?_
    refine j_if_eq (tgt := 41) M dX3_stepsTo_29 (by decide) (fun _ => ?_) (fun z => absurd (by decide) z)
    refine j_iconst (v := (-1)) M dX3_stepsTo_41 (by decide) ?_
    exact j_iret (v := (-1)) M dX3_stepsTo_42 (Nat.le_refl _) (Nat.le_refl _) ⟨congrArg (fun z => some (Value.int z)) (show (-1) = m_stepsTo K S x from (by unfold m_stepsTo; rw [if_pos c1])), rfl⟩
  · refine j_iload_n M dX3_stepsTo_4 rfl ?_
    refine j_aload_n M dX3_stepsTo_5 rfl ?_
    refine j_get (v := .ref (K 7)) M hW.k3.1 (pAt_3 E _ hW.k3.2) rfl inU_X3 2 (by decide) wF_X3_9 (fun _ h => h) (rfv hW.r25) dX3_stepsTo_6 ?_
    refine j_alen M hW.k7.1 hW.k7.2 dX3_stepsTo_9 ?_
    refine j_icmp_ge (tgt := 26) M dX3_stepsTo_10 (by decide) (fun c2 => ?_) (fun c2 => ?_)
    · refine j_iconst (v := 0) M dX3_stepsTo_26 (by decide) ?_
      refine j_istore_n (lv' := [(2, .int 0), (0, .ref (K 3)), (1, .int x)]) M dX3_stepsTo_27 rfl (by decide) rfl ?_
      refine j_iload_n M dX3_stepsTo_28 rfl ?_
      refine j_if_eq (tgt := 41) M dX3_stepsTo_29 (by decide) (fun _ => ?_) (fun z => absurd (by decide) z)
      refine j_iconst (v := (-1)) M dX3_stepsTo_41 (by decide) ?_
      exact j_iret (v := (-1)) M dX3_stepsTo_42 (Nat.le_refl _) (Nat.le_refl _) ⟨congrArg (fun z => some (Value.int z)) (show (-1) = m_stepsTo K S x from (by unfold m_stepsTo; rw [if_neg c1, if_pos c2])), rfl⟩
    · refine j_aload_n M dX3_stepsTo_13 rfl ?_
      refine j_get (v := .ref (K 7)) M hW.k3.1 (pAt_3 E _ hW.k3.2) rfl inU_X3 2 (by decide) wF_X3_9 (fun _ h => h) (rfv hW.r25) dX3_stepsTo_14 ?_
      refine j_iload_n M dX3_stepsTo_17 rfl ?_
      refine j_iald M hW.k7.1 hW.k7.2 (vp_of (by rw [hW.n7]; decide) c1 c2) dX3_stepsTo_18 ?_
      refine j_if_lt (tgt := 26) M dX3_stepsTo_19 (by decide) (fun c3 => ?_) (fun c3 => ?_)
      · refine j_iconst (v := 0) M dX3_stepsTo_26 (by decide) ?_
        refine j_istore_n (lv' := [(2, .int 0), (0, .ref (K 3)), (1, .int x)]) M dX3_stepsTo_27 rfl (by decide) rfl ?_
        refine j_iload_n M dX3_stepsTo_28 rfl ?_
        refine j_if_eq (tgt := 41) M dX3_stepsTo_29 (by decide) (fun _ => ?_) (fun z => absurd (by decide) z)
        refine j_iconst (v := (-1)) M dX3_stepsTo_41 (by decide) ?_
        exact j_iret (v := (-1)) M dX3_stepsTo_42 (Nat.le_refl _) (Nat.le_refl _) ⟨congrArg (fun z => some (Value.int z)) (show (-1) = m_stepsTo K S x from (by unfold m_stepsTo; rw [if_neg c1, if_neg c2, if_pos c3])), rfl⟩
      · refine j_iconst (v := 1) M dX3_stepsTo_22 (by decide) ?_
        refine j_goto (tgt := 27) M dX3_stepsTo_23 (by decide) ?_
        refine j_istore_n (lv' := [(2, .int 1), (0, .ref (K 3)), (1, .int x)]) M dX3_stepsTo_27 rfl (by decide) rfl ?_
        refine j_iload_n M dX3_stepsTo_28 rfl ?_
        refine j_if_eq (tgt := 41) M dX3_stepsTo_29 (by decide) (fun z => absurd z (by decide)) (fun _ => ?_)
        refine j_aload_n M dX3_stepsTo_32 rfl ?_
        refine j_get (v := .ref (K 7)) M hW.k3.1 (pAt_3 E _ hW.k3.2) rfl inU_X3 2 (by decide) wF_X3_9 (fun _ h => h) (rfv hW.r25) dX3_stepsTo_33 ?_
        refine j_iload_n M dX3_stepsTo_36 rfl ?_
        refine j_iald M hW.k7.1 hW.k7.2 (vp_of (by rw [hW.n7]; decide) c1 c2) dX3_stepsTo_37 ?_
        refine j_goto (tgt := 42) M dX3_stepsTo_38 (by decide) ?_
        exact j_iret (v := (sA S (K 7) x.toNatClampNeg)) M dX3_stepsTo_42 (Nat.le_refl _) (Nat.le_refl _) ⟨congrArg (fun z => some (Value.int z)) (show (sA S (K 7) x.toNatClampNeg) = m_stepsTo K S x from (by unfold m_stepsTo; rw [if_neg c1, if_neg c2, if_neg c3])), rfl⟩
