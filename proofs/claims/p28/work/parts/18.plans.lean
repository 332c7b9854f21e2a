def m_swings_lp (K : Nat → Nat) (S : PS) (a : Nat) (x : Int32) : Nat → Nat → PS → Int32 × PS
  | 0, j, T => (7, T)
  | r + 1, j, T => if (m_hindrance K (m_move K T (K 4) x) (K 4) 1 (m_clashesOf K S a)) = 0 then
      m_swings_lp K S a x r (j + 1) (m_move K T (K 4) x)
    else
      (nI j, m_move K T (K 4) x)
def m_swings (K : Nat → Nat) (S : PS) (a : Nat) (x : Int32) : Int32 × PS :=
  m_swings_lp K S a x 7 0 (m_mimic K S (K 4) a)
theorem cf_X3_swings : CFv yX3_swings RX3 cX3_swings 5 (some .int) 2 := ⟨wC_X3_swings, wI_X3_swings, wV_X3_X3_swings, wN_X3, by decide +kernel⟩
set_option maxHeartbeats 4000000 in
set_option maxRecDepth 100000 in
theorem c_swings {l : Launch} {E : EV} {K : Nat → Nat} {S : PS} (hW : WS K S) (hA : AW S) (hM : WM S) {a : Nat} (haL : a ∈ sL S) (haK : sK S a = 0) (x : Int32) : CT l yX3_swings cX3_swings 5 (some .int) 6 137 0 0 E [.ref (K 3), .ref a, .int x] S (pv (.int (m_swings K S a x).1) (m_swings K S a x).2) := by
  refine CT.of (by decide) (Nat.le_of_ble_eq_true rfl) ?_
  intro p e s m below meth c M hin
  have M : MC E p s m _ meth c cX3_swings RX3 5 (some .int) := M
  show J p l e _ s m _ below meth c _ E 5 0 [(0, .ref (K 3)), (1, .ref a), (2, .int x)] [] S 0 0
  refine j_aload_n M dX3_swings_0 rfl ?_
  refine j_get (v := .ref (K 1)) M hW.k3.1 (pAt_3 E _ hW.k3.2) rfl inU_X3 0 (by decide) wF_X3_24 (fun _ h => h) (rfv hW.r23) dX3_swings_1 ?_
  refine j_aload_n M dX3_swings_4 rfl ?_
  refine j_callV1 (As := [.ref a]) M cf_X5_clashesOf wM_X3_47 (c_clashesOf hW hA hM haL haK) hW.k1.1 (pAt_5 E _ hW.k1.2) rfl rfl ⟨Nat.le_of_ble_eq_true rfl, Nat.le_of_ble_eq_true rfl⟩ (Nat.le_of_ble_eq_true rfl) ⟨Nat.zero_le _, Nat.zero_le _⟩ dX3_swings_5 rfl ?_
  refine j_istore_n (lv' := [(3, .int (m_clashesOf K S a)), (0, .ref (K 3)), (1, .ref a), (2, .int x)]) M dX3_swings_8 rfl (by decide) rfl ?_
  refine j_aload_n M dX3_swings_9 rfl ?_
  refine j_get (v := .ref (K 4)) M hW.k3.1 (pAt_3 E _ hW.k3.2) rfl inU_X3 1 (by decide) wF_X3_34 (fun _ h => h) (rfv hW.r24) dX3_swings_10 ?_
  refine j_aload_n M dX3_swings_13 rfl ?_
  refine j_callV0 (As := [.ref a]) M cf_X0_mimic wM_X3_51 (c_mimic hW hA hM hW.k4.1 hW.k4.2 haL haK) hW.k4.1 (pAt_0 E _ hW.k4.2) rfl rfl ⟨Nat.le_of_ble_eq_true rfl, Nat.le_of_ble_eq_true rfl⟩ (Nat.le_of_ble_eq_true rfl) ⟨Nat.zero_le _, Nat.zero_le _⟩ dX3_swings_14 rfl ?_
  have g1 := g_mimic hW hA hM hW.k4.1 hW.k4.2 haL haK
  refine j_iconst (v := 0) M dX3_swings_17 (by decide) ?_
  refine j_istore (lv' := [(4, .int 0), (3, .int (m_clashesOf K S a)), (0, .ref (K 3)), (1, .ref a), (2, .int x)]) M dX3_swings_18 (by decide) rfl ?_
  have lp : ∀ (r j : Nat) (T : PS), j + r = 7 → GW K T ∧ SS S T → m_swings K S a x = m_swings_lp K S a x r j T → J p l e { frames := 6, cells := 0, slots := 0, locals := 137 } s m ([.ref (K 3), .ref a, .int x] : List Value).toArray below meth c (MQ below (QC E (pv (.int (m_swings K S a x).1) (m_swings K S a x).2)) ([.ref (K 3), .ref a, .int x] : List Value).toArray s 0 0 (AE E)) E 5 20 [(0, .ref (K 3)), (1, .ref a), (2, .int x), (3, .int (m_clashesOf K S a)), (4, .int (nI j))] [] T 0 0 := by
    intro r
    induction r with
    | zero =>
      intro j T hj hT hq
      refine j_iload M dX3_swings_20 rfl ?_
      refine j_bipush (v := 7) M dX3_swings_22 (by decide) ?_
      refine j_icmp_ge (tgt := 60) M dX3_swings_24 (by decide) (fun _ => ?_) (fun z => absurd (show nI 7 ≤ nI j from nI_le (by omega) (by omega)) z)
      refine j_bipush (v := 7) M dX3_swings_60 (by decide) ?_
      have hz : ((7, T) : Int32 × PS) = m_swings K S a x := (hq.trans (by simp only [m_swings_lp])).symm
      exact j_iret (v := 7) M dX3_swings_62 (Nat.le_refl _) (Nat.le_refl _) ⟨fst_of hz, snd_of hz⟩
    | succ r ih =>
      intro j T hj hT hq
      refine j_iload M dX3_swings_20 rfl ?_
      refine j_bipush (v := 7) M dX3_swings_22 (by decide) ?_
      refine j_icmp_ge (tgt := 60) M dX3_swings_24 (by decide) (fun z => absurd z (show ¬ nI 7 ≤ nI j from nI_ge (by omega) (by omega))) (fun _ => ?_)
      refine j_aload_n M dX3_swings_27 rfl ?_
      refine j_get (v := .ref (K 4)) M hT.1.1.k3.1 (pAt_3 E _ hT.1.1.k3.2) rfl inU_X3 1 (by decide) wF_X3_34 (fun _ h => h) (rfv hT.1.1.r24) dX3_swings_28 ?_
      refine j_iload_n M dX3_swings_31 rfl ?_
      refine j_callV0 (As := [.int x]) M cf_X0_move wM_X3_62 (c_move (S := T) hT.1.1 hT.1.2.1 hT.1.2.2 hT.1.1.k4.1 hT.1.1.k4.2 x) hT.1.1.k4.1 (pAt_0 E _ hT.1.1.k4.2) rfl rfl ⟨Nat.le_of_ble_eq_true rfl, Nat.le_of_ble_eq_true rfl⟩ (Nat.le_of_ble_eq_true rfl) ⟨Nat.zero_le _, Nat.zero_le _⟩ dX3_swings_32 rfl ?_
      have g2 := g_move (S := T) hT.1.1 hT.1.2.1 hT.1.2.2 hT.1.1.k4.1 hT.1.1.k4.2 x
      refine j_aload_n M dX3_swings_35 rfl ?_
      refine j_get (v := .ref (K 1)) M g2.1.1.k3.1 (pAt_3 E _ g2.1.1.k3.2) rfl inU_X3 0 (by decide) wF_X3_24 (fun _ h => h) (rfv g2.1.1.r23) dX3_swings_36 ?_
      refine j_aload_n M dX3_swings_39 rfl ?_
      refine j_get (v := .ref (K 4)) M g2.1.1.k3.1 (pAt_3 E _ g2.1.1.k3.2) rfl inU_X3 1 (by decide) wF_X3_34 (fun _ h => h) (rfv g2.1.1.r24) dX3_swings_40 ?_
      refine j_iconst (v := 1) M dX3_swings_43 (by decide) ?_
      refine j_iload_n M dX3_swings_44 rfl ?_
      refine j_callV1 (As := [.ref (K 4), .int 1, .int (m_clashesOf K S a)]) M cf_X5_hindrance wM_X3_65 (c_hindrance (S := m_move K T (K 4) x) g2.1.1 g2.1.2.1 g2.1.2.2 g2.1.1.k4.1 g2.1.1.k4.2 1 (m_clashesOf K S a)) g2.1.1.k1.1 (pAt_5 E _ g2.1.1.k1.2) rfl rfl ⟨Nat.le_of_ble_eq_true rfl, Nat.le_of_ble_eq_true rfl⟩ (Nat.le_of_ble_eq_true rfl) ⟨Nat.zero_le _, Nat.zero_le _⟩ dX3_swings_45 rfl ?_
      refine j_if_eq (tgt := 54) M dX3_swings_48 (by decide) (fun c1 => ?_) (fun c1 => ?_)
      · refine j_iinc (v := (nI (j + 1))) (lv' := [(4, .int (nI (j + 1))), (0, .ref (K 3)), (1, .ref a), (2, .int x), (3, .int (m_clashesOf K S a))]) M dX3_swings_54 rfl (nI_1 _) (by decide) rfl ?_
        refine j_goto (tgt := 20) M dX3_swings_57 (by decide) ?_
        refine j_pick [1, 2, 3, 4, 0] rfl ?_
        exact ih (j + 1) (m_move K T (K 4) x) (by omega) ⟨⟨g2.1.1, g2.1.2.1, g2.1.2.2⟩, (SS.tr hT.2 g2.2)⟩ (hq.trans (by simp only [m_swings_lp, if_pos c1]))
      · refine j_iload M dX3_swings_51 rfl ?_
        have hz : ((nI j, m_move K T (K 4) x) : Int32 × PS) = m_swings K S a x := (hq.trans (by simp only [m_swings_lp, if_neg c1])).symm
        exact j_iret (v := (nI j)) M dX3_swings_53 (Nat.le_refl _) (Nat.le_refl _) ⟨fst_of hz, snd_of hz⟩
  refine j_pick (lv' := [(0, .ref (K 3)), (1, .ref a), (2, .int x), (3, .int (m_clashesOf K S a)), (4, .int (nI 0))]) [2, 3, 4, 1, 0] rfl ?_
  exact lp 7 0 (m_mimic K S (K 4) a) (by omega) ⟨⟨g1.1.1, g1.1.2.1, g1.1.2.2⟩, g1.2⟩ (by unfold m_swings; rfl)
def m_fill_lp (K : Nat → Nat) (S : PS) (a : Nat) (v : Int32) : Nat → Nat → PS → PS
  | 0, j, T => T
  | r + 1, j, T => m_fill_lp K S a v r (j + 1) (uA T a (upd (sA T a) (nI j).toNatClampNeg v))
def m_fill (K : Nat → Nat) (S : PS) (a : Nat) (v : Int32) : PS :=
  m_fill_lp K S a v (sN S a) 0 S
theorem cf_J7_fill_53178 : CFs yJ7_fill_53178 cJ7_fill_53178 4 none 2 := ⟨wC_J7_fill_53178, wS_J7_fill_53178, wN_J7, by decide +kernel⟩
set_option maxHeartbeats 4000000 in
set_option maxRecDepth 100000 in
theorem c_fill {l : Launch} {E : EV} {K : Nat → Nat} {S : PS} (hW : WS K S) (hA : AW S) (hM : WM S) {a : Nat} (haL : a ∈ sL S) (haK : sK S a = 9) (v : Int32) (hn : sN S a ≤ 200) : CT l yJ7_fill_53178 cJ7_fill_53178 4 none 0 0 0 0 E [.ref a, .int v] S (p0 (m_fill K S a v)) := by
  refine CT.of (by decide) (Nat.le_of_ble_eq_true rfl) ?_
  intro p e s m below meth c M hin
  have M : MC E p s m _ meth c cJ7_fill_53178 RJ7 4 none := M
  show J p l e _ s m _ below meth c _ E 4 0 [(0, .ref a), (1, .int v)] [] S 0 0
  refine j_iconst (v := 0) M dJ7_fill_53178_0 (by decide) ?_
  refine j_istore_n (lv' := [(2, .int 0), (0, .ref a), (1, .int v)]) M dJ7_fill_53178_1 rfl (by decide) rfl ?_
  refine j_aload_n M dJ7_fill_53178_2 rfl ?_
  refine j_alen M haL haK dJ7_fill_53178_3 ?_
  refine j_istore_n (lv' := [(3, .int (nI (sN S a))), (2, .int 0), (0, .ref a), (1, .int v)]) M dJ7_fill_53178_4 rfl (by decide) rfl ?_
  have lp : ∀ (r j : Nat) (T : PS), j + r = sN S a → GW K T ∧ SS S T → m_fill K S a v = m_fill_lp K S a v r j T → J p l e { frames := 0, cells := 0, slots := 0, locals := 0 } s m ([.ref a, .int v] : List Value).toArray below meth c (MQ below (QC E (p0 (m_fill K S a v))) ([.ref a, .int v] : List Value).toArray s 0 0 (AE E)) E 4 5 [(0, .ref a), (1, .int v), (2, .int (nI j)), (3, .int (nI (sN S a)))] [] T 0 0 := by
    intro r
    induction r with
    | zero =>
      intro j T hj hT hq
      have hN : sN T a = sN S a := by rw [hT.2.2.2.2.2.2.1]
      refine j_iload_n M dJ7_fill_53178_5 rfl ?_
      refine j_iload_n M dJ7_fill_53178_6 rfl ?_
      refine j_icmp_ge (tgt := 20) M dJ7_fill_53178_7 (by decide) (fun _ => ?_) (fun z => absurd (nI_le (by omega) (by omega)) z)
      exact j_vret M dJ7_fill_53178_20 (Nat.le_refl _) (Nat.le_refl _) ⟨rfl, (show T = m_fill K S a v from (hq.trans (by simp only [m_fill_lp])).symm)⟩
    | succ r ih =>
      intro j T hj hT hq
      have hN : sN T a = sN S a := by rw [hT.2.2.2.2.2.2.1]
      refine j_iload_n M dJ7_fill_53178_5 rfl ?_
      refine j_iload_n M dJ7_fill_53178_6 rfl ?_
      refine j_icmp_ge (tgt := 20) M dJ7_fill_53178_7 (by decide) (fun z => absurd z (nI_ge (by omega) (by omega))) (fun _ => ?_)
      refine j_aload_n M dJ7_fill_53178_10 rfl ?_
      refine j_iload_n M dJ7_fill_53178_11 rfl ?_
      refine j_iload_n M dJ7_fill_53178_12 rfl ?_
      refine j_iast M (hT.2.inL haL) (hT.2.inK haK) (by rw [hN]; exact vp_in_nI (by omega) (by omega)) dJ7_fill_53178_13 ?_
      refine j_iinc (v := (nI (j + 1))) (lv' := [(2, .int (nI (j + 1))), (0, .ref a), (1, .int v), (3, .int (nI (sN S a)))]) M dJ7_fill_53178_14 rfl (nI_1 _) (by decide) rfl ?_
      refine j_goto (tgt := 5) M dJ7_fill_53178_17 (by decide) ?_
      refine j_pick [1, 2, 0, 3] rfl ?_
      exact ih (j + 1) (uA T a (upd (sA T a) (nI j).toNatClampNeg v)) (by omega) ⟨⟨(WS.uA hT.1.1), (AW.uA hT.1.2.1), (WM.uA hT.1.2.2)⟩, hT.2⟩ (hq.trans (by simp only [m_fill_lp]))
  refine j_pick (lv' := [(0, .ref a), (1, .int v), (2, .int (nI 0)), (3, .int (nI (sN S a)))]) [2, 3, 1, 0] rfl ?_
  exact lp (sN S a) 0 S (by omega) ⟨⟨hW, hA, hM⟩, SS.rf⟩ (by unfold m_fill; rfl)
theorem g_fill_lp {K : Nat → Nat} {S : PS} {a : Nat} {v : Int32} : ∀ (r j : Nat) (T : PS), GW K T ∧ SS S T → GW K (m_fill_lp K S a v r j T) ∧ SS S (m_fill_lp K S a v r j T)
  | 0, j, T, h => h
  | r + 1, j, T, h => by
    simp only [m_fill_lp]
    exact g_fill_lp r (j + 1) _ ⟨⟨h.1.1, h.1.2.1, h.1.2.2⟩, h.2⟩
theorem g_fill {K : Nat → Nat} {S : PS} (hW : WS K S) (hA : AW S) (hM : WM S) {a : Nat} (haL : a ∈ sL S) (haK : sK S a = 9) (v : Int32) : GW K (m_fill K S a v) ∧ SS S (m_fill K S a v) := by
  unfold m_fill
  exact g_fill_lp _ _ _ ⟨⟨hW, hA, hM⟩, SS.rf⟩
theorem imin_z {z n : Nat} (h : z ≤ 4) (hn : n = 4) : imin (nI z) (nI n) = nI z := by
  subst hn
  exact if_neg (nI_nlt h (by omega))
def m_takeDown_lq (K : Nat → Nat) (S : PS) : Nat → Nat → PS → Int32 → Int32 → Int32 × PS
  | 0, j, T, st, nx => if nx = (-1) then
      (nI j, T)
    else
      (nI j, T)
  | r + 1, j, T, st, nx => if nx = (-1) then
      (nI j, T)
    else
      m_takeDown_lq K S r (j + 1) (uA T (K 10) (upd (sA T (K 10)) (nI j).toNatClampNeg nx)) (st - (1 <<< (nx &&& 31))) (m_nextToGo K (uA T (K 10) (upd (sA T (K 10)) (nI j).toNatClampNeg nx)) (st - (1 <<< (nx &&& 31))))
def m_takeDown_lp (K : Nat → Nat) (S : PS) : Nat → Nat → PS → Int32 × PS
  | 0, j, T => m_takeDown_lq K S 4 0 T ((1 <<< ((nI (sZ S (K 13))) &&& 31)) - 1) (m_nextToGo K T ((1 <<< ((nI (sZ S (K 13))) &&& 31)) - 1))
  | r + 1, j, T => m_takeDown_lp K S r (j + 1) (uA T (K 9) (upd (sA T (K 9)) (nI j).toNatClampNeg (m_takersOf K T (el T (K 13) j))))
def m_takeDown (K : Nat → Nat) (S : PS) : Int32 × PS :=
  m_takeDown_lp K S (sZ S (K 13)) 0 S
theorem cf_X3_takeDown : CFv yX3_takeDown RX3 cX3_takeDown 5 (some .int) 0 := ⟨wC_X3_takeDown, wI_X3_takeDown, wV_X3_X3_takeDown, wN_X3, by decide +kernel⟩
set_option maxHeartbeats 4000000 in
set_option maxRecDepth 100000 in
theorem c_takeDown {l : Launch} {E : EV} {K : Nat → Nat} {S : PS} (hW : WS K S) (hA : AW S) (hM : WM S) : CT l yX3_takeDown cX3_takeDown 5 (some .int) 7 161 0 0 E [.ref (K 3)] S (pv (.int (m_takeDown K S).1) (m_takeDown K S).2) := by
  refine CT.of (by decide) (Nat.le_of_ble_eq_true rfl) ?_
  intro p e s m below meth c M hin
  have M : MC E p s m _ meth c cX3_takeDown RX3 5 (some .int) := M
  show J p l e _ s m _ below meth c _ E 5 0 [(0, .ref (K 3))] [] S 0 0
  refine j_aload_n M dX3_takeDown_0 rfl ?_
  refine j_get (v := .ref (K 1)) M hW.k3.1 (pAt_3 E _ hW.k3.2) rfl inU_X3 0 (by decide) wF_X3_24 (fun _ h => h) (rfv hW.r23) dX3_takeDown_1 ?_
  refine j_getN (v := .ref (K 13)) M hW.k1.1 (pAt_5 E _ hW.k1.2) rfl inU_X5 3 (by decide) nF_X3_79 (fun _ h => h) (rfv hW.r35) dX3_takeDown_4 ?_
  refine j_callV1 (As := []) (x := .int (nI (sZ S (K 13)))) M cf_size wM_X3_83 (c_size hW.l13) hW.l13.1.1 (pAt_8 E _ hW.l13.1.2) rfl rfl ⟨Nat.le_of_ble_eq_true rfl, Nat.le_of_ble_eq_true rfl⟩ (Nat.le_of_ble_eq_true rfl) ⟨Nat.zero_le _, Nat.zero_le _⟩ dX3_takeDown_7 rfl ?_
  refine j_aload_n M dX3_takeDown_10 rfl ?_
  refine j_get (v := .ref (K 9)) M hW.k3.1 (pAt_3 E _ hW.k3.2) rfl inU_X3 4 (by decide) wF_X3_18 (fun _ h => h) (rfv hW.r27) dX3_takeDown_11 ?_
  refine j_alen M hW.k9.1 hW.k9.2 dX3_takeDown_14 ?_
  refine j_min M wM_X3_131 dX3_takeDown_15 (Nat.le_of_ble_eq_true rfl) (Nat.le_of_ble_eq_true rfl) ⟨Nat.zero_le _, Nat.zero_le _⟩ ?_
  have hz13 := hW.l13.2.1
  refine j_eq rfl (congrArg (fun z => [Value.int z]) (show imin (nI (sZ S (K 13))) (nI (sN S (K 9))) = nI (sZ S (K 13)) from imin_z hz13 hW.n9)) rfl ?_
  refine j_istore_n (lv' := [(1, .int (nI (sZ S (K 13)))), (0, .ref (K 3))]) M dX3_takeDown_18 rfl (by decide) rfl ?_
  refine j_iconst (v := 0) M dX3_takeDown_19 (by decide) ?_
  refine j_istore_n (lv' := [(2, .int 0), (1, .int (nI (sZ S (K 13)))), (0, .ref (K 3))]) M dX3_takeDown_20 rfl (by decide) rfl ?_
  have hz13 := hW.l13.2.1
  have lp : ∀ (r j : Nat) (T : PS), j + r = sZ S (K 13) → GW K T ∧ SS S T → m_takeDown K S = m_takeDown_lp K S r j T → J p l e { frames := 7, cells := 0, slots := 0, locals := 161 } s m ([.ref (K 3)] : List Value).toArray below meth c (MQ below (QC E (pv (.int (m_takeDown K S).1) (m_takeDown K S).2)) ([.ref (K 3)] : List Value).toArray s 0 0 (AE E)) E 5 21 [(0, .ref (K 3)), (1, .int (nI (sZ S (K 13)))), (2, .int (nI j))] [] T 0 0 := by
    intro r
    induction r with
    | zero =>
      intro j T hj hT hq
      have hzT := hT.2.z (K 13)
      refine j_iload_n M dX3_takeDown_21 rfl ?_
      refine j_iload_n M dX3_takeDown_22 rfl ?_
      refine j_icmp_ge (tgt := 56) M dX3_takeDown_23 (by decide) (fun _ => ?_) (fun z => absurd (nI_le (by omega) (by omega)) z)
      refine j_iconst (v := 1) M dX3_takeDown_56 (by decide) ?_
      refine j_iload_n M dX3_takeDown_57 rfl ?_
      refine j_ishl M dX3_takeDown_58 ?_
      refine j_iconst (v := 1) M dX3_takeDown_59 (by decide) ?_
      refine j_isub M dX3_takeDown_60 ?_
      refine j_istore_n (lv' := [(2, .int ((1 <<< ((nI (sZ S (K 13))) &&& 31)) - 1)), (0, .ref (K 3)), (1, .int (nI (sZ S (K 13))))]) M dX3_takeDown_61 rfl (by decide) rfl ?_
      refine j_iconst (v := 0) M dX3_takeDown_62 (by decide) ?_
      refine j_istore_n (lv' := [(3, .int 0), (2, .int ((1 <<< ((nI (sZ S (K 13))) &&& 31)) - 1)), (0, .ref (K 3)), (1, .int (nI (sZ S (K 13))))]) M dX3_takeDown_63 rfl (by decide) rfl ?_
      refine j_aload_n M dX3_takeDown_64 rfl ?_
      refine j_iload_n M dX3_takeDown_65 rfl ?_
      refine j_callV1 (As := [.int ((1 <<< ((nI (sZ S (K 13))) &&& 31)) - 1)]) M cf_X3_nextToGo wM_X3_137 (c_nextToGo (S := T) hT.1.1 hT.1.2.1 hT.1.2.2 ((1 <<< ((nI (sZ S (K 13))) &&& 31)) - 1)) hT.1.1.k3.1 (pAt_3 E _ hT.1.1.k3.2) rfl rfl ⟨Nat.le_of_ble_eq_true rfl, Nat.le_of_ble_eq_true rfl⟩ (Nat.le_of_ble_eq_true rfl) ⟨Nat.zero_le _, Nat.zero_le _⟩ dX3_takeDown_66 rfl ?_
      refine j_istore (lv' := [(4, .int (m_nextToGo K T ((1 <<< ((nI (sZ S (K 13))) &&& 31)) - 1))), (3, .int 0), (2, .int ((1 <<< ((nI (sZ S (K 13))) &&& 31)) - 1)), (0, .ref (K 3)), (1, .int (nI (sZ S (K 13))))]) M dX3_takeDown_69 (by decide) rfl ?_
      have lp : ∀ (r j : Nat) (T : PS) (st : Int32) (nx : Int32), j + r = 4 → GW K T ∧ SS S T → m_takeDown K S = m_takeDown_lq K S r j T st nx → J p l e { frames := 7, cells := 0, slots := 0, locals := 161 } s m ([.ref (K 3)] : List Value).toArray below meth c (MQ below (QC E (pv (.int (m_takeDown K S).1) (m_takeDown K S).2)) ([.ref (K 3)] : List Value).toArray s 0 0 (AE E)) E 5 71 [(0, .ref (K 3)), (2, .int st), (3, .int (nI j)), (4, .int nx)] [] T 0 0 := by
        intro r
        induction r with
        | zero =>
          intro j T st nx hj hT hq
          have hn10 := hT.1.1.n10
          refine j_iload M dX3_takeDown_71 rfl ?_
          refine j_iconst (v := (-1)) M dX3_takeDown_73 (by decide) ?_
          refine j_icmp_eq (tgt := 114) M dX3_takeDown_74 (by decide) (fun c1 => ?_) (fun c1 => ?_)
          · refine j_iload_n M dX3_takeDown_114 rfl ?_
            have hz : ((nI j, T) : Int32 × PS) = m_takeDown K S := (hq.trans (by simp only [m_takeDown_lq, if_pos c1])).symm
            exact j_iret (v := (nI j)) M dX3_takeDown_115 (Nat.le_refl _) (Nat.le_refl _) ⟨fst_of hz, snd_of hz⟩
          · refine j_iload_n M dX3_takeDown_77 rfl ?_
            refine j_aload_n M dX3_takeDown_78 rfl ?_
            refine j_get (v := .ref (K 10)) M hT.1.1.k3.1 (pAt_3 E _ hT.1.1.k3.2) rfl inU_X3 5 (by decide) wF_X3_21 (fun _ h => h) (rfv hT.1.1.r28) dX3_takeDown_79 ?_
            refine j_alen M hT.1.1.k10.1 hT.1.1.k10.2 dX3_takeDown_82 ?_
            refine j_icmp_ge (tgt := 114) M dX3_takeDown_83 (by decide) (fun _ => ?_) (fun z => absurd (nI_le (by omega) (by omega)) z)
            refine j_iload_n M dX3_takeDown_114 rfl ?_
            have hz : ((nI j, T) : Int32 × PS) = m_takeDown K S := (hq.trans (by simp only [m_takeDown_lq, if_neg c1])).symm
            exact j_iret (v := (nI j)) M dX3_takeDown_115 (Nat.le_refl _) (Nat.le_refl _) ⟨fst_of hz, snd_of hz⟩
        | succ r ih =>
          intro j T st nx hj hT hq
          have hn10 := hT.1.1.n10
          refine j_iload M dX3_takeDown_71 rfl ?_
          refine j_iconst (v := (-1)) M dX3_takeDown_73 (by decide) ?_
          refine j_icmp_eq (tgt := 114) M dX3_takeDown_74 (by decide) (fun c2 => ?_) (fun c2 => ?_)
          · refine j_iload_n M dX3_takeDown_114 rfl ?_
            have hz : ((nI j, T) : Int32 × PS) = m_takeDown K S := (hq.trans (by simp only [m_takeDown_lq, if_pos c2])).symm
            exact j_iret (v := (nI j)) M dX3_takeDown_115 (Nat.le_refl _) (Nat.le_refl _) ⟨fst_of hz, snd_of hz⟩
          · refine j_iload_n M dX3_takeDown_77 rfl ?_
            refine j_aload_n M dX3_takeDown_78 rfl ?_
            refine j_get (v := .ref (K 10)) M hT.1.1.k3.1 (pAt_3 E _ hT.1.1.k3.2) rfl inU_X3 5 (by decide) wF_X3_21 (fun _ h => h) (rfv hT.1.1.r28) dX3_takeDown_79 ?_
            refine j_alen M hT.1.1.k10.1 hT.1.1.k10.2 dX3_takeDown_82 ?_
            refine j_icmp_ge (tgt := 114) M dX3_takeDown_83 (by decide) (fun z => absurd z (nI_ge (by omega) (by omega))) (fun _ => ?_)
            refine j_aload_n M dX3_takeDown_86 rfl ?_
            refine j_get (v := .ref (K 10)) M hT.1.1.k3.1 (pAt_3 E _ hT.1.1.k3.2) rfl inU_X3 5 (by decide) wF_X3_21 (fun _ h => h) (rfv hT.1.1.r28) dX3_takeDown_87 ?_
            refine j_iload_n M dX3_takeDown_90 rfl ?_
            refine j_iload M dX3_takeDown_91 rfl ?_
            refine j_iast M hT.1.1.k10.1 hT.1.1.k10.2 (by rw [hn10]; exact vp_in_nI (by omega) (by omega)) dX3_takeDown_93 ?_
            refine j_iinc (v := (nI (j + 1))) (lv' := [(3, .int (nI (j + 1))), (0, .ref (K 3)), (2, .int st), (4, .int nx)]) M dX3_takeDown_94 rfl (nI_1 _) (by decide) rfl ?_
            refine j_iload_n M dX3_takeDown_97 rfl ?_
            refine j_iconst (v := 1) M dX3_takeDown_98 (by decide) ?_
            refine j_iload M dX3_takeDown_99 rfl ?_
            refine j_ishl M dX3_takeDown_101 ?_
            refine j_isub M dX3_takeDown_102 ?_
            refine j_istore_n (lv' := [(2, .int (st - (1 <<< (nx &&& 31)))), (3, .int (nI (j + 1))), (0, .ref (K 3)), (4, .int nx)]) M dX3_takeDown_103 rfl (by decide) rfl ?_
            refine j_aload_n M dX3_takeDown_104 rfl ?_
            refine j_iload_n M dX3_takeDown_105 rfl ?_
            refine j_callV1 (As := [.int (st - (1 <<< (nx &&& 31)))]) M cf_X3_nextToGo wM_X3_137 (c_nextToGo (S := uA T (K 10) (upd (sA T (K 10)) (nI j).toNatClampNeg nx)) (WS.uA hT.1.1) (AW.uA hT.1.2.1) (WM.uA hT.1.2.2) (st - (1 <<< (nx &&& 31)))) ((WS.uA hT.1.1).k3.1) (pAt_3 E _ ((WS.uA hT.1.1).k3.2)) rfl rfl ⟨Nat.le_of_ble_eq_true rfl, Nat.le_of_ble_eq_true rfl⟩ (Nat.le_of_ble_eq_true rfl) ⟨Nat.zero_le _, Nat.zero_le _⟩ dX3_takeDown_106 rfl ?_
            refine j_istore (lv' := [(4, .int (m_nextToGo K (uA T (K 10) (upd (sA T (K 10)) (nI j).toNatClampNeg nx)) (st - (1 <<< (nx &&& 31))))), (2, .int (st - (1 <<< (nx &&& 31)))), (3, .int (nI (j + 1))), (0, .ref (K 3))]) M dX3_takeDown_109 (by decide) rfl ?_
            refine j_goto (tgt := 71) M dX3_takeDown_111 (by decide) ?_
            refine j_pick [3, 1, 2, 0] rfl ?_
            exact ih (j + 1) (uA T (K 10) (upd (sA T (K 10)) (nI j).toNatClampNeg nx)) (st - (1 <<< (nx &&& 31))) (m_nextToGo K (uA T (K 10) (upd (sA T (K 10)) (nI j).toNatClampNeg nx)) (st - (1 <<< (nx &&& 31)))) (by omega) ⟨⟨(WS.uA hT.1.1), (AW.uA hT.1.2.1), (WM.uA hT.1.2.2)⟩, hT.2⟩ (hq.trans (by simp only [m_takeDown_lq, if_neg c2]))
      refine j_pick (lv' := [(0, .ref (K 3)), (2, .int ((1 <<< ((nI (sZ S (K 13))) &&& 31)) - 1)), (3, .int (nI 0)), (4, .int (m_nextToGo K T ((1 <<< ((nI (sZ S (K 13))) &&& 31)) - 1)))]) [3, 2, 1, 0] rfl ?_
      exact lp 4 0 T ((1 <<< ((nI (sZ S (K 13))) &&& 31)) - 1) (m_nextToGo K T ((1 <<< ((nI (sZ S (K 13))) &&& 31)) - 1)) (by omega) ⟨⟨hT.1.1, hT.1.2.1, hT.1.2.2⟩, hT.2⟩ (hq.trans (by simp only [m_takeDown_lp]))
    | succ r ih =>
      intro j T hj hT hq
      have hzT := hT.2.z (K 13)
      refine j_iload_n M dX3_takeDown_21 rfl ?_
      refine j_iload_n M dX3_takeDown_22 rfl ?_
      refine j_icmp_ge (tgt := 56) M dX3_takeDown_23 (by decide) (fun z => absurd z (nI_ge (by omega) (by omega))) (fun _ => ?_)
      refine j_aload_n M dX3_takeDown_26 rfl ?_
      refine j_get (v := .ref (K 9)) M hT.1.1.k3.1 (pAt_3 E _ hT.1.1.k3.2) rfl inU_X3 4 (by decide) wF_X3_18 (fun _ h => h) (rfv hT.1.1.r27) dX3_takeDown_27 ?_
      refine j_iload_n M dX3_takeDown_30 rfl ?_
      refine j_aload_n M dX3_takeDown_31 rfl ?_
      refine j_aload_n M dX3_takeDown_32 rfl ?_
      refine j_get (v := .ref (K 1)) M hT.1.1.k3.1 (pAt_3 E _ hT.1.1.k3.2) rfl inU_X3 0 (by decide) wF_X3_24 (fun _ h => h) (rfv hT.1.1.r23) dX3_takeDown_33 ?_
      refine j_getN (v := .ref (K 13)) M hT.1.1.k1.1 (pAt_5 E _ hT.1.1.k1.2) rfl inU_X5 3 (by decide) nF_X3_79 (fun _ h => h) (rfv hT.1.1.r35) dX3_takeDown_36 ?_
      refine j_iload_n M dX3_takeDown_39 rfl ?_
      refine j_callV1 (As := [.int (nI j)]) (x := .ref (el T (K 13) j)) M cf_get wM_X3_88 (c_get hT.1.1.l13 (by decide) (show j < sZ T (K 13) by omega)) hT.1.1.l13.1.1 (pAt_8 E _ hT.1.1.l13.1.2) rfl rfl ⟨Nat.le_of_ble_eq_true rfl, Nat.le_of_ble_eq_true rfl⟩ (Nat.le_of_ble_eq_true rfl) ⟨Nat.zero_le _, Nat.zero_le _⟩ dX3_takeDown_40 rfl ?_
      refine j_cast M ((LSt.el hT.1.1.l13 (show j < sZ T (K 13) by omega)).1) (pAt_0 E _ ((LSt.el hT.1.1.l13 (show j < sZ T (K 13) by omega)).2)) rfl wL_X3_42 dX3_takeDown_43 ?_
      refine j_callV1 (As := [.ref (el T (K 13) j)]) M cf_X3_takersOf wM_X3_134 (c_takersOf (S := T) hT.1.1 hT.1.2.1 hT.1.2.2 ((LSt.el hT.1.1.l13 (show j < sZ T (K 13) by omega)).1) ((LSt.el hT.1.1.l13 (show j < sZ T (K 13) by omega)).2)) hT.1.1.k3.1 (pAt_3 E _ hT.1.1.k3.2) rfl rfl ⟨Nat.le_of_ble_eq_true rfl, Nat.le_of_ble_eq_true rfl⟩ (Nat.le_of_ble_eq_true rfl) ⟨Nat.zero_le _, Nat.zero_le _⟩ dX3_takeDown_46 rfl ?_
      refine j_iast M hT.1.1.k9.1 hT.1.1.k9.2 (by rw [hT.1.1.n9]; exact vp_in_nI (by omega) (by omega)) dX3_takeDown_49 ?_
      refine j_iinc (v := (nI (j + 1))) (lv' := [(2, .int (nI (j + 1))), (0, .ref (K 3)), (1, .int (nI (sZ S (K 13))))]) M dX3_takeDown_50 rfl (nI_1 _) (by decide) rfl ?_
      refine j_goto (tgt := 21) M dX3_takeDown_53 (by decide) ?_
      refine j_pick [1, 2, 0] rfl ?_
      exact ih (j + 1) (uA T (K 9) (upd (sA T (K 9)) (nI j).toNatClampNeg (m_takersOf K T (el T (K 13) j)))) (by omega) ⟨⟨(WS.uA hT.1.1), (AW.uA hT.1.2.1), (WM.uA hT.1.2.2)⟩, hT.2⟩ (hq.trans (by simp only [m_takeDown_lp]))
  refine j_pick (lv' := [(0, .ref (K 3)), (1, .int (nI (sZ S (K 13)))), (2, .int (nI 0))]) [2, 1, 0] rfl ?_
  exact lp (sZ S (K 13)) 0 S (by omega) ⟨⟨hW, hA, hM⟩, SS.rf⟩ (by unfold m_takeDown; rfl)
theorem lt72 {n f : Nat} (hn : n = 72) (hf : f ≤ 72) (h : ¬ nI n ≤ nI f) : f < 72 := by
  subst hn
  rcases Nat.lt_or_ge f 72 with q | q
  · exact q
  · exact absurd (nI_le q (by omega)) h
theorem o_le3 {o : Nat} (ho : o ≤ 4) (h : ¬ 3 < nI o) : o ≤ 3 := by
  rcases Nat.lt_or_ge o 4 with q | q
  · omega
  · exact absurd (show nI 3 < nI o from nI_lt (by omega) (by omega)) h
theorem o_is4 {o : Nat} (ho : o ≤ 4) (h : 3 < nI o) : o = 4 := by
  rcases Nat.lt_or_ge o 4 with q | q
  · exact absurd h (show ¬ nI 3 < nI o from nI_nlt (by omega) (by omega))
  · omega
def m_explore_lp (K : Nat → Nat) (S : PS) (a : Nat) : Nat → Nat → Nat → Nat → PS → Int32 × PS
  | 0, j, o, f, T => (nI f, T)
  | r + 1, j, o, f, T =>
    if 3 < (nI o) then
      if (nI f) ≤ (nI (j + 1)) then
        (nI f, T)
      else
        if (nI (sN T (K 8))) ≤ (nI (j + 1)) then
          (nI f, T)
        else
          m_explore_lp K S a r (j + 1) 0 f T
    else
      if (m_plumb K (m_assume K T (sA T (K 8) (nI j).toNatClampNeg)) (K 4)) < 0 then
        m_explore_lp K S a r j (o + 1) f (m_move K (m_assume K T (sA T (K 8) (nI j).toNatClampNeg)) (K 4) (nI o))
      else
        if (nI (sN (m_move K (m_assume K T (sA T (K 8) (nI j).toNatClampNeg)) (K 4) (nI o)) (K 7))) ≤ (m_plumb K (m_assume K T (sA T (K 8) (nI j).toNatClampNeg)) (K 4)) then
          m_explore_lp K S a r j (o + 1) f (m_move K (m_assume K T (sA T (K 8) (nI j).toNatClampNeg)) (K 4) (nI o))
        else
          if (m_plumb K (m_move K (m_assume K T (sA T (K 8) (nI j).toNatClampNeg)) (K 4) (nI o)) (K 4)) < 0 then
            m_explore_lp K S a r j (o + 1) f (m_move K (m_assume K T (sA T (K 8) (nI j).toNatClampNeg)) (K 4) (nI o))
          else
            if (nI (sN (m_move K (m_assume K T (sA T (K 8) (nI j).toNatClampNeg)) (K 4) (nI o)) (K 7))) ≤ (m_plumb K (m_move K (m_assume K T (sA T (K 8) (nI j).toNatClampNeg)) (K 4) (nI o)) (K 4)) then
              m_explore_lp K S a r j (o + 1) f (m_move K (m_assume K T (sA T (K 8) (nI j).toNatClampNeg)) (K 4) (nI o))
            else
              if (sA (m_move K (m_assume K T (sA T (K 8) (nI j).toNatClampNeg)) (K 4) (nI o)) (K 7) (m_plumb K (m_move K (m_assume K T (sA T (K 8) (nI j).toNatClampNeg)) (K 4) (nI o)) (K 4)).toNatClampNeg) = (-1) then
                if (nI (sN (m_move K (m_assume K T (sA T (K 8) (nI j).toNatClampNeg)) (K 4) (nI o)) (K 8))) ≤ (nI f) then
                  m_explore_lp K S a r j (o + 1) f (uA (m_move K (m_assume K T (sA T (K 8) (nI j).toNatClampNeg)) (K 4) (nI o)) (K 7) (upd (sA (m_move K (m_assume K T (sA T (K 8) (nI j).toNatClampNeg)) (K 4) (nI o)) (K 7)) (m_plumb K (m_move K (m_assume K T (sA T (K 8) (nI j).toNatClampNeg)) (K 4) (nI o)) (K 4)).toNatClampNeg (-2)))
                else
                  if (m_hindrance K (m_move K (m_assume K T (sA T (K 8) (nI j).toNatClampNeg)) (K 4) (nI o)) (K 4) 1 (m_clashesOf K (m_fill K S (K 7) (-1)) a)) = 0 then
                    m_explore_lp K S a r j (o + 1) (f + 1) (uA (uA (m_move K (m_assume K T (sA T (K 8) (nI j).toNatClampNeg)) (K 4) (nI o)) (K 7) (upd (sA (m_move K (m_assume K T (sA T (K 8) (nI j).toNatClampNeg)) (K 4) (nI o)) (K 7)) (m_plumb K (m_move K (m_assume K T (sA T (K 8) (nI j).toNatClampNeg)) (K 4) (nI o)) (K 4)).toNatClampNeg ((sA (m_move K (m_assume K T (sA T (K 8) (nI j).toNatClampNeg)) (K 4) (nI o)) (K 7) (m_plumb K (m_assume K T (sA T (K 8) (nI j).toNatClampNeg)) (K 4)).toNatClampNeg) + 1))) (K 8) (upd (sA (uA (m_move K (m_assume K T (sA T (K 8) (nI j).toNatClampNeg)) (K 4) (nI o)) (K 7) (upd (sA (m_move K (m_assume K T (sA T (K 8) (nI j).toNatClampNeg)) (K 4) (nI o)) (K 7)) (m_plumb K (m_move K (m_assume K T (sA T (K 8) (nI j).toNatClampNeg)) (K 4) (nI o)) (K 4)).toNatClampNeg ((sA (m_move K (m_assume K T (sA T (K 8) (nI j).toNatClampNeg)) (K 4) (nI o)) (K 7) (m_plumb K (m_assume K T (sA T (K 8) (nI j).toNatClampNeg)) (K 4)).toNatClampNeg) + 1))) (K 8)) (nI f).toNatClampNeg (m_poseOf K (uA (m_move K (m_assume K T (sA T (K 8) (nI j).toNatClampNeg)) (K 4) (nI o)) (K 7) (upd (sA (m_move K (m_assume K T (sA T (K 8) (nI j).toNatClampNeg)) (K 4) (nI o)) (K 7)) (m_plumb K (m_move K (m_assume K T (sA T (K 8) (nI j).toNatClampNeg)) (K 4) (nI o)) (K 4)).toNatClampNeg ((sA (m_move K (m_assume K T (sA T (K 8) (nI j).toNatClampNeg)) (K 4) (nI o)) (K 7) (m_plumb K (m_assume K T (sA T (K 8) (nI j).toNatClampNeg)) (K 4)).toNatClampNeg) + 1))) (K 4))))
                  else
                    m_explore_lp K S a r j (o + 1) f (uA (m_move K (m_assume K T (sA T (K 8) (nI j).toNatClampNeg)) (K 4) (nI o)) (K 7) (upd (sA (m_move K (m_assume K T (sA T (K 8) (nI j).toNatClampNeg)) (K 4) (nI o)) (K 7)) (m_plumb K (m_move K (m_assume K T (sA T (K 8) (nI j).toNatClampNeg)) (K 4) (nI o)) (K 4)).toNatClampNeg (-2)))
              else
                m_explore_lp K S a r j (o + 1) f (m_move K (m_assume K T (sA T (K 8) (nI j).toNatClampNeg)) (K 4) (nI o))
def m_explore (K : Nat → Nat) (S : PS) (a : Nat) : Int32 × PS :=
  if (m_plumb K (m_fill K S (K 7) (-1)) a) < 0 then
    (0, m_fill K S (K 7) (-1))
  else
    if (m_plumb K (m_fill K S (K 7) (-1)) a) < (nI (sN (m_fill K S (K 7) (-1)) (K 7))) then
      if (nI (sN (m_mimic K (m_fill K S (K 7) (-1)) (K 4) a) (K 8))) ≤ 0 then
        (1, uA (uA (m_mimic K (m_fill K S (K 7) (-1)) (K 4) a) (K 7) (upd (sA (m_mimic K (m_fill K S (K 7) (-1)) (K 4) a) (K 7)) (m_plumb K (m_fill K S (K 7) (-1)) a).toNatClampNeg 0)) (K 8) (upd (sA (uA (m_mimic K (m_fill K S (K 7) (-1)) (K 4) a) (K 7) (upd (sA (m_mimic K (m_fill K S (K 7) (-1)) (K 4) a) (K 7)) (m_plumb K (m_fill K S (K 7) (-1)) a).toNatClampNeg 0)) (K 8)) (0 : Int32).toNatClampNeg (m_poseOf K (uA (m_mimic K (m_fill K S (K 7) (-1)) (K 4) a) (K 7) (upd (sA (m_mimic K (m_fill K S (K 7) (-1)) (K 4) a) (K 7)) (m_plumb K (m_fill K S (K 7) (-1)) a).toNatClampNeg 0)) a)))
      else
        m_explore_lp K S a 360 0 0 1 (uA (uA (m_mimic K (m_fill K S (K 7) (-1)) (K 4) a) (K 7) (upd (sA (m_mimic K (m_fill K S (K 7) (-1)) (K 4) a) (K 7)) (m_plumb K (m_fill K S (K 7) (-1)) a).toNatClampNeg 0)) (K 8) (upd (sA (uA (m_mimic K (m_fill K S (K 7) (-1)) (K 4) a) (K 7) (upd (sA (m_mimic K (m_fill K S (K 7) (-1)) (K 4) a) (K 7)) (m_plumb K (m_fill K S (K 7) (-1)) a).toNatClampNeg 0)) (K 8)) (0 : Int32).toNatClampNeg (m_poseOf K (uA (m_mimic K (m_fill K S (K 7) (-1)) (K 4) a) (K 7) (upd (sA (m_mimic K (m_fill K S (K 7) (-1)) (K 4) a) (K 7)) (m_plumb K (m_fill K S (K 7) (-1)) a).toNatClampNeg 0)) a)))
    else
      (0, m_fill K S (K 7) (-1))
theorem cf_X3_explore : CFv yX3_explore RX3 cX3_explore 9 (some .int) 1 := ⟨wC_X3_explore, wI_X3_explore, wV_X3_X3_explore, wN_X3, by decide +kernel⟩
set_option maxHeartbeats 4000000 in
set_option maxRecDepth 100000 in
theorem c_explore {l : Launch} {E : EV} {K : Nat → Nat} {S : PS} (hW : WS K S) (hA : AW S) (hM : WM S) {a : Nat} (haL : a ∈ sL S) (haK : sK S a = 0) : CT l yX3_explore cX3_explore 9 (some .int) 6 137 0 0 E [.ref (K 3), .ref a] S (pv (.int (m_explore K S a).1) (m_explore K S a).2) := by
  refine CT.of (by decide) (Nat.le_of_ble_eq_true rfl) ?_
  intro p e s m below meth c M hin
  have M : MC E p s m _ meth c cX3_explore RX3 9 (some .int) := M
  show J p l e _ s m _ below meth c _ E 9 0 [(0, .ref (K 3)), (1, .ref a)] [] S 0 0
  refine j_aload_n M dX3_explore_0 rfl ?_
  refine j_get (v := .ref (K 7)) M hW.k3.1 (pAt_3 E _ hW.k3.2) rfl inU_X3 2 (by decide) wF_X3_9 (fun _ h => h) (rfv hW.r25) dX3_explore_1 ?_
  refine j_iconst (v := (-1)) M dX3_explore_4 (by decide) ?_
  refine j_callS0 (As := [.ref (K 7), .int (-1)]) M cf_J7_fill_53178 wM_X3_35 (c_fill hW hA hM hW.k7.1 hW.k7.2 (-1) (by rw [hW.n7]; decide)) rfl ⟨Nat.le_of_ble_eq_true rfl, Nat.le_of_ble_eq_true rfl⟩ (Nat.le_of_ble_eq_true rfl) ⟨Nat.zero_le _, Nat.zero_le _⟩ dX3_explore_5 rfl ?_
  have g1 := g_fill hW hA hM hW.k7.1 hW.k7.2 (-1)
  refine j_aload_n M dX3_explore_8 rfl ?_
  refine j_callV1 (As := []) M cf_X0_plumb wM_X3_41 (c_plumb (S := m_fill K S (K 7) (-1)) g1.1.1 (g1.2.inL haL) (g1.2.inK haK)) (g1.2.inL haL) (pAt_0 E _ (g1.2.inK haK)) rfl rfl ⟨Nat.le_of_ble_eq_true rfl, Nat.le_of_ble_eq_true rfl⟩ (Nat.le_of_ble_eq_true rfl) ⟨Nat.zero_le _, Nat.zero_le _⟩ dX3_explore_9 rfl ?_
  refine j_istore_n (lv' := [(2, .int (m_plumb K (m_fill K S (K 7) (-1)) a)), (0, .ref (K 3)), (1, .ref a)]) M dX3_explore_12 rfl (by decide) rfl ?_
  refine j_iload_n M dX3_explore_13 rfl ?_
  refine j_if_lt (tgt := 26) M dX3_explore_14 (by decide) (fun c1 => ?_) (fun c1 => ?_)
  · refine j_iconst (v := 0) M dX3_explore_26 (by decide) ?_
    have hz : ((0, m_fill K S (K 7) (-1)) : Int32 × PS) = m_explore K S a := (by unfold m_explore; rw [if_pos c1])
    exact j_iret (v := 0) M dX3_explore_27 (Nat.le_refl _) (Nat.le_refl _) ⟨fst_of hz, snd_of hz⟩
  · refine j_iload_n M dX3_explore_17 rfl ?_
    refine j_aload_n M dX3_explore_18 rfl ?_
    refine j_get (v := .ref (K 7)) M g1.1.1.k3.1 (pAt_3 E _ g1.1.1.k3.2) rfl inU_X3 2 (by decide) wF_X3_9 (fun _ h => h) (rfv g1.1.1.r25) dX3_explore_19 ?_
    refine j_alen M g1.1.1.k7.1 g1.1.1.k7.2 dX3_explore_22 ?_
    refine j_icmp_lt (tgt := 28) M dX3_explore_23 (by decide) (fun c2 => ?_) (fun c2 => ?_)
    · refine j_aload_n M dX3_explore_28 rfl ?_
      refine j_get (v := .ref (K 1)) M g1.1.1.k3.1 (pAt_3 E _ g1.1.1.k3.2) rfl inU_X3 0 (by decide) wF_X3_24 (fun _ h => h) (rfv g1.1.1.r23) dX3_explore_29 ?_
      refine j_aload_n M dX3_explore_32 rfl ?_
      refine j_callV1 (As := [.ref a]) M cf_X5_clashesOf wM_X3_47 (c_clashesOf (S := m_fill K S (K 7) (-1)) g1.1.1 g1.1.2.1 g1.1.2.2 (g1.2.inL haL) (g1.2.inK haK)) g1.1.1.k1.1 (pAt_5 E _ g1.1.1.k1.2) rfl rfl ⟨Nat.le_of_ble_eq_true rfl, Nat.le_of_ble_eq_true rfl⟩ (Nat.le_of_ble_eq_true rfl) ⟨Nat.zero_le _, Nat.zero_le _⟩ dX3_explore_33 rfl ?_
      refine j_istore_n (lv' := [(3, .int (m_clashesOf K (m_fill K S (K 7) (-1)) a)), (2, .int (m_plumb K (m_fill K S (K 7) (-1)) a)), (0, .ref (K 3)), (1, .ref a)]) M dX3_explore_36 rfl (by decide) rfl ?_
      refine j_aload_n M dX3_explore_37 rfl ?_
      refine j_get (v := .ref (K 4)) M g1.1.1.k3.1 (pAt_3 E _ g1.1.1.k3.2) rfl inU_X3 1 (by decide) wF_X3_34 (fun _ h => h) (rfv g1.1.1.r24) dX3_explore_38 ?_
      refine j_aload_n M dX3_explore_41 rfl ?_
      refine j_callV0 (As := [.ref a]) M cf_X0_mimic wM_X3_51 (c_mimic (S := m_fill K S (K 7) (-1)) g1.1.1 g1.1.2.1 g1.1.2.2 g1.1.1.k4.1 g1.1.1.k4.2 (g1.2.inL haL) (g1.2.inK haK)) g1.1.1.k4.1 (pAt_0 E _ g1.1.1.k4.2) rfl rfl ⟨Nat.le_of_ble_eq_true rfl, Nat.le_of_ble_eq_true rfl⟩ (Nat.le_of_ble_eq_true rfl) ⟨Nat.zero_le _, Nat.zero_le _⟩ dX3_explore_42 rfl ?_
      have g2 := g_mimic (S := m_fill K S (K 7) (-1)) g1.1.1 g1.1.2.1 g1.1.2.2 g1.1.1.k4.1 g1.1.1.k4.2 (g1.2.inL haL) (g1.2.inK haK)
      refine j_aload_n M dX3_explore_45 rfl ?_
      refine j_get (v := .ref (K 7)) M g2.1.1.k3.1 (pAt_3 E _ g2.1.1.k3.2) rfl inU_X3 2 (by decide) wF_X3_9 (fun _ h => h) (rfv g2.1.1.r25) dX3_explore_46 ?_
      refine j_iload_n M dX3_explore_49 rfl ?_
      refine j_iconst (v := 0) M dX3_explore_50 (by decide) ?_
      refine j_iast M g2.1.1.k7.1 g2.1.1.k7.2 (vp_of (by rw [g2.1.1.n7]; decide) c1 (Int32.not_le.mpr c2)) dX3_explore_51 ?_
      refine j_aload_n M dX3_explore_52 rfl ?_
      refine j_get (v := .ref (K 8)) M ((WS.uA g2.1.1).k3.1) (pAt_3 E _ ((WS.uA g2.1.1).k3.2)) rfl inU_X3 3 (by decide) wF_X3_15 (fun _ h => h) (rfv (WS.uA g2.1.1).r26) dX3_explore_53 ?_
      refine j_iconst (v := 0) M dX3_explore_56 (by decide) ?_
      refine j_aload_n M dX3_explore_57 rfl ?_
      refine j_callS1 (As := [.ref a]) M cf_X3_poseOf wM_X3_55 (c_poseOf (S := uA (m_mimic K (m_fill K S (K 7) (-1)) (K 4) a) (K 7) (upd (sA (m_mimic K (m_fill K S (K 7) (-1)) (K 4) a) (K 7)) (m_plumb K (m_fill K S (K 7) (-1)) a).toNatClampNeg 0)) (WS.uA g2.1.1) (g2.2.inL (g1.2.inL haL)) (g2.2.inK (g1.2.inK haK))) rfl ⟨Nat.le_of_ble_eq_true rfl, Nat.le_of_ble_eq_true rfl⟩ (Nat.le_of_ble_eq_true rfl) ⟨Nat.zero_le _, Nat.zero_le _⟩ dX3_explore_58 rfl ?_
      refine j_iast M ((WS.uA g2.1.1).k8.1) ((WS.uA g2.1.1).k8.2) (by rw [(WS.uA g2.1.1).n8]; unfold vp_in; decide) dX3_explore_61 ?_
      refine j_iconst (v := 1) M dX3_explore_62 (by decide) ?_
      refine j_istore (lv' := [(4, .int 1), (3, .int (m_clashesOf K (m_fill K S (K 7) (-1)) a)), (2, .int (m_plumb K (m_fill K S (K 7) (-1)) a)), (0, .ref (K 3)), (1, .ref a)]) M dX3_explore_63 (by decide) rfl ?_
      refine j_iconst (v := 0) M dX3_explore_65 (by decide) ?_
      refine j_istore (lv' := [(5, .int 0), (4, .int 1), (3, .int (m_clashesOf K (m_fill K S (K 7) (-1)) a)), (2, .int (m_plumb K (m_fill K S (K 7) (-1)) a)), (0, .ref (K 3)), (1, .ref a)]) M dX3_explore_66 (by decide) rfl ?_
      refine j_iload M dX3_explore_68 rfl ?_
      refine j_iload M dX3_explore_70 rfl ?_
      refine j_icmp_ge (tgt := 259) M dX3_explore_72 (by decide) (fun z => absurd z (by decide)) (fun _ => ?_)
      refine j_iload M dX3_explore_75 rfl ?_
      refine j_aload_n M dX3_explore_77 rfl ?_
      refine j_get (v := .ref (K 8)) M ((WS.uA (WS.uA g2.1.1)).k3.1) (pAt_3 E _ ((WS.uA (WS.uA g2.1.1)).k3.2)) rfl inU_X3 3 (by decide) wF_X3_15 (fun _ h => h) (rfv (WS.uA (WS.uA g2.1.1)).r26) dX3_explore_78 ?_
      refine j_alen M ((WS.uA (WS.uA g2.1.1)).k8.1) ((WS.uA (WS.uA g2.1.1)).k8.2) dX3_explore_81 ?_
      refine j_icmp_ge (tgt := 259) M dX3_explore_82 (by decide) (fun c3 => ?_) (fun c3 => ?_)
      · refine j_iload M dX3_explore_259 rfl ?_
        have hz : ((1, uA (uA (m_mimic K (m_fill K S (K 7) (-1)) (K 4) a) (K 7) (upd (sA (m_mimic K (m_fill K S (K 7) (-1)) (K 4) a) (K 7)) (m_plumb K (m_fill K S (K 7) (-1)) a).toNatClampNeg 0)) (K 8) (upd (sA (uA (m_mimic K (m_fill K S (K 7) (-1)) (K 4) a) (K 7) (upd (sA (m_mimic K (m_fill K S (K 7) (-1)) (K 4) a) (K 7)) (m_plumb K (m_fill K S (K 7) (-1)) a).toNatClampNeg 0)) (K 8)) (0 : Int32).toNatClampNeg (m_poseOf K (uA (m_mimic K (m_fill K S (K 7) (-1)) (K 4) a) (K 7) (upd (sA (m_mimic K (m_fill K S (K 7) (-1)) (K 4) a) (K 7)) (m_plumb K (m_fill K S (K 7) (-1)) a).toNatClampNeg 0)) a))) : Int32 × PS) = m_explore K S a := (by unfold m_explore; rw [if_neg c1, if_pos c2, if_pos c3])
        exact j_iret (v := 1) M dX3_explore_261 (Nat.le_refl _) (Nat.le_refl _) ⟨fst_of hz, snd_of hz⟩
      · refine j_iconst (v := 0) M dX3_explore_85 (by decide) ?_
        refine j_istore (lv' := [(6, .int 0), (5, .int 0), (4, .int 1), (3, .int (m_clashesOf K (m_fill K S (K 7) (-1)) a)), (2, .int (m_plumb K (m_fill K S (K 7) (-1)) a)), (0, .ref (K 3)), (1, .ref a)]) M dX3_explore_86 (by decide) rfl ?_
        have lp : ∀ (r j o f : Nat) (T : PS), 5 * j + o + r = 360 → o ≤ 4 → j < 72 → 1 ≤ f → f ≤ 72 → GW K T ∧ SS S T → m_explore K S a = m_explore_lp K S a r j o f T → J p l e { frames := 6, cells := 0, slots := 0, locals := 137 } s m ([.ref (K 3), .ref a] : List Value).toArray below meth c (MQ below (QC E (pv (.int (m_explore K S a).1) (m_explore K S a).2)) ([.ref (K 3), .ref a] : List Value).toArray s 0 0 (AE E)) E 9 88 [(0, .ref (K 3)), (1, .ref a), (3, .int (m_clashesOf K (m_fill K S (K 7) (-1)) a)), (4, .int (nI f)), (5, .int (nI j)), (6, .int (nI o))] [] T 0 0 := by
          intro r
          induction r with
          | zero =>
            intro j o f T hj ho hj72
            exact absurd hj (by omega)
          | succ r ih =>
            intro j o f T hj ho hj72 hf1 hf hT hq
            refine j_iload M dX3_explore_88 rfl ?_
            refine j_iconst (v := 3) M dX3_explore_90 (by decide) ?_
            refine j_icmp_gt (tgt := 253) M dX3_explore_91 (by decide) (fun c4 => ?_) (fun c4 => ?_)
            · refine j_iinc (v := (nI (j + 1))) (lv' := [(5, .int (nI (j + 1))), (0, .ref (K 3)), (1, .ref a), (3, .int (m_clashesOf K (m_fill K S (K 7) (-1)) a)), (4, .int (nI f)), (6, .int (nI o))]) M dX3_explore_253 rfl (nI_1 _) (by decide) rfl ?_
              refine j_goto (tgt := 68) M dX3_explore_256 (by decide) ?_
              refine j_iload M dX3_explore_68 rfl ?_
              refine j_iload M dX3_explore_70 rfl ?_
              refine j_icmp_ge (tgt := 259) M dX3_explore_72 (by decide) (fun c5 => ?_) (fun c5 => ?_)
              · refine j_iload M dX3_explore_259 rfl ?_
                have hz : ((nI f, T) : Int32 × PS) = m_explore K S a := (hq.trans (by simp only [m_explore_lp, if_pos c4, if_pos c5])).symm
                exact j_iret (v := (nI f)) M dX3_explore_261 (Nat.le_refl _) (Nat.le_refl _) ⟨fst_of hz, snd_of hz⟩
              · refine j_iload M dX3_explore_75 rfl ?_
                refine j_aload_n M dX3_explore_77 rfl ?_
                refine j_get (v := .ref (K 8)) M hT.1.1.k3.1 (pAt_3 E _ hT.1.1.k3.2) rfl inU_X3 3 (by decide) wF_X3_15 (fun _ h => h) (rfv hT.1.1.r26) dX3_explore_78 ?_
                refine j_alen M hT.1.1.k8.1 hT.1.1.k8.2 dX3_explore_81 ?_
                refine j_icmp_ge (tgt := 259) M dX3_explore_82 (by decide) (fun c6 => ?_) (fun c6 => ?_)
                · refine j_iload M dX3_explore_259 rfl ?_
                  have hz : ((nI f, T) : Int32 × PS) = m_explore K S a := (hq.trans (by simp only [m_explore_lp, if_pos c4, if_neg c5, if_pos c6])).symm
                  exact j_iret (v := (nI f)) M dX3_explore_261 (Nat.le_refl _) (Nat.le_refl _) ⟨fst_of hz, snd_of hz⟩
                · refine j_iconst (v := 0) M dX3_explore_85 (by decide) ?_
                  refine j_istore (lv' := [(6, .int 0), (5, .int (nI (j + 1))), (0, .ref (K 3)), (1, .ref a), (3, .int (m_clashesOf K (m_fill K S (K 7) (-1)) a)), (4, .int (nI f))]) M dX3_explore_86 (by decide) rfl ?_
                  refine j_pick (lv' := [(0, .ref (K 3)), (1, .ref a), (3, .int (m_clashesOf K (m_fill K S (K 7) (-1)) a)), (4, .int (nI f)), (5, .int (nI (j + 1))), (6, .int (nI 0))]) [2, 3, 4, 5, 1, 0] rfl ?_
                  have ho4 : o = 4 := o_is4 ho c4
                  exact ih (j + 1) 0 f T (by omega) (by omega) (lt72 (hT.1.1.n8) (by omega) c6) (by omega) (by omega) ⟨⟨hT.1.1, hT.1.2.1, hT.1.2.2⟩, hT.2⟩ (hq.trans (by simp only [m_explore_lp, if_pos c4, if_neg c5, if_neg c6]))
            · refine j_aload_n M dX3_explore_94 rfl ?_
              refine j_aload_n M dX3_explore_95 rfl ?_
              refine j_get (v := .ref (K 8)) M hT.1.1.k3.1 (pAt_3 E _ hT.1.1.k3.2) rfl inU_X3 3 (by decide) wF_X3_15 (fun _ h => h) (rfv hT.1.1.r26) dX3_explore_96 ?_
              refine j_iload M dX3_explore_99 rfl ?_
              refine j_iald M hT.1.1.k8.1 hT.1.1.k8.2 (by rw [hT.1.1.n8]; exact vp_in_nI hj72 (by omega)) dX3_explore_101 ?_
              refine j_callV0 (As := [.int (sA T (K 8) (nI j).toNatClampNeg)]) M cf_X3_assume wM_X3_58 (c_assume (S := T) hT.1.1 hT.1.2.1 hT.1.2.2 (sA T (K 8) (nI j).toNatClampNeg)) hT.1.1.k3.1 (pAt_3 E _ hT.1.1.k3.2) rfl rfl ⟨Nat.le_of_ble_eq_true rfl, Nat.le_of_ble_eq_true rfl⟩ (Nat.le_of_ble_eq_true rfl) ⟨Nat.zero_le _, Nat.zero_le _⟩ dX3_explore_102 rfl ?_
              have g3 := g_assume (S := T) hT.1.1 hT.1.2.1 hT.1.2.2 (sA T (K 8) (nI j).toNatClampNeg)
              refine j_aload_n M dX3_explore_105 rfl ?_
              refine j_get (v := .ref (K 4)) M g3.1.1.k3.1 (pAt_3 E _ g3.1.1.k3.2) rfl inU_X3 1 (by decide) wF_X3_34 (fun _ h => h) (rfv g3.1.1.r24) dX3_explore_106 ?_
              refine j_callV1 (As := []) M cf_X0_plumb wM_X3_41 (c_plumb (S := m_assume K T (sA T (K 8) (nI j).toNatClampNeg)) g3.1.1 g3.1.1.k4.1 g3.1.1.k4.2) g3.1.1.k4.1 (pAt_0 E _ g3.1.1.k4.2) rfl rfl ⟨Nat.le_of_ble_eq_true rfl, Nat.le_of_ble_eq_true rfl⟩ (Nat.le_of_ble_eq_true rfl) ⟨Nat.zero_le _, Nat.zero_le _⟩ dX3_explore_109 rfl ?_
              refine j_istore (lv' := [(7, .int (m_plumb K (m_assume K T (sA T (K 8) (nI j).toNatClampNeg)) (K 4))), (0, .ref (K 3)), (1, .ref a), (3, .int (m_clashesOf K (m_fill K S (K 7) (-1)) a)), (4, .int (nI f)), (5, .int (nI j)), (6, .int (nI o))]) M dX3_explore_112 (by decide) rfl ?_
              refine j_aload_n M dX3_explore_114 rfl ?_
              refine j_get (v := .ref (K 4)) M g3.1.1.k3.1 (pAt_3 E _ g3.1.1.k3.2) rfl inU_X3 1 (by decide) wF_X3_34 (fun _ h => h) (rfv g3.1.1.r24) dX3_explore_115 ?_
              refine j_iload M dX3_explore_118 rfl ?_
              refine j_callV0 (As := [.int (nI o)]) M cf_X0_move wM_X3_62 (c_move (S := m_assume K T (sA T (K 8) (nI j).toNatClampNeg)) g3.1.1 g3.1.2.1 g3.1.2.2 g3.1.1.k4.1 g3.1.1.k4.2 (nI o)) g3.1.1.k4.1 (pAt_0 E _ g3.1.1.k4.2) rfl rfl ⟨Nat.le_of_ble_eq_true rfl, Nat.le_of_ble_eq_true rfl⟩ (Nat.le_of_ble_eq_true rfl) ⟨Nat.zero_le _, Nat.zero_le _⟩ dX3_explore_120 rfl ?_
              have g4 := g_move (S := m_assume K T (sA T (K 8) (nI j).toNatClampNeg)) g3.1.1 g3.1.2.1 g3.1.2.2 g3.1.1.k4.1 g3.1.1.k4.2 (nI o)
              refine j_aload_n M dX3_explore_123 rfl ?_
              refine j_get (v := .ref (K 4)) M g4.1.1.k3.1 (pAt_3 E _ g4.1.1.k3.2) rfl inU_X3 1 (by decide) wF_X3_34 (fun _ h => h) (rfv g4.1.1.r24) dX3_explore_124 ?_
              refine j_callV1 (As := []) M cf_X0_plumb wM_X3_41 (c_plumb (S := m_move K (m_assume K T (sA T (K 8) (nI j).toNatClampNeg)) (K 4) (nI o)) g4.1.1 g4.1.1.k4.1 g4.1.1.k4.2) g4.1.1.k4.1 (pAt_0 E _ g4.1.1.k4.2) rfl rfl ⟨Nat.le_of_ble_eq_true rfl, Nat.le_of_ble_eq_true rfl⟩ (Nat.le_of_ble_eq_true rfl) ⟨Nat.zero_le _, Nat.zero_le _⟩ dX3_explore_127 rfl ?_
              refine j_istore (lv' := [(8, .int (m_plumb K (m_move K (m_assume K T (sA T (K 8) (nI j).toNatClampNeg)) (K 4) (nI o)) (K 4))), (7, .int (m_plumb K (m_assume K T (sA T (K 8) (nI j).toNatClampNeg)) (K 4))), (0, .ref (K 3)), (1, .ref a), (3, .int (m_clashesOf K (m_fill K S (K 7) (-1)) a)), (4, .int (nI f)), (5, .int (nI j)), (6, .int (nI o))]) M dX3_explore_130 (by decide) rfl ?_
              refine j_iload M dX3_explore_132 rfl ?_
              refine j_if_lt (tgt := 247) M dX3_explore_134 (by decide) (fun c7 => ?_) (fun c7 => ?_)
              · refine j_iinc (v := (nI (o + 1))) (lv' := [(6, .int (nI (o + 1))), (8, .int (m_plumb K (m_move K (m_assume K T (sA T (K 8) (nI j).toNatClampNeg)) (K 4) (nI o)) (K 4))), (7, .int (m_plumb K (m_assume K T (sA T (K 8) (nI j).toNatClampNeg)) (K 4))), (0, .ref (K 3)), (1, .ref a), (3, .int (m_clashesOf K (m_fill K S (K 7) (-1)) a)), (4, .int (nI f)), (5, .int (nI j))]) M dX3_explore_247 rfl (nI_1 _) (by decide) rfl ?_
                refine j_goto (tgt := 88) M dX3_explore_250 (by decide) ?_
                refine j_pick (lv' := [(0, .ref (K 3)), (1, .ref a), (3, .int (m_clashesOf K (m_fill K S (K 7) (-1)) a)), (4, .int (nI f)), (5, .int (nI j)), (6, .int (nI (o + 1)))]) [3, 4, 5, 6, 7, 0] rfl ?_
                have ho3 : o ≤ 3 := o_le3 ho c4
                exact ih j (o + 1) f (m_move K (m_assume K T (sA T (K 8) (nI j).toNatClampNeg)) (K 4) (nI o)) (by omega) (by omega) hj72 (by omega) (by omega) ⟨⟨g4.1.1, g4.1.2.1, g4.1.2.2⟩, (SS.tr (SS.tr hT.2 g3.2) g4.2)⟩ (hq.trans (by simp only [m_explore_lp, if_neg c4, if_pos c7]))
              · refine j_iload M dX3_explore_137 rfl ?_
                refine j_aload_n M dX3_explore_139 rfl ?_
                refine j_get (v := .ref (K 7)) M g4.1.1.k3.1 (pAt_3 E _ g4.1.1.k3.2) rfl inU_X3 2 (by decide) wF_X3_9 (fun _ h => h) (rfv g4.1.1.r25) dX3_explore_140 ?_
                refine j_alen M g4.1.1.k7.1 g4.1.1.k7.2 dX3_explore_143 ?_
                refine j_icmp_ge (tgt := 247) M dX3_explore_144 (by decide) (fun c8 => ?_) (fun c8 => ?_)
                · refine j_iinc (v := (nI (o + 1))) (lv' := [(6, .int (nI (o + 1))), (8, .int (m_plumb K (m_move K (m_assume K T (sA T (K 8) (nI j).toNatClampNeg)) (K 4) (nI o)) (K 4))), (7, .int (m_plumb K (m_assume K T (sA T (K 8) (nI j).toNatClampNeg)) (K 4))), (0, .ref (K 3)), (1, .ref a), (3, .int (m_clashesOf K (m_fill K S (K 7) (-1)) a)), (4, .int (nI f)), (5, .int (nI j))]) M dX3_explore_247 rfl (nI_1 _) (by decide) rfl ?_
                  refine j_goto (tgt := 88) M dX3_explore_250 (by decide) ?_
                  refine j_pick (lv' := [(0, .ref (K 3)), (1, .ref a), (3, .int (m_clashesOf K (m_fill K S (K 7) (-1)) a)), (4, .int (nI f)), (5, .int (nI j)), (6, .int (nI (o + 1)))]) [3, 4, 5, 6, 7, 0] rfl ?_
                  have ho3 : o ≤ 3 := o_le3 ho c4
                  exact ih j (o + 1) f (m_move K (m_assume K T (sA T (K 8) (nI j).toNatClampNeg)) (K 4) (nI o)) (by omega) (by omega) hj72 (by omega) (by omega) ⟨⟨g4.1.1, g4.1.2.1, g4.1.2.2⟩, (SS.tr (SS.tr hT.2 g3.2) g4.2)⟩ (hq.trans (by simp only [m_explore_lp, if_neg c4, if_neg c7, if_pos c8]))
                · refine j_iload M dX3_explore_147 rfl ?_
                  refine j_if_lt (tgt := 247) M dX3_explore_149 (by decide) (fun c9 => ?_) (fun c9 => ?_)
                  · refine j_iinc (v := (nI (o + 1))) (lv' := [(6, .int (nI (o + 1))), (8, .int (m_plumb K (m_move K (m_assume K T (sA T (K 8) (nI j).toNatClampNeg)) (K 4) (nI o)) (K 4))), (7, .int (m_plumb K (m_assume K T (sA T (K 8) (nI j).toNatClampNeg)) (K 4))), (0, .ref (K 3)), (1, .ref a), (3, .int (m_clashesOf K (m_fill K S (K 7) (-1)) a)), (4, .int (nI f)), (5, .int (nI j))]) M dX3_explore_247 rfl (nI_1 _) (by decide) rfl ?_
                    refine j_goto (tgt := 88) M dX3_explore_250 (by decide) ?_
                    refine j_pick (lv' := [(0, .ref (K 3)), (1, .ref a), (3, .int (m_clashesOf K (m_fill K S (K 7) (-1)) a)), (4, .int (nI f)), (5, .int (nI j)), (6, .int (nI (o + 1)))]) [3, 4, 5, 6, 7, 0] rfl ?_
                    have ho3 : o ≤ 3 := o_le3 ho c4
                    exact ih j (o + 1) f (m_move K (m_assume K T (sA T (K 8) (nI j).toNatClampNeg)) (K 4) (nI o)) (by omega) (by omega) hj72 (by omega) (by omega) ⟨⟨g4.1.1, g4.1.2.1, g4.1.2.2⟩, (SS.tr (SS.tr hT.2 g3.2) g4.2)⟩ (hq.trans (by simp only [m_explore_lp, if_neg c4, if_neg c7, if_neg c8, if_pos c9]))
                  · refine j_iload M dX3_explore_152 rfl ?_
                    refine j_aload_n M dX3_explore_154 rfl ?_
                    refine j_get (v := .ref (K 7)) M g4.1.1.k3.1 (pAt_3 E _ g4.1.1.k3.2) rfl inU_X3 2 (by decide) wF_X3_9 (fun _ h => h) (rfv g4.1.1.r25) dX3_explore_155 ?_
                    refine j_alen M g4.1.1.k7.1 g4.1.1.k7.2 dX3_explore_158 ?_
                    refine j_icmp_ge (tgt := 247) M dX3_explore_159 (by decide) (fun c10 => ?_) (fun c10 => ?_)
                    · refine j_iinc (v := (nI (o + 1))) (lv' := [(6, .int (nI (o + 1))), (8, .int (m_plumb K (m_move K (m_assume K T (sA T (K 8) (nI j).toNatClampNeg)) (K 4) (nI o)) (K 4))), (7, .int (m_plumb K (m_assume K T (sA T (K 8) (nI j).toNatClampNeg)) (K 4))), (0, .ref (K 3)), (1, .ref a), (3, .int (m_clashesOf K (m_fill K S (K 7) (-1)) a)), (4, .int (nI f)), (5, .int (nI j))]) M dX3_explore_247 rfl (nI_1 _) (by decide) rfl ?_
                      refine j_goto (tgt := 88) M dX3_explore_250 (by decide) ?_
                      refine j_pick (lv' := [(0, .ref (K 3)), (1, .ref a), (3, .int (m_clashesOf K (m_fill K S (K 7) (-1)) a)), (4, .int (nI f)), (5, .int (nI j)), (6, .int (nI (o + 1)))]) [3, 4, 5, 6, 7, 0] rfl ?_
                      have ho3 : o ≤ 3 := o_le3 ho c4
                      exact ih j (o + 1) f (m_move K (m_assume K T (sA T (K 8) (nI j).toNatClampNeg)) (K 4) (nI o)) (by omega) (by omega) hj72 (by omega) (by omega) ⟨⟨g4.1.1, g4.1.2.1, g4.1.2.2⟩, (SS.tr (SS.tr hT.2 g3.2) g4.2)⟩ (hq.trans (by simp only [m_explore_lp, if_neg c4, if_neg c7, if_neg c8, if_neg c9, if_pos c10]))
                    · refine j_aload_n M dX3_explore_162 rfl ?_
                      refine j_get (v := .ref (K 7)) M g4.1.1.k3.1 (pAt_3 E _ g4.1.1.k3.2) rfl inU_X3 2 (by decide) wF_X3_9 (fun _ h => h) (rfv g4.1.1.r25) dX3_explore_163 ?_
                      refine j_iload M dX3_explore_166 rfl ?_
                      refine j_iald M g4.1.1.k7.1 g4.1.1.k7.2 (vp_of (by rw [g4.1.1.n7]; decide) c9 c10) dX3_explore_168 ?_
                      refine j_iconst (v := (-1)) M dX3_explore_169 (by decide) ?_
                      refine j_icmp_eq (tgt := 176) M dX3_explore_170 (by decide) (fun c11 => ?_) (fun c11 => ?_)
                      · refine j_iload M dX3_explore_176 rfl ?_
                        refine j_aload_n M dX3_explore_178 rfl ?_
                        refine j_get (v := .ref (K 8)) M g4.1.1.k3.1 (pAt_3 E _ g4.1.1.k3.2) rfl inU_X3 3 (by decide) wF_X3_15 (fun _ h => h) (rfv g4.1.1.r26) dX3_explore_179 ?_
                        refine j_alen M g4.1.1.k8.1 g4.1.1.k8.2 dX3_explore_182 ?_
                        refine j_icmp_ge (tgt := 202) M dX3_explore_183 (by decide) (fun c12 => ?_) (fun c12 => ?_)
                        · refine j_aload_n M dX3_explore_202 rfl ?_
                          refine j_get (v := .ref (K 7)) M g4.1.1.k3.1 (pAt_3 E _ g4.1.1.k3.2) rfl inU_X3 2 (by decide) wF_X3_9 (fun _ h => h) (rfv g4.1.1.r25) dX3_explore_203 ?_
                          refine j_iload M dX3_explore_206 rfl ?_
                          refine j_bipush (v := (-2)) M dX3_explore_208 (by decide) ?_
                          refine j_iast M g4.1.1.k7.1 g4.1.1.k7.2 (vp_of (by rw [g4.1.1.n7]; decide) c9 c10) dX3_explore_210 ?_
                          refine j_goto (tgt := 247) M dX3_explore_211 (by decide) ?_
                          refine j_iinc (v := (nI (o + 1))) (lv' := [(6, .int (nI (o + 1))), (8, .int (m_plumb K (m_move K (m_assume K T (sA T (K 8) (nI j).toNatClampNeg)) (K 4) (nI o)) (K 4))), (7, .int (m_plumb K (m_assume K T (sA T (K 8) (nI j).toNatClampNeg)) (K 4))), (0, .ref (K 3)), (1, .ref a), (3, .int (m_clashesOf K (m_fill K S (K 7) (-1)) a)), (4, .int (nI f)), (5, .int (nI j))]) M dX3_explore_247 rfl (nI_1 _) (by decide) rfl ?_
                          refine j_goto (tgt := 88) M dX3_explore_250 (by decide) ?_
                          refine j_pick (lv' := [(0, .ref (K 3)), (1, .ref a), (3, .int (m_clashesOf K (m_fill K S (K 7) (-1)) a)), (4, .int (nI f)), (5, .int (nI j)), (6, .int (nI (o + 1)))]) [3, 4, 5, 6, 7, 0] rfl ?_
                          have ho3 : o ≤ 3 := o_le3 ho c4
                          exact ih j (o + 1) f (uA (m_move K (m_assume K T (sA T (K 8) (nI j).toNatClampNeg)) (K 4) (nI o)) (K 7) (upd (sA (m_move K (m_assume K T (sA T (K 8) (nI j).toNatClampNeg)) (K 4) (nI o)) (K 7)) (m_plumb K (m_move K (m_assume K T (sA T (K 8) (nI j).toNatClampNeg)) (K 4) (nI o)) (K 4)).toNatClampNeg (-2))) (by omega) (by omega) hj72 (by omega) (by omega) ⟨⟨(WS.uA g4.1.1), (AW.uA g4.1.2.1), (WM.uA g4.1.2.2)⟩, (SS.tr (SS.tr hT.2 g3.2) g4.2)⟩ (hq.trans (by simp only [m_explore_lp, if_neg c4, if_neg c7, if_neg c8, if_neg c9, if_neg c10, if_pos c11, if_pos c12]))
                        · refine j_aload_n M dX3_explore_186 rfl ?_
                          refine j_get (v := .ref (K 1)) M g4.1.1.k3.1 (pAt_3 E _ g4.1.1.k3.2) rfl inU_X3 0 (by decide) wF_X3_24 (fun _ h => h) (rfv g4.1.1.r23) dX3_explore_187 ?_
                          refine j_aload_n M dX3_explore_190 rfl ?_
                          refine j_get (v := .ref (K 4)) M g4.1.1.k3.1 (pAt_3 E _ g4.1.1.k3.2) rfl inU_X3 1 (by decide) wF_X3_34 (fun _ h => h) (rfv g4.1.1.r24) dX3_explore_191 ?_
                          refine j_iconst (v := 1) M dX3_explore_194 (by decide) ?_
                          refine j_iload_n M dX3_explore_195 rfl ?_
                          refine j_callV1 (As := [.ref (K 4), .int 1, .int (m_clashesOf K (m_fill K S (K 7) (-1)) a)]) M cf_X5_hindrance wM_X3_65 (c_hindrance (S := m_move K (m_assume K T (sA T (K 8) (nI j).toNatClampNeg)) (K 4) (nI o)) g4.1.1 g4.1.2.1 g4.1.2.2 g4.1.1.k4.1 g4.1.1.k4.2 1 (m_clashesOf K (m_fill K S (K 7) (-1)) a)) g4.1.1.k1.1 (pAt_5 E _ g4.1.1.k1.2) rfl rfl ⟨Nat.le_of_ble_eq_true rfl, Nat.le_of_ble_eq_true rfl⟩ (Nat.le_of_ble_eq_true rfl) ⟨Nat.zero_le _, Nat.zero_le _⟩ dX3_explore_196 rfl ?_
                          refine j_if_eq (tgt := 214) M dX3_explore_199 (by decide) (fun c13 => ?_) (fun c13 => ?_)
                          · refine j_aload_n M dX3_explore_214 rfl ?_
                            refine j_get (v := .ref (K 7)) M g4.1.1.k3.1 (pAt_3 E _ g4.1.1.k3.2) rfl inU_X3 2 (by decide) wF_X3_9 (fun _ h => h) (rfv g4.1.1.r25) dX3_explore_215 ?_
                            refine j_iload M dX3_explore_218 rfl ?_
                            refine j_aload_n M dX3_explore_220 rfl ?_
                            refine j_get (v := .ref (K 7)) M g4.1.1.k3.1 (pAt_3 E _ g4.1.1.k3.2) rfl inU_X3 2 (by decide) wF_X3_9 (fun _ h => h) (rfv g4.1.1.r25) dX3_explore_221 ?_
                            refine j_iload M dX3_explore_224 rfl ?_
                            refine j_iald M g4.1.1.k7.1 g4.1.1.k7.2 (vp_of (by rw [g4.1.1.n7]; decide) c7 c8) dX3_explore_226 ?_
                            refine j_iconst (v := 1) M dX3_explore_227 (by decide) ?_
                            refine j_iadd M dX3_explore_228 ?_
                            refine j_iast M g4.1.1.k7.1 g4.1.1.k7.2 (vp_of (by rw [g4.1.1.n7]; decide) c9 c10) dX3_explore_229 ?_
                            refine j_aload_n M dX3_explore_230 rfl ?_
                            refine j_get (v := .ref (K 8)) M ((WS.uA g4.1.1).k3.1) (pAt_3 E _ ((WS.uA g4.1.1).k3.2)) rfl inU_X3 3 (by decide) wF_X3_15 (fun _ h => h) (rfv (WS.uA g4.1.1).r26) dX3_explore_231 ?_
                            refine j_iload M dX3_explore_234 rfl ?_
                            refine j_aload_n M dX3_explore_236 rfl ?_
                            refine j_get (v := .ref (K 4)) M ((WS.uA g4.1.1).k3.1) (pAt_3 E _ ((WS.uA g4.1.1).k3.2)) rfl inU_X3 1 (by decide) wF_X3_34 (fun _ h => h) (rfv (WS.uA g4.1.1).r24) dX3_explore_237 ?_
                            refine j_callS1 (As := [.ref (K 4)]) M cf_X3_poseOf wM_X3_55 (c_poseOf (S := uA (m_move K (m_assume K T (sA T (K 8) (nI j).toNatClampNeg)) (K 4) (nI o)) (K 7) (upd (sA (m_move K (m_assume K T (sA T (K 8) (nI j).toNatClampNeg)) (K 4) (nI o)) (K 7)) (m_plumb K (m_move K (m_assume K T (sA T (K 8) (nI j).toNatClampNeg)) (K 4) (nI o)) (K 4)).toNatClampNeg ((sA (m_move K (m_assume K T (sA T (K 8) (nI j).toNatClampNeg)) (K 4) (nI o)) (K 7) (m_plumb K (m_assume K T (sA T (K 8) (nI j).toNatClampNeg)) (K 4)).toNatClampNeg) + 1))) (WS.uA g4.1.1) ((WS.uA g4.1.1).k4.1) ((WS.uA g4.1.1).k4.2)) rfl ⟨Nat.le_of_ble_eq_true rfl, Nat.le_of_ble_eq_true rfl⟩ (Nat.le_of_ble_eq_true rfl) ⟨Nat.zero_le _, Nat.zero_le _⟩ dX3_explore_240 rfl ?_
                            refine j_iast M ((WS.uA g4.1.1).k8.1) ((WS.uA g4.1.1).k8.2) (by rw [(WS.uA g4.1.1).n8]; exact vp_in_nI (lt72 (g4.1.1.n8) (by omega) c12) (by omega)) dX3_explore_243 ?_
                            refine j_iinc (v := (nI (f + 1))) (lv' := [(4, .int (nI (f + 1))), (8, .int (m_plumb K (m_move K (m_assume K T (sA T (K 8) (nI j).toNatClampNeg)) (K 4) (nI o)) (K 4))), (7, .int (m_plumb K (m_assume K T (sA T (K 8) (nI j).toNatClampNeg)) (K 4))), (0, .ref (K 3)), (1, .ref a), (3, .int (m_clashesOf K (m_fill K S (K 7) (-1)) a)), (5, .int (nI j)), (6, .int (nI o))]) M dX3_explore_244 rfl (nI_1 _) (by decide) rfl ?_
                            refine j_iinc (v := (nI (o + 1))) (lv' := [(6, .int (nI (o + 1))), (4, .int (nI (f + 1))), (8, .int (m_plumb K (m_move K (m_assume K T (sA T (K 8) (nI j).toNatClampNeg)) (K 4) (nI o)) (K 4))), (7, .int (m_plumb K (m_assume K T (sA T (K 8) (nI j).toNatClampNeg)) (K 4))), (0, .ref (K 3)), (1, .ref a), (3, .int (m_clashesOf K (m_fill K S (K 7) (-1)) a)), (5, .int (nI j))]) M dX3_explore_247 rfl (nI_1 _) (by decide) rfl ?_
                            refine j_goto (tgt := 88) M dX3_explore_250 (by decide) ?_
                            refine j_pick (lv' := [(0, .ref (K 3)), (1, .ref a), (3, .int (m_clashesOf K (m_fill K S (K 7) (-1)) a)), (4, .int (nI (f + 1))), (5, .int (nI j)), (6, .int (nI (o + 1)))]) [4, 5, 6, 1, 7, 0] rfl ?_
                            have ho3 : o ≤ 3 := o_le3 ho c4
                            have hf2 : f < 72 := (lt72 (g4.1.1.n8) (by omega) c12)
                            exact ih j (o + 1) (f + 1) (uA (uA (m_move K (m_assume K T (sA T (K 8) (nI j).toNatClampNeg)) (K 4) (nI o)) (K 7) (upd (sA (m_move K (m_assume K T (sA T (K 8) (nI j).toNatClampNeg)) (K 4) (nI o)) (K 7)) (m_plumb K (m_move K (m_assume K T (sA T (K 8) (nI j).toNatClampNeg)) (K 4) (nI o)) (K 4)).toNatClampNeg ((sA (m_move K (m_assume K T (sA T (K 8) (nI j).toNatClampNeg)) (K 4) (nI o)) (K 7) (m_plumb K (m_assume K T (sA T (K 8) (nI j).toNatClampNeg)) (K 4)).toNatClampNeg) + 1))) (K 8) (upd (sA (uA (m_move K (m_assume K T (sA T (K 8) (nI j).toNatClampNeg)) (K 4) (nI o)) (K 7) (upd (sA (m_move K (m_assume K T (sA T (K 8) (nI j).toNatClampNeg)) (K 4) (nI o)) (K 7)) (m_plumb K (m_move K (m_assume K T (sA T (K 8) (nI j).toNatClampNeg)) (K 4) (nI o)) (K 4)).toNatClampNeg ((sA (m_move K (m_assume K T (sA T (K 8) (nI j).toNatClampNeg)) (K 4) (nI o)) (K 7) (m_plumb K (m_assume K T (sA T (K 8) (nI j).toNatClampNeg)) (K 4)).toNatClampNeg) + 1))) (K 8)) (nI f).toNatClampNeg (m_poseOf K (uA (m_move K (m_assume K T (sA T (K 8) (nI j).toNatClampNeg)) (K 4) (nI o)) (K 7) (upd (sA (m_move K (m_assume K T (sA T (K 8) (nI j).toNatClampNeg)) (K 4) (nI o)) (K 7)) (m_plumb K (m_move K (m_assume K T (sA T (K 8) (nI j).toNatClampNeg)) (K 4) (nI o)) (K 4)).toNatClampNeg ((sA (m_move K (m_assume K T (sA T (K 8) (nI j).toNatClampNeg)) (K 4) (nI o)) (K 7) (m_plumb K (m_assume K T (sA T (K 8) (nI j).toNatClampNeg)) (K 4)).toNatClampNeg) + 1))) (K 4)))) (by omega) (by omega) hj72 (by omega) (by omega) ⟨⟨(WS.uA (WS.uA g4.1.1)), (AW.uA (AW.uA g4.1.2.1)), (WM.uA (WM.uA g4.1.2.2))⟩, (SS.tr (SS.tr hT.2 g3.2) g4.2)⟩ (hq.trans (by simp only [m_explore_lp, if_neg c4, if_neg c7, if_neg c8, if_neg c9, if_neg c10, if_pos c11, if_neg c12, if_pos c13]))
                          · refine j_aload_n M dX3_explore_202 rfl ?_
                            refine j_get (v := .ref (K 7)) M g4.1.1.k3.1 (pAt_3 E _ g4.1.1.k3.2) rfl inU_X3 2 (by decide) wF_X3_9 (fun _ h => h) (rfv g4.1.1.r25) dX3_explore_203 ?_
                            refine j_iload M dX3_explore_206 rfl ?_
                            refine j_bipush (v := (-2)) M dX3_explore_208 (by decide) ?_
                            refine j_iast M g4.1.1.k7.1 g4.1.1.k7.2 (vp_of (by rw [g4.1.1.n7]; decide) c9 c10) dX3_explore_210 ?_
                            refine j_goto (tgt := 247) M dX3_explore_211 (by decide) ?_
                            refine j_iinc (v := (nI (o + 1))) (lv' := [(6, .int (nI (o + 1))), (8, .int (m_plumb K (m_move K (m_assume K T (sA T (K 8) (nI j).toNatClampNeg)) (K 4) (nI o)) (K 4))), (7, .int (m_plumb K (m_assume K T (sA T (K 8) (nI j).toNatClampNeg)) (K 4))), (0, .ref (K 3)), (1, .ref a), (3, .int (m_clashesOf K (m_fill K S (K 7) (-1)) a)), (4, .int (nI f)), (5, .int (nI j))]) M dX3_explore_247 rfl (nI_1 _) (by decide) rfl ?_
                            refine j_goto (tgt := 88) M dX3_explore_250 (by decide) ?_
                            refine j_pick (lv' := [(0, .ref (K 3)), (1, .ref a), (3, .int (m_clashesOf K (m_fill K S (K 7) (-1)) a)), (4, .int (nI f)), (5, .int (nI j)), (6, .int (nI (o + 1)))]) [3, 4, 5, 6, 7, 0] rfl ?_
                            have ho3 : o ≤ 3 := o_le3 ho c4
                            exact ih j (o + 1) f (uA (m_move K (m_assume K T (sA T (K 8) (nI j).toNatClampNeg)) (K 4) (nI o)) (K 7) (upd (sA (m_move K (m_assume K T (sA T (K 8) (nI j).toNatClampNeg)) (K 4) (nI o)) (K 7)) (m_plumb K (m_move K (m_assume K T (sA T (K 8) (nI j).toNatClampNeg)) (K 4) (nI o)) (K 4)).toNatClampNeg (-2))) (by omega) (by omega) hj72 (by omega) (by omega) ⟨⟨(WS.uA g4.1.1), (AW.uA g4.1.2.1), (WM.uA g4.1.2.2)⟩, (SS.tr (SS.tr hT.2 g3.2) g4.2)⟩ (hq.trans (by simp only [m_explore_lp, if_neg c4, if_neg c7, if_neg c8, if_neg c9, if_neg c10, if_pos c11, if_neg c12, if_neg c13]))
                      · refine j_goto (tgt := 247) M dX3_explore_173 (by decide) ?_
                        refine j_iinc (v := (nI (o + 1))) (lv' := [(6, .int (nI (o + 1))), (8, .int (m_plumb K (m_move K (m_assume K T (sA T (K 8) (nI j).toNatClampNeg)) (K 4) (nI o)) (K 4))), (7, .int (m_plumb K (m_assume K T (sA T (K 8) (nI j).toNatClampNeg)) (K 4))), (0, .ref (K 3)), (1, .ref a), (3, .int (m_clashesOf K (m_fill K S (K 7) (-1)) a)), (4, .int (nI f)), (5, .int (nI j))]) M dX3_explore_247 rfl (nI_1 _) (by decide) rfl ?_
                        refine j_goto (tgt := 88) M dX3_explore_250 (by decide) ?_
                        refine j_pick (lv' := [(0, .ref (K 3)), (1, .ref a), (3, .int (m_clashesOf K (m_fill K S (K 7) (-1)) a)), (4, .int (nI f)), (5, .int (nI j)), (6, .int (nI (o + 1)))]) [3, 4, 5, 6, 7, 0] rfl ?_
                        have ho3 : o ≤ 3 := o_le3 ho c4
                        exact ih j (o + 1) f (m_move K (m_assume K T (sA T (K 8) (nI j).toNatClampNeg)) (K 4) (nI o)) (by omega) (by omega) hj72 (by omega) (by omega) ⟨⟨g4.1.1, g4.1.2.1, g4.1.2.2⟩, (SS.tr (SS.tr hT.2 g3.2) g4.2)⟩ (hq.trans (by simp only [m_explore_lp, if_neg c4, if_neg c7, if_neg c8, if_neg c9, if_neg c10, if_neg c11]))
        refine j_pick (lv' := [(0, .ref (K 3)), (1, .ref a), (3, .int (m_clashesOf K (m_fill K S (K 7) (-1)) a)), (4, .int (nI 1)), (5, .int (nI 0)), (6, .int (nI 0))]) [5, 6, 3, 2, 1, 0] rfl ?_
        exact lp 360 0 0 1 (uA (uA (m_mimic K (m_fill K S (K 7) (-1)) (K 4) a) (K 7) (upd (sA (m_mimic K (m_fill K S (K 7) (-1)) (K 4) a) (K 7)) (m_plumb K (m_fill K S (K 7) (-1)) a).toNatClampNeg 0)) (K 8) (upd (sA (uA (m_mimic K (m_fill K S (K 7) (-1)) (K 4) a) (K 7) (upd (sA (m_mimic K (m_fill K S (K 7) (-1)) (K 4) a) (K 7)) (m_plumb K (m_fill K S (K 7) (-1)) a).toNatClampNeg 0)) (K 8)) (0 : Int32).toNatClampNeg (m_poseOf K (uA (m_mimic K (m_fill K S (K 7) (-1)) (K 4) a) (K 7) (upd (sA (m_mimic K (m_fill K S (K 7) (-1)) (K 4) a) (K 7)) (m_plumb K (m_fill K S (K 7) (-1)) a).toNatClampNeg 0)) a))) (by omega) (by omega) (by omega) (by omega) (by omega) ⟨⟨(WS.uA (WS.uA g2.1.1)), (AW.uA (AW.uA g2.1.2.1)), (WM.uA (WM.uA g2.1.2.2))⟩, (SS.tr g1.2 g2.2)⟩ (by unfold m_explore; rw [if_neg c1, if_pos c2, if_neg c3])
    · refine j_iconst (v := 0) M dX3_explore_26 (by decide) ?_
      have hz : ((0, m_fill K S (K 7) (-1)) : Int32 × PS) = m_explore K S a := (by unfold m_explore; rw [if_neg c1, if_neg c2])
      exact j_iret (v := 0) M dX3_explore_27 (Nat.le_refl _) (Nat.le_refl _) ⟨fst_of hz, snd_of hz⟩
