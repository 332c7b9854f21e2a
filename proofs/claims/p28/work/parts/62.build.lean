set_option maxHeartbeats 4000000 in
set_option maxRecDepth 100000 in
theorem c_lbuild {l : Launch} (hlt : l.stackTraces = false) {E : EV} {K : Nat → Nat} {S : PS} {N C : Nat} (h : IV E K S N) (hC0 : 0 < C) (hC6 : C ≤ 196) (hcC : m_cells K S = nI C) (x : Int32) : CTH l yL_build cL_build 4 none hhB 8 176 11 92 E [.ref (K 0), .int x, .int (nI C)] S NC3 (fun v u => v = none ∧ BLD E K S N u) := by
  have hW := h.g.1
  have hA := h.g.2.1
  have hM := h.g.2.2
  refine CTH.of (by decide) (Nat.le_of_ble_eq_true rfl) ?_
  intro p e s m below meth c M hn hT
  have M : MC E p s m _ meth c cL_build RL 4 none := M
  show J p l e _ s m _ below meth c _ E 4 0 [(0, .ref (K 0)), (1, .int x), (2, .int (nI C))] [] S 0 0
  refine j_aload_n M dL_build_0 rfl ?_
  refine j_iload_n M dL_build_1 rfl ?_
  refine j_iconst (v := 3) M dL_build_2 (by decide) ?_
  refine j_ishr M dL_build_3 ?_
  refine j_iload_n M dL_build_4 rfl ?_
  refine j_callS1 (As := [.int (x >>> (3 &&& 31)), .int (nI C)]) (x := .int (m_below K S (x >>> (3 &&& 31)) (nI C))) M cf_L_below wM_L_18 (c_below hW (x >>> (3 &&& 31)) (nI C) (nI_lt (a := 0) (by omega) (by omega))) rfl ⟨Nat.le_of_ble_eq_true rfl, Nat.le_of_ble_eq_true rfl⟩ (Nat.le_of_ble_eq_true rfl) ⟨Nat.le_of_ble_eq_true rfl, Nat.le_of_ble_eq_true rfl⟩ dL_build_5 rfl ?_
  refine j_iconst (v := 3) M dL_build_8 (by decide) ?_
  refine j_iload_n M dL_build_9 rfl ?_
  refine j_iconst (v := 2) M dL_build_10 (by decide) ?_
  refine j_ishr M dL_build_11 ?_
  refine j_iload_n M dL_build_12 rfl ?_
  refine j_iconst (v := 2) M dL_build_13 (by decide) ?_
  refine j_callS1 (As := [.int x, .int 2]) (x := .int (m_below K S x 2)) M cf_L_below wM_L_18 (c_below hW x 2 (by decide)) rfl ⟨Nat.le_of_ble_eq_true rfl, Nat.le_of_ble_eq_true rfl⟩ (Nat.le_of_ble_eq_true rfl) ⟨Nat.le_of_ble_eq_true rfl, Nat.le_of_ble_eq_true rfl⟩ dL_build_14 rfl ?_
  refine j_if_ne (tgt := 25) M dL_build_17 (by decide) (fun c1 => ?_) (fun c1 => ?_)
  · refine j_bipush (v := 6) M dL_build_25 (by decide) ?_
    refine j_callS1 (As := [.int (x >>> (2 &&& 31)), .int 6]) (x := .int (m_below K S (x >>> (2 &&& 31)) 6)) M cf_L_below wM_L_18 (c_below hW (x >>> (2 &&& 31)) 6 (by decide)) rfl ⟨Nat.le_of_ble_eq_true rfl, Nat.le_of_ble_eq_true rfl⟩ (Nat.le_of_ble_eq_true rfl) ⟨Nat.le_of_ble_eq_true rfl, Nat.le_of_ble_eq_true rfl⟩ dL_build_27 rfl ?_
    refine j_iadd M dL_build_30 ?_
    refine j_iconst (v := 2) M dL_build_31 (by decide) ?_
    refine j_iload_n M dL_build_32 rfl ?_
    refine j_iconst (v := 5) M dL_build_33 (by decide) ?_
    refine j_ishr M dL_build_34 ?_
    refine j_bipush (v := 8) M dL_build_35 (by decide) ?_
    refine j_callS1 (As := [.int (x >>> (5 &&& 31)), .int 8]) (x := .int (m_below K S (x >>> (5 &&& 31)) 8)) M cf_L_below wM_L_18 (c_below hW (x >>> (5 &&& 31)) 8 (by decide)) rfl ⟨Nat.le_of_ble_eq_true rfl, Nat.le_of_ble_eq_true rfl⟩ (Nat.le_of_ble_eq_true rfl) ⟨Nat.le_of_ble_eq_true rfl, Nat.le_of_ble_eq_true rfl⟩ dL_build_37 rfl ?_
    refine j_iadd M dL_build_40 ?_
    refine j_iconst (v := 5) M dL_build_41 (by decide) ?_
    refine j_iload_n M dL_build_42 rfl ?_
    refine j_iconst (v := 4) M dL_build_43 (by decide) ?_
    refine j_ishr M dL_build_44 ?_
    refine j_sipush (v := 300) M dL_build_45 (by decide) ?_
    refine j_callS1 (As := [.int (x >>> (4 &&& 31)), .int 300]) (x := .int (m_below K S (x >>> (4 &&& 31)) 300)) M cf_L_below wM_L_18 (c_below hW (x >>> (4 &&& 31)) 300 (by decide)) rfl ⟨Nat.le_of_ble_eq_true rfl, Nat.le_of_ble_eq_true rfl⟩ (Nat.le_of_ble_eq_true rfl) ⟨Nat.le_of_ble_eq_true rfl, Nat.le_of_ble_eq_true rfl⟩ dL_build_48 rfl ?_
    refine j_iadd M dL_build_51 ?_
    refine j_iload_n M dL_build_52 rfl ?_
    refine j_bipush (v := 6) M dL_build_53 (by decide) ?_
    refine j_ishr M dL_build_55 ?_
    refine j_bipush (v := 8) M dL_build_56 (by decide) ?_
    refine j_callS1 (As := [.int (x >>> (6 &&& 31)), .int 8]) (x := .int (m_below K S (x >>> (6 &&& 31)) 8)) M cf_L_below wM_L_18 (c_below hW (x >>> (6 &&& 31)) 8 (by decide)) rfl ⟨Nat.le_of_ble_eq_true rfl, Nat.le_of_ble_eq_true rfl⟩ (Nat.le_of_ble_eq_true rfl) ⟨Nat.le_of_ble_eq_true rfl, Nat.le_of_ble_eq_true rfl⟩ dL_build_58 rfl ?_
    refine jx_callV (As := [.int (m_below K S (x >>> (3 &&& 31)) (nI C)), .int ((3 : Int32) + (m_below K S (x >>> (2 &&& 31)) 6)), .int ((2 : Int32) + (m_below K S (x >>> (5 &&& 31)) 8)), .int ((5 : Int32) + (m_below K S (x >>> (4 &&& 31)) 300)), .int (m_below K S (x >>> (6 &&& 31)) 8)]) M cf_X7_crane wM_L_52 (cx_crane hlt hW hA hM (m_below K S (x >>> (3 &&& 31)) (nI C)) ((3 : Int32) + (m_below K S (x >>> (2 &&& 31)) 6)) ((2 : Int32) + (m_below K S (x >>> (5 &&& 31)) 8)) ((5 : Int32) + (m_below K S (x >>> (4 &&& 31)) 300)) (m_below K S (x >>> (6 &&& 31)) 8) h.l) hW.k0.1 (pAt_7 E _ hW.k0.2) rfl rfl ⟨Nat.le_of_ble_eq_true rfl, Nat.le_of_ble_eq_true rfl⟩ (Nat.le_of_ble_eq_true rfl) ⟨Nat.le_of_ble_eq_true rfl, Nat.le_of_ble_eq_true rfl⟩ dL_build_61 rfl (fun v u1 hu => ?_) (fun X u1 hx => ?_)
    · have k03 : (m_crane K S (m_below K S (x >>> (3 &&& 31)) (nI C)) ((3 : Int32) + (m_below K S (x >>> (2 &&& 31)) 6)) ((2 : Int32) + (m_below K S (x >>> (5 &&& 31)) 8)) ((5 : Int32) + (m_below K S (x >>> (4 &&& 31)) 300)) (m_below K S (x >>> (6 &&& 31)) 8)).1 = 0 ∨ (m_crane K S (m_below K S (x >>> (3 &&& 31)) (nI C)) ((3 : Int32) + (m_below K S (x >>> (2 &&& 31)) 6)) ((2 : Int32) + (m_below K S (x >>> (5 &&& 31)) 8)) ((5 : Int32) + (m_below K S (x >>> (4 &&& 31)) 300)) (m_below K S (x >>> (6 &&& 31)) 8)).1 = 3 := crane_03 (bl_cell hC0 hC6 hcC) (bl_ok 6 3 30 rfl rfl rfl (by decide) (by decide) (by decide)) (bl_ok 8 2 9 rfl rfl rfl (by decide) (by decide) (by decide)) (bl_ok 300 5 400 rfl rfl rfl (by decide) (by decide) (by decide)) (bl_ok0 8 7 rfl rfl (by decide) (by decide) (by decide))
      have r20 : (2 : Int32) + m_below K S (x >>> (5 &&& 31)) 8 ≤ 20 := le20_of (bl_ok 8 2 9 rfl rfl rfl (by decide) (by decide) (by decide))
      obtain ⟨h0_1, q1, T1, hq1, hT1, hh1, rfl, A1, G1, L1⟩ := hu
      refine j_df M (fun hdu _ => ?_)
      obtain ⟨b1, z1⟩ := newcrane2 h h0_1 r20 hq1 hT1 hh1 A1 G1 L1 hdu
      refine j_istore_n (lv' := [(3, .int (nI (sZ S (K 13)))), (0, .ref (K 0)), (1, .int x), (2, .int (nI C))]) M dL_build_64 rfl (by decide) rfl ?_
      refine j_aload_n M dL_build_65 rfl ?_
      refine j_aload_n M dL_build_66 rfl ?_
      refine j_iload_n M dL_build_67 rfl ?_
      refine j_bipush (v := 10) M dL_build_68 (by decide) ?_
      refine j_callV1 (As := [.int (nI (sZ S (K 13))), .int 10]) (x := .int (m_ofCrane K u1 (sZ S (K 13)) 10)) M cf_X7_ofCrane wM_L_49 (c_ofCrane (S := u1) b1.1.g.1 b1.1.g.2.1 b1.1.g.2.2 10 (show sZ S (K 13) < sZ u1 (K 13) by omega) (by decide)) b1.1.g.1.k0.1 (pAt_7 E _ b1.1.g.1.k0.2) rfl rfl ⟨Nat.le_of_ble_eq_true rfl, Nat.le_of_ble_eq_true rfl⟩ (Nat.le_of_ble_eq_true rfl) ⟨Nat.le_of_ble_eq_true rfl, Nat.le_of_ble_eq_true rfl⟩ dL_build_70 rfl ?_
      refine j_iconst (v := 1) M dL_build_73 (by decide) ?_
      refine j_iload_n M dL_build_74 rfl ?_
      refine j_iconst (v := 3) M dL_build_75 (by decide) ?_
      refine j_ishr M dL_build_76 ?_
      refine j_bipush (v := 40) M dL_build_77 (by decide) ?_
      refine j_callS1 (As := [.int (x >>> (3 &&& 31)), .int 40]) (x := .int (m_below K u1 (x >>> (3 &&& 31)) 40)) M cf_L_below wM_L_18 (c_below (S := u1) b1.1.g.1 (x >>> (3 &&& 31)) 40 (by decide)) rfl ⟨Nat.le_of_ble_eq_true rfl, Nat.le_of_ble_eq_true rfl⟩ (Nat.le_of_ble_eq_true rfl) ⟨Nat.le_of_ble_eq_true rfl, Nat.le_of_ble_eq_true rfl⟩ dL_build_79 rfl ?_
      refine j_iadd M dL_build_82 ?_
      refine jx_callV (As := [.int (m_ofCrane K u1 (sZ S (K 13)) 10), .int ((1 : Int32) + (m_below K u1 (x >>> (3 &&& 31)) 40))]) M cf_X7_load wM_L_56 (cx_load hlt (S := u1) b1.1.g.1 b1.1.g.2.1 b1.1.g.2.2 (m_ofCrane K u1 (sZ S (K 13)) 10) ((1 : Int32) + (m_below K u1 (x >>> (3 &&& 31)) 40)) b1.1.l) b1.1.g.1.k0.1 (pAt_7 E _ b1.1.g.1.k0.2) rfl rfl ⟨Nat.le_of_ble_eq_true rfl, Nat.le_of_ble_eq_true rfl⟩ (Nat.le_of_ble_eq_true rfl) ⟨Nat.le_of_ble_eq_true rfl, Nat.le_of_ble_eq_true rfl⟩ dL_build_83 rfl (fun v u2 hu => ?_) (fun X u2 hx => ?_)
      · obtain ⟨h0_2, q2, T2, hq2, hT2, rfl, A2, G2, L2⟩ := hu
        have e2 : ES u1 T2 := by rw [hT2]; exact (ES.nw hq2).tr (ES.ss ⟨rfl, rfl, rfl, rfl, rfl, rfl, rfl⟩)
        have kp2 : KP E K u1 u2 N := act_load b1.1 h0_2 hq2 hT2 A2 G2 L2
        have bb2 : BLD E K S N u2 := ⟨kp2.1, b1.2.1.tr kp2.2.1, b1.2.2.1.tr (ka_add e2 (by rw [hT2]) A2), b1.2.2.2.tr kp2.2.2.2⟩
        refine j_pop M dL_build_86 rfl ?_
        refine j_goto (tgt := 92) M dL_build_87 (by decide) ?_
        exact jh_ret (j_vret M dL_build_92 (by decide) (by decide) ⟨rfl, bb2⟩)
      · obtain ⟨eX, hu⟩ := exN3 hx (load_03 (ok_plumb b1.1 (show sZ S (K 13) < sZ u1 (K 13) by omega)) (bl_ok 40 1 60 rfl rfl rfl (by decide) (by decide) (by decide)))
        rw [load_S] at hu
        rw [hu]
        exact build_exc M hT eX (by intro x hx; simp [tableOf] at hx; subst hx; decide) (by decide) (by decide) ⟨rfl, b1⟩
    · have k03 : (m_crane K S (m_below K S (x >>> (3 &&& 31)) (nI C)) ((3 : Int32) + (m_below K S (x >>> (2 &&& 31)) 6)) ((2 : Int32) + (m_below K S (x >>> (5 &&& 31)) 8)) ((5 : Int32) + (m_below K S (x >>> (4 &&& 31)) 300)) (m_below K S (x >>> (6 &&& 31)) 8)).1 = 0 ∨ (m_crane K S (m_below K S (x >>> (3 &&& 31)) (nI C)) ((3 : Int32) + (m_below K S (x >>> (2 &&& 31)) 6)) ((2 : Int32) + (m_below K S (x >>> (5 &&& 31)) 8)) ((5 : Int32) + (m_below K S (x >>> (4 &&& 31)) 300)) (m_below K S (x >>> (6 &&& 31)) 8)).1 = 3 := crane_03 (bl_cell hC0 hC6 hcC) (bl_ok 6 3 30 rfl rfl rfl (by decide) (by decide) (by decide)) (bl_ok 8 2 9 rfl rfl rfl (by decide) (by decide) (by decide)) (bl_ok 300 5 400 rfl rfl rfl (by decide) (by decide) (by decide)) (bl_ok0 8 7 rfl rfl (by decide) (by decide) (by decide))
      have r20 : (2 : Int32) + m_below K S (x >>> (5 &&& 31)) 8 ≤ 20 := le20_of (bl_ok 8 2 9 rfl rfl rfl (by decide) (by decide) (by decide))
      rcases hx with hx | ⟨eX, h0_1, q1, T1, hq1, hT1, hu, -⟩
      · obtain ⟨eX, hu⟩ := exN3 hx k03
        rw [crane_S] at hu
        rw [hu]
        exact build_exc M hT eX (by intro x hx; simp [tableOf] at hx; subst hx; decide) (by decide) (by decide) ⟨rfl, h, MO.rf, KA.rf, TT.rf⟩
      · rw [hu]
        refine jx_df M (fun hdu => ?_)
        have kc := iv_crane0 h hq1 r20 hT1 hdu
        exact build_exc M hT eX (by intro x hx; simp [tableOf] at hx; subst hx; decide) (by decide) (by decide) ⟨rfl, kc.1.1, kc.1.2.1, kc.2, kc.1.2.2.2⟩
  · refine j_bipush (v := 28) M dL_build_20 (by decide) ?_
    refine j_goto (tgt := 27) M dL_build_22 (by decide) ?_
    refine j_callS1 (As := [.int (x >>> (2 &&& 31)), .int 28]) (x := .int (m_below K S (x >>> (2 &&& 31)) 28)) M cf_L_below wM_L_18 (c_below hW (x >>> (2 &&& 31)) 28 (by decide)) rfl ⟨Nat.le_of_ble_eq_true rfl, Nat.le_of_ble_eq_true rfl⟩ (Nat.le_of_ble_eq_true rfl) ⟨Nat.le_of_ble_eq_true rfl, Nat.le_of_ble_eq_true rfl⟩ dL_build_27 rfl ?_
    refine j_iadd M dL_build_30 ?_
    refine j_iconst (v := 2) M dL_build_31 (by decide) ?_
    refine j_iload_n M dL_build_32 rfl ?_
    refine j_iconst (v := 5) M dL_build_33 (by decide) ?_
    refine j_ishr M dL_build_34 ?_
    refine j_bipush (v := 8) M dL_build_35 (by decide) ?_
    refine j_callS1 (As := [.int (x >>> (5 &&& 31)), .int 8]) (x := .int (m_below K S (x >>> (5 &&& 31)) 8)) M cf_L_below wM_L_18 (c_below hW (x >>> (5 &&& 31)) 8 (by decide)) rfl ⟨Nat.le_of_ble_eq_true rfl, Nat.le_of_ble_eq_true rfl⟩ (Nat.le_of_ble_eq_true rfl) ⟨Nat.le_of_ble_eq_true rfl, Nat.le_of_ble_eq_true rfl⟩ dL_build_37 rfl ?_
    refine j_iadd M dL_build_40 ?_
    refine j_iconst (v := 5) M dL_build_41 (by decide) ?_
    refine j_iload_n M dL_build_42 rfl ?_
    refine j_iconst (v := 4) M dL_build_43 (by decide) ?_
    refine j_ishr M dL_build_44 ?_
    refine j_sipush (v := 300) M dL_build_45 (by decide) ?_
    refine j_callS1 (As := [.int (x >>> (4 &&& 31)), .int 300]) (x := .int (m_below K S (x >>> (4 &&& 31)) 300)) M cf_L_below wM_L_18 (c_below hW (x >>> (4 &&& 31)) 300 (by decide)) rfl ⟨Nat.le_of_ble_eq_true rfl, Nat.le_of_ble_eq_true rfl⟩ (Nat.le_of_ble_eq_true rfl) ⟨Nat.le_of_ble_eq_true rfl, Nat.le_of_ble_eq_true rfl⟩ dL_build_48 rfl ?_
    refine j_iadd M dL_build_51 ?_
    refine j_iload_n M dL_build_52 rfl ?_
    refine j_bipush (v := 6) M dL_build_53 (by decide) ?_
    refine j_ishr M dL_build_55 ?_
    refine j_bipush (v := 8) M dL_build_56 (by decide) ?_
    refine j_callS1 (As := [.int (x >>> (6 &&& 31)), .int 8]) (x := .int (m_below K S (x >>> (6 &&& 31)) 8)) M cf_L_below wM_L_18 (c_below hW (x >>> (6 &&& 31)) 8 (by decide)) rfl ⟨Nat.le_of_ble_eq_true rfl, Nat.le_of_ble_eq_true rfl⟩ (Nat.le_of_ble_eq_true rfl) ⟨Nat.le_of_ble_eq_true rfl, Nat.le_of_ble_eq_true rfl⟩ dL_build_58 rfl ?_
    refine jx_callV (As := [.int (m_below K S (x >>> (3 &&& 31)) (nI C)), .int ((3 : Int32) + (m_below K S (x >>> (2 &&& 31)) 28)), .int ((2 : Int32) + (m_below K S (x >>> (5 &&& 31)) 8)), .int ((5 : Int32) + (m_below K S (x >>> (4 &&& 31)) 300)), .int (m_below K S (x >>> (6 &&& 31)) 8)]) M cf_X7_crane wM_L_52 (cx_crane hlt hW hA hM (m_below K S (x >>> (3 &&& 31)) (nI C)) ((3 : Int32) + (m_below K S (x >>> (2 &&& 31)) 28)) ((2 : Int32) + (m_below K S (x >>> (5 &&& 31)) 8)) ((5 : Int32) + (m_below K S (x >>> (4 &&& 31)) 300)) (m_below K S (x >>> (6 &&& 31)) 8) h.l) hW.k0.1 (pAt_7 E _ hW.k0.2) rfl rfl ⟨Nat.le_of_ble_eq_true rfl, Nat.le_of_ble_eq_true rfl⟩ (Nat.le_of_ble_eq_true rfl) ⟨Nat.le_of_ble_eq_true rfl, Nat.le_of_ble_eq_true rfl⟩ dL_build_61 rfl (fun v u3 hu => ?_) (fun X u3 hx => ?_)
    · have k03 : (m_crane K S (m_below K S (x >>> (3 &&& 31)) (nI C)) ((3 : Int32) + (m_below K S (x >>> (2 &&& 31)) 28)) ((2 : Int32) + (m_below K S (x >>> (5 &&& 31)) 8)) ((5 : Int32) + (m_below K S (x >>> (4 &&& 31)) 300)) (m_below K S (x >>> (6 &&& 31)) 8)).1 = 0 ∨ (m_crane K S (m_below K S (x >>> (3 &&& 31)) (nI C)) ((3 : Int32) + (m_below K S (x >>> (2 &&& 31)) 28)) ((2 : Int32) + (m_below K S (x >>> (5 &&& 31)) 8)) ((5 : Int32) + (m_below K S (x >>> (4 &&& 31)) 300)) (m_below K S (x >>> (6 &&& 31)) 8)).1 = 3 := crane_03 (bl_cell hC0 hC6 hcC) (bl_ok 28 3 30 rfl rfl rfl (by decide) (by decide) (by decide)) (bl_ok 8 2 9 rfl rfl rfl (by decide) (by decide) (by decide)) (bl_ok 300 5 400 rfl rfl rfl (by decide) (by decide) (by decide)) (bl_ok0 8 7 rfl rfl (by decide) (by decide) (by decide))
      have r20 : (2 : Int32) + m_below K S (x >>> (5 &&& 31)) 8 ≤ 20 := le20_of (bl_ok 8 2 9 rfl rfl rfl (by decide) (by decide) (by decide))
      obtain ⟨h0_3, q3, T3, hq3, hT3, hh3, rfl, A3, G3, L3⟩ := hu
      refine j_df M (fun hdu _ => ?_)
      obtain ⟨b3, z3⟩ := newcrane2 h h0_3 r20 hq3 hT3 hh3 A3 G3 L3 hdu
      refine j_istore_n (lv' := [(3, .int (nI (sZ S (K 13)))), (0, .ref (K 0)), (1, .int x), (2, .int (nI C))]) M dL_build_64 rfl (by decide) rfl ?_
      refine j_aload_n M dL_build_65 rfl ?_
      refine j_aload_n M dL_build_66 rfl ?_
      refine j_iload_n M dL_build_67 rfl ?_
      refine j_bipush (v := 10) M dL_build_68 (by decide) ?_
      refine j_callV1 (As := [.int (nI (sZ S (K 13))), .int 10]) (x := .int (m_ofCrane K u3 (sZ S (K 13)) 10)) M cf_X7_ofCrane wM_L_49 (c_ofCrane (S := u3) b3.1.g.1 b3.1.g.2.1 b3.1.g.2.2 10 (show sZ S (K 13) < sZ u3 (K 13) by omega) (by decide)) b3.1.g.1.k0.1 (pAt_7 E _ b3.1.g.1.k0.2) rfl rfl ⟨Nat.le_of_ble_eq_true rfl, Nat.le_of_ble_eq_true rfl⟩ (Nat.le_of_ble_eq_true rfl) ⟨Nat.le_of_ble_eq_true rfl, Nat.le_of_ble_eq_true rfl⟩ dL_build_70 rfl ?_
      refine j_iconst (v := 1) M dL_build_73 (by decide) ?_
      refine j_iload_n M dL_build_74 rfl ?_
      refine j_iconst (v := 3) M dL_build_75 (by decide) ?_
      refine j_ishr M dL_build_76 ?_
      refine j_bipush (v := 40) M dL_build_77 (by decide) ?_
      refine j_callS1 (As := [.int (x >>> (3 &&& 31)), .int 40]) (x := .int (m_below K u3 (x >>> (3 &&& 31)) 40)) M cf_L_below wM_L_18 (c_below (S := u3) b3.1.g.1 (x >>> (3 &&& 31)) 40 (by decide)) rfl ⟨Nat.le_of_ble_eq_true rfl, Nat.le_of_ble_eq_true rfl⟩ (Nat.le_of_ble_eq_true rfl) ⟨Nat.le_of_ble_eq_true rfl, Nat.le_of_ble_eq_true rfl⟩ dL_build_79 rfl ?_
      refine j_iadd M dL_build_82 ?_
      refine jx_callV (As := [.int (m_ofCrane K u3 (sZ S (K 13)) 10), .int ((1 : Int32) + (m_below K u3 (x >>> (3 &&& 31)) 40))]) M cf_X7_load wM_L_56 (cx_load hlt (S := u3) b3.1.g.1 b3.1.g.2.1 b3.1.g.2.2 (m_ofCrane K u3 (sZ S (K 13)) 10) ((1 : Int32) + (m_below K u3 (x >>> (3 &&& 31)) 40)) b3.1.l) b3.1.g.1.k0.1 (pAt_7 E _ b3.1.g.1.k0.2) rfl rfl ⟨Nat.le_of_ble_eq_true rfl, Nat.le_of_ble_eq_true rfl⟩ (Nat.le_of_ble_eq_true rfl) ⟨Nat.le_of_ble_eq_true rfl, Nat.le_of_ble_eq_true rfl⟩ dL_build_83 rfl (fun v u4 hu => ?_) (fun X u4 hx => ?_)
      · obtain ⟨h0_4, q4, T4, hq4, hT4, rfl, A4, G4, L4⟩ := hu
        have e4 : ES u3 T4 := by rw [hT4]; exact (ES.nw hq4).tr (ES.ss ⟨rfl, rfl, rfl, rfl, rfl, rfl, rfl⟩)
        have kp4 : KP E K u3 u4 N := act_load b3.1 h0_4 hq4 hT4 A4 G4 L4
        have bb4 : BLD E K S N u4 := ⟨kp4.1, b3.2.1.tr kp4.2.1, b3.2.2.1.tr (ka_add e4 (by rw [hT4]) A4), b3.2.2.2.tr kp4.2.2.2⟩
        refine j_pop M dL_build_86 rfl ?_
        refine j_goto (tgt := 92) M dL_build_87 (by decide) ?_
        exact jh_ret (j_vret M dL_build_92 (by decide) (by decide) ⟨rfl, bb4⟩)
      · obtain ⟨eX, hu⟩ := exN3 hx (load_03 (ok_plumb b3.1 (show sZ S (K 13) < sZ u3 (K 13) by omega)) (bl_ok 40 1 60 rfl rfl rfl (by decide) (by decide) (by decide)))
        rw [load_S] at hu
        rw [hu]
        exact build_exc M hT eX (by intro x hx; simp [tableOf] at hx; subst hx; decide) (by decide) (by decide) ⟨rfl, b3⟩
    · have k03 : (m_crane K S (m_below K S (x >>> (3 &&& 31)) (nI C)) ((3 : Int32) + (m_below K S (x >>> (2 &&& 31)) 28)) ((2 : Int32) + (m_below K S (x >>> (5 &&& 31)) 8)) ((5 : Int32) + (m_below K S (x >>> (4 &&& 31)) 300)) (m_below K S (x >>> (6 &&& 31)) 8)).1 = 0 ∨ (m_crane K S (m_below K S (x >>> (3 &&& 31)) (nI C)) ((3 : Int32) + (m_below K S (x >>> (2 &&& 31)) 28)) ((2 : Int32) + (m_below K S (x >>> (5 &&& 31)) 8)) ((5 : Int32) + (m_below K S (x >>> (4 &&& 31)) 300)) (m_below K S (x >>> (6 &&& 31)) 8)).1 = 3 := crane_03 (bl_cell hC0 hC6 hcC) (bl_ok 28 3 30 rfl rfl rfl (by decide) (by decide) (by decide)) (bl_ok 8 2 9 rfl rfl rfl (by decide) (by decide) (by decide)) (bl_ok 300 5 400 rfl rfl rfl (by decide) (by decide) (by decide)) (bl_ok0 8 7 rfl rfl (by decide) (by decide) (by decide))
      have r20 : (2 : Int32) + m_below K S (x >>> (5 &&& 31)) 8 ≤ 20 := le20_of (bl_ok 8 2 9 rfl rfl rfl (by decide) (by decide) (by decide))
      rcases hx with hx | ⟨eX, h0_3, q3, T3, hq3, hT3, hu, -⟩
      · obtain ⟨eX, hu⟩ := exN3 hx k03
        rw [crane_S] at hu
        rw [hu]
        exact build_exc M hT eX (by intro x hx; simp [tableOf] at hx; subst hx; decide) (by decide) (by decide) ⟨rfl, h, MO.rf, KA.rf, TT.rf⟩
      · rw [hu]
        refine jx_df M (fun hdu => ?_)
        have kc := iv_crane0 h hq3 r20 hT3 hdu
        exact build_exc M hT eX (by intro x hx; simp [tableOf] at hx; subst hx; decide) (by decide) (by decide) ⟨rfl, kc.1.1, kc.1.2.1, kc.2, kc.1.2.2.2⟩
