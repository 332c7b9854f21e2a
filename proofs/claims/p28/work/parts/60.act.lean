/-! the law's act -/
theorem wind_S {K : Nat → Nat} {S : PS} {t f b : Int32} : (m_wind K S t f b).2.2 = S := by unfold m_wind; (repeat' split) <;> rfl
theorem zone_S {K : Nat → Nat} {S : PS} {x w h f t : Int32} : (m_zone K S x w h f t).2.2 = S := by unfold m_zone; (repeat' split) <;> rfl
theorem load_S {K : Nat → Nat} {S : PS} {w g : Int32} : (m_load K S w g).2.2 = S := by unfold m_load; (repeat' split) <;> rfl
theorem crane_S {K : Nat → Nat} {S : PS} {w a r o b : Int32} : (m_crane K S w a r o b).2.2 = S := by unfold m_crane; (repeat' split) <;> rfl
set_option maxHeartbeats 4000000 in
set_option maxRecDepth 100000 in
theorem c_act {l : Launch} (hlt : l.stackTraces = false) {E : EV} {K : Nat → Nat} {S : PS} {N C sa : Nat} (h : IV E K S N) (hN : N ≤ 2147483000) (hC0 : 0 < C) (hC6 : C ≤ 196) (hf : FR K S sa 1) (h0 : sA S sa 0 = 0) (x w : Int32) : CTH l yL_act cL_act 10 none hhA 9 206 25 150 E [.ref (K 0), .int x, .int w, .int (nI C), .ref sa] S NC3 (fun v u => v = none ∧ ACT E K S sa N u) := by
  have hW := h.g.1
  have hA := h.g.2.1
  have hM := h.g.2.2
  have k0 : KP E K S S N := KP.rf h
  refine CTH.of (by decide) (Nat.le_of_ble_eq_true rfl) ?_
  intro p e s m below meth c M hn hT
  have M : MC E p s m _ meth c cL_act RL 10 none := M
  show J p l e _ s m _ below meth c _ E 10 0 [(0, .ref (K 0)), (1, .int x), (2, .int w), (3, .int (nI C)), (4, .ref sa)] [] S 0 0
  refine j_iconst (v := 1) M dL_act_0 (by decide) ?_
  refine j_aload_n M dL_act_1 rfl ?_
  refine j_iconst (v := 3) M dL_act_2 (by decide) ?_
  refine j_callV1 (As := [.int 3]) (x := .int (nI (sZ S (K 13)))) M cf_X7_many wM_L_25 (cm_3 k0.1.g.1 k0.1.g.2.1 k0.1.g.2.2) k0.1.g.1.k0.1 (pAt_7 E _ k0.1.g.1.k0.2) rfl rfl ⟨Nat.le_of_ble_eq_true rfl, Nat.le_of_ble_eq_true rfl⟩ (Nat.le_of_ble_eq_true rfl) ⟨Nat.le_of_ble_eq_true rfl, Nat.le_of_ble_eq_true rfl⟩ dL_act_3 rfl ?_
  refine j_max M wM_L_61 dL_act_6 (Nat.le_of_ble_eq_true rfl) (Nat.le_of_ble_eq_true rfl) ⟨Nat.le_of_ble_eq_true rfl, Nat.le_of_ble_eq_true rfl⟩ ?_
  refine j_eq (st2 := [.int (nI (max 1 (sZ S (K 13))))]) rfl (by rw [(nmax h.n4).1]) rfl ?_
  refine j_istore (lv' := [(5, .int (nI (max 1 (sZ S (K 13))))), (0, .ref (K 0)), (1, .int x), (2, .int w), (3, .int (nI C)), (4, .ref sa)]) M dL_act_9 (by decide) rfl ?_
  refine j_iload_n M dL_act_11 rfl ?_
  refine j_iload M dL_act_12 rfl ?_
  refine j_callS1 (As := [.int x, .int (nI (max 1 (sZ S (K 13))))]) (x := .int (m_below K S x (nI (max 1 (sZ S (K 13)))))) M cf_L_below wM_L_18 (c_below k0.1.g.1 x (nI (max 1 (sZ S (K 13)))) (nmax h.n4).2) rfl ⟨Nat.le_of_ble_eq_true rfl, Nat.le_of_ble_eq_true rfl⟩ (Nat.le_of_ble_eq_true rfl) ⟨Nat.le_of_ble_eq_true rfl, Nat.le_of_ble_eq_true rfl⟩ dL_act_14 rfl ?_
  obtain ⟨kk, hkk, ekk⟩ := below_in (K := K) (S := S) (v := x) (n := max 1 (sZ S (K 13))) (by omega) (by have := h.n4; omega)
  have hk4 : kk < 4 := by have := h.n4; omega
  refine j_eq (st2 := [.int (nI kk)]) rfl (by rw [ekk]) rfl ?_
  refine j_istore (lv' := [(6, .int (nI kk)), (5, .int (nI (max 1 (sZ S (K 13))))), (0, .ref (K 0)), (1, .int x), (2, .int w), (3, .int (nI C)), (4, .ref sa)]) M dL_act_17 (by decide) rfl ?_
  refine j_iload_n M dL_act_19 rfl ?_
  by_cases c1 : w = 0
  · refine j_tableIn (tgt := 64) M dL_act_20 (by rw [c1]; decide) (by rw [c1]; decide) (by rw [c1]; rfl) (by decide) ?_
    refine j_aload_n M dL_act_64 rfl ?_
    refine j_iload_n M dL_act_65 rfl ?_
    refine j_iconst (v := 3) M dL_act_66 (by decide) ?_
    refine j_ishr M dL_act_67 ?_
    refine j_iload_n M dL_act_68 rfl ?_
    refine j_callS1 (As := [.int (x >>> (3 &&& 31)), .int (nI C)]) (x := .int (m_below K S (x >>> (3 &&& 31)) (nI C))) M cf_L_below wM_L_18 (c_below k0.1.g.1 (x >>> (3 &&& 31)) (nI C) (nI_lt (a := 0) (by omega) (by omega))) rfl ⟨Nat.le_of_ble_eq_true rfl, Nat.le_of_ble_eq_true rfl⟩ (Nat.le_of_ble_eq_true rfl) ⟨Nat.le_of_ble_eq_true rfl, Nat.le_of_ble_eq_true rfl⟩ dL_act_69 rfl ?_
    refine j_iload_n M dL_act_72 rfl ?_
    refine j_iconst (v := 5) M dL_act_73 (by decide) ?_
    refine j_ishr M dL_act_74 ?_
    refine j_bipush (v := 7) M dL_act_75 (by decide) ?_
    refine j_callS1 (As := [.int (x >>> (5 &&& 31)), .int 7]) (x := .int (m_below K S (x >>> (5 &&& 31)) 7)) M cf_L_below wM_L_18 (c_below k0.1.g.1 (x >>> (5 &&& 31)) 7 (by decide)) rfl ⟨Nat.le_of_ble_eq_true rfl, Nat.le_of_ble_eq_true rfl⟩ (Nat.le_of_ble_eq_true rfl) ⟨Nat.le_of_ble_eq_true rfl, Nat.le_of_ble_eq_true rfl⟩ dL_act_77 rfl ?_
    refine jx_callV (As := [.int (m_below K S (x >>> (3 &&& 31)) (nI C)), .int (m_below K S (x >>> (5 &&& 31)) 7)]) M cf_X7_level wM_L_66 (cx_level hlt k0.1.g.1 k0.1.g.2.1 k0.1.g.2.2 (m_below K S (x >>> (3 &&& 31)) (nI C)) (m_below K S (x >>> (5 &&& 31)) 7)) k0.1.g.1.k0.1 (pAt_7 E _ k0.1.g.1.k0.2) rfl rfl ⟨Nat.le_of_ble_eq_true rfl, Nat.le_of_ble_eq_true rfl⟩ (Nat.le_of_ble_eq_true rfl) ⟨Nat.le_of_ble_eq_true rfl, Nat.le_of_ble_eq_true rfl⟩ dL_act_80 rfl (fun v u1 hu => ?_) (fun X u1 hx => ?_)
    · obtain ⟨h0_1, rfl, hu1⟩ := hu
      have kp1 : KP E K S u1 (N + 5) := by rw [hu1]; exact k0.tr ((act_level k0.1 _ _).mono (by omega))
      have ka1 : KA K S u1 := by rw [hu1]; exact KA.tr KA.rf (ka_level _ _)
      refine j_pop M dL_act_83 rfl ?_
      refine j_goto (tgt := 327) M dL_act_84 (by decide) ?_
      refine j_goto (tgt := 339) M dL_act_327 (by decide) ?_
      exact jh_ret (j_vret M dL_act_339 (by decide) (by decide) ⟨rfl, act_ok hf h0 (kp1.mono (by omega)) ka1⟩)
    · obtain ⟨hX1, hu1⟩ := xN_x hx
      have kp1 : KP E K S u1 (N + 5) := by rw [hu1]; exact k0.tr ((act_level k0.1 _ _).mono (by omega))
      have ka1 : KA K S u1 := by rw [hu1]; exact KA.tr KA.rf (ka_level _ _)
      exact act_exc M hT hn hX1 (by intro x hx; simp [tableOf] at hx; rcases hx with rfl | rfl | rfl <;> decide) (by decide) (by decide) ⟨rfl, act_ok hf h0 kp1 ka1⟩
  · by_cases c2 : w = 1
    · refine j_tableIn (tgt := 87) M dL_act_20 (by rw [c2]; decide) (by rw [c2]; decide) (by rw [c2]; rfl) (by decide) ?_
      refine j_aload_n M dL_act_87 rfl ?_
      refine j_aload_n M dL_act_88 rfl ?_
      refine j_iconst (v := 1) M dL_act_89 (by decide) ?_
      refine j_callV1 (As := [.int 1]) (x := .int (sI S 39 (K 1))) M cf_X7_many wM_L_25 (cm_1 k0.1.g.1 k0.1.g.2.1 k0.1.g.2.2) k0.1.g.1.k0.1 (pAt_7 E _ k0.1.g.1.k0.2) rfl rfl ⟨Nat.le_of_ble_eq_true rfl, Nat.le_of_ble_eq_true rfl⟩ (Nat.le_of_ble_eq_true rfl) ⟨Nat.le_of_ble_eq_true rfl, Nat.le_of_ble_eq_true rfl⟩ dL_act_90 rfl ?_
      refine j_iload_n M dL_act_93 rfl ?_
      refine j_iconst (v := 3) M dL_act_94 (by decide) ?_
      refine j_ishr M dL_act_95 ?_
      refine j_bipush (v := 9) M dL_act_96 (by decide) ?_
      refine j_callS1 (As := [.int (x >>> (3 &&& 31)), .int 9]) (x := .int (m_below K S (x >>> (3 &&& 31)) 9)) M cf_L_below wM_L_18 (c_below k0.1.g.1 (x >>> (3 &&& 31)) 9 (by decide)) rfl ⟨Nat.le_of_ble_eq_true rfl, Nat.le_of_ble_eq_true rfl⟩ (Nat.le_of_ble_eq_true rfl) ⟨Nat.le_of_ble_eq_true rfl, Nat.le_of_ble_eq_true rfl⟩ dL_act_98 rfl ?_
      refine j_iadd M dL_act_101 ?_
      refine j_iload_n M dL_act_102 rfl ?_
      refine j_iconst (v := 5) M dL_act_103 (by decide) ?_
      refine j_ishr M dL_act_104 ?_
      refine j_iload_n M dL_act_105 rfl ?_
      refine j_iconst (v := 2) M dL_act_106 (by decide) ?_
      refine j_ishr M dL_act_107 ?_
      refine j_iconst (v := 2) M dL_act_108 (by decide) ?_
      refine j_callS1 (As := [.int (x >>> (2 &&& 31)), .int 2]) (x := .int (m_below K S (x >>> (2 &&& 31)) 2)) M cf_L_below wM_L_18 (c_below k0.1.g.1 (x >>> (2 &&& 31)) 2 (by decide)) rfl ⟨Nat.le_of_ble_eq_true rfl, Nat.le_of_ble_eq_true rfl⟩ (Nat.le_of_ble_eq_true rfl) ⟨Nat.le_of_ble_eq_true rfl, Nat.le_of_ble_eq_true rfl⟩ dL_act_109 rfl ?_
      refine j_if_ne (tgt := 120) M dL_act_112 (by decide) (fun c3 => ?_) (fun c3 => ?_)
      · refine j_bipush (v := 7) M dL_act_120 (by decide) ?_
        refine j_callS1 (As := [.int (x >>> (5 &&& 31)), .int 7]) (x := .int (m_below K S (x >>> (5 &&& 31)) 7)) M cf_L_below wM_L_18 (c_below k0.1.g.1 (x >>> (5 &&& 31)) 7 (by decide)) rfl ⟨Nat.le_of_ble_eq_true rfl, Nat.le_of_ble_eq_true rfl⟩ (Nat.le_of_ble_eq_true rfl) ⟨Nat.le_of_ble_eq_true rfl, Nat.le_of_ble_eq_true rfl⟩ dL_act_122 rfl ?_
        refine j_iload_n M dL_act_125 rfl ?_
        refine j_iconst (v := 4) M dL_act_126 (by decide) ?_
        refine j_ishr M dL_act_127 ?_
        refine j_bipush (v := 8) M dL_act_128 (by decide) ?_
        refine j_callS1 (As := [.int (x >>> (4 &&& 31)), .int 8]) (x := .int (m_below K S (x >>> (4 &&& 31)) 8)) M cf_L_below wM_L_18 (c_below k0.1.g.1 (x >>> (4 &&& 31)) 8 (by decide)) rfl ⟨Nat.le_of_ble_eq_true rfl, Nat.le_of_ble_eq_true rfl⟩ (Nat.le_of_ble_eq_true rfl) ⟨Nat.le_of_ble_eq_true rfl, Nat.le_of_ble_eq_true rfl⟩ dL_act_130 rfl ?_
        refine jx_callV (As := [.int ((sI S 39 (K 1)) + (m_below K S (x >>> (3 &&& 31)) 9)), .int (m_below K S (x >>> (5 &&& 31)) 7), .int (m_below K S (x >>> (4 &&& 31)) 8)]) M cf_X7_wind wM_L_69 (cx_wind hlt k0.1.g.1 k0.1.g.2.1 k0.1.g.2.2 ((sI S 39 (K 1)) + (m_below K S (x >>> (3 &&& 31)) 9)) (m_below K S (x >>> (5 &&& 31)) 7) (m_below K S (x >>> (4 &&& 31)) 8) k0.1.l) k0.1.g.1.k0.1 (pAt_7 E _ k0.1.g.1.k0.2) rfl rfl ⟨Nat.le_of_ble_eq_true rfl, Nat.le_of_ble_eq_true rfl⟩ (Nat.le_of_ble_eq_true rfl) ⟨Nat.le_of_ble_eq_true rfl, Nat.le_of_ble_eq_true rfl⟩ dL_act_133 rfl (fun v u2 hu => ?_) (fun X u2 hx => ?_)
        · obtain ⟨h0_2, q2, T2, hq2, hT2, rfl, A2, G2, L2⟩ := hu
          have e2 : ES S T2 := by rw [hT2]; exact (ES.nw hq2).tr (ES.ss ⟨rfl, rfl, rfl, rfl, rfl, rfl, rfl⟩)
          have kp2 : KP E K S u2 (N + 5) := k0.tr ((act_wind k0.1 h0_2 hq2 hT2 A2 G2 L2).mono (by omega))
          have ka2 : KA K S u2 := KA.tr KA.rf (ka_add e2 (by rw [hT2]) A2)
          refine j_pop M dL_act_136 rfl ?_
          refine j_goto (tgt := 327) M dL_act_137 (by decide) ?_
          refine j_goto (tgt := 339) M dL_act_327 (by decide) ?_
          exact jh_ret (j_vret M dL_act_339 (by decide) (by decide) ⟨rfl, act_ok hf h0 (kp2.mono (by omega)) ka2⟩)
        · obtain ⟨hX2, hu2⟩ := xN_x hx
          rw [wind_S] at hu2
          have kp2 : KP E K S u2 (N + 5) := by rw [hu2]; exact k0.mono (by omega)
          have ka2 : KA K S u2 := by rw [hu2]; exact KA.rf
          exact act_exc M hT hn hX2 (by intro x hx; simp [tableOf] at hx; rcases hx with rfl | rfl | rfl <;> decide) (by decide) (by decide) ⟨rfl, act_ok hf h0 kp2 ka2⟩
      · refine j_bipush (v := 10) M dL_act_115 (by decide) ?_
        refine j_goto (tgt := 122) M dL_act_117 (by decide) ?_
        refine j_callS1 (As := [.int (x >>> (5 &&& 31)), .int 10]) (x := .int (m_below K S (x >>> (5 &&& 31)) 10)) M cf_L_below wM_L_18 (c_below k0.1.g.1 (x >>> (5 &&& 31)) 10 (by decide)) rfl ⟨Nat.le_of_ble_eq_true rfl, Nat.le_of_ble_eq_true rfl⟩ (Nat.le_of_ble_eq_true rfl) ⟨Nat.le_of_ble_eq_true rfl, Nat.le_of_ble_eq_true rfl⟩ dL_act_122 rfl ?_
        refine j_iload_n M dL_act_125 rfl ?_
        refine j_iconst (v := 4) M dL_act_126 (by decide) ?_
        refine j_ishr M dL_act_127 ?_
        refine j_bipush (v := 8) M dL_act_128 (by decide) ?_
        refine j_callS1 (As := [.int (x >>> (4 &&& 31)), .int 8]) (x := .int (m_below K S (x >>> (4 &&& 31)) 8)) M cf_L_below wM_L_18 (c_below k0.1.g.1 (x >>> (4 &&& 31)) 8 (by decide)) rfl ⟨Nat.le_of_ble_eq_true rfl, Nat.le_of_ble_eq_true rfl⟩ (Nat.le_of_ble_eq_true rfl) ⟨Nat.le_of_ble_eq_true rfl, Nat.le_of_ble_eq_true rfl⟩ dL_act_130 rfl ?_
        refine jx_callV (As := [.int ((sI S 39 (K 1)) + (m_below K S (x >>> (3 &&& 31)) 9)), .int (m_below K S (x >>> (5 &&& 31)) 10), .int (m_below K S (x >>> (4 &&& 31)) 8)]) M cf_X7_wind wM_L_69 (cx_wind hlt k0.1.g.1 k0.1.g.2.1 k0.1.g.2.2 ((sI S 39 (K 1)) + (m_below K S (x >>> (3 &&& 31)) 9)) (m_below K S (x >>> (5 &&& 31)) 10) (m_below K S (x >>> (4 &&& 31)) 8) k0.1.l) k0.1.g.1.k0.1 (pAt_7 E _ k0.1.g.1.k0.2) rfl rfl ⟨Nat.le_of_ble_eq_true rfl, Nat.le_of_ble_eq_true rfl⟩ (Nat.le_of_ble_eq_true rfl) ⟨Nat.le_of_ble_eq_true rfl, Nat.le_of_ble_eq_true rfl⟩ dL_act_133 rfl (fun v u3 hu => ?_) (fun X u3 hx => ?_)
        · obtain ⟨h0_3, q3, T3, hq3, hT3, rfl, A3, G3, L3⟩ := hu
          have e3 : ES S T3 := by rw [hT3]; exact (ES.nw hq3).tr (ES.ss ⟨rfl, rfl, rfl, rfl, rfl, rfl, rfl⟩)
          have kp3 : KP E K S u3 (N + 5) := k0.tr ((act_wind k0.1 h0_3 hq3 hT3 A3 G3 L3).mono (by omega))
          have ka3 : KA K S u3 := KA.tr KA.rf (ka_add e3 (by rw [hT3]) A3)
          refine j_pop M dL_act_136 rfl ?_
          refine j_goto (tgt := 327) M dL_act_137 (by decide) ?_
          refine j_goto (tgt := 339) M dL_act_327 (by decide) ?_
          exact jh_ret (j_vret M dL_act_339 (by decide) (by decide) ⟨rfl, act_ok hf h0 (kp3.mono (by omega)) ka3⟩)
        · obtain ⟨hX3, hu3⟩ := xN_x hx
          rw [wind_S] at hu3
          have kp3 : KP E K S u3 (N + 5) := by rw [hu3]; exact k0.mono (by omega)
          have ka3 : KA K S u3 := by rw [hu3]; exact KA.rf
          exact act_exc M hT hn hX3 (by intro x hx; simp [tableOf] at hx; rcases hx with rfl | rfl | rfl <;> decide) (by decide) (by decide) ⟨rfl, act_ok hf h0 kp3 ka3⟩
    · by_cases c4 : w = 2
      · refine j_tableIn (tgt := 140) M dL_act_20 (by rw [c4]; decide) (by rw [c4]; decide) (by rw [c4]; rfl) (by decide) ?_
        refine j_aload_n M dL_act_140 rfl ?_
        refine j_iload_n M dL_act_141 rfl ?_
        refine j_iconst (v := 3) M dL_act_142 (by decide) ?_
        refine j_ishr M dL_act_143 ?_
        refine j_iload_n M dL_act_144 rfl ?_
        refine j_callS1 (As := [.int (x >>> (3 &&& 31)), .int (nI C)]) (x := .int (m_below K S (x >>> (3 &&& 31)) (nI C))) M cf_L_below wM_L_18 (c_below k0.1.g.1 (x >>> (3 &&& 31)) (nI C) (nI_lt (a := 0) (by omega) (by omega))) rfl ⟨Nat.le_of_ble_eq_true rfl, Nat.le_of_ble_eq_true rfl⟩ (Nat.le_of_ble_eq_true rfl) ⟨Nat.le_of_ble_eq_true rfl, Nat.le_of_ble_eq_true rfl⟩ dL_act_145 rfl ?_
        refine j_iconst (v := 1) M dL_act_148 (by decide) ?_
        refine j_iload_n M dL_act_149 rfl ?_
        refine j_iconst (v := 4) M dL_act_150 (by decide) ?_
        refine j_ishr M dL_act_151 ?_
        refine j_iconst (v := 4) M dL_act_152 (by decide) ?_
        refine j_callS1 (As := [.int (x >>> (4 &&& 31)), .int 4]) (x := .int (m_below K S (x >>> (4 &&& 31)) 4)) M cf_L_below wM_L_18 (c_below k0.1.g.1 (x >>> (4 &&& 31)) 4 (by decide)) rfl ⟨Nat.le_of_ble_eq_true rfl, Nat.le_of_ble_eq_true rfl⟩ (Nat.le_of_ble_eq_true rfl) ⟨Nat.le_of_ble_eq_true rfl, Nat.le_of_ble_eq_true rfl⟩ dL_act_153 rfl ?_
        refine j_iadd M dL_act_156 ?_
        refine j_iconst (v := 1) M dL_act_157 (by decide) ?_
        refine j_iload_n M dL_act_158 rfl ?_
        refine j_iconst (v := 5) M dL_act_159 (by decide) ?_
        refine j_ishr M dL_act_160 ?_
        refine j_iconst (v := 4) M dL_act_161 (by decide) ?_
        refine j_callS1 (As := [.int (x >>> (5 &&& 31)), .int 4]) (x := .int (m_below K S (x >>> (5 &&& 31)) 4)) M cf_L_below wM_L_18 (c_below k0.1.g.1 (x >>> (5 &&& 31)) 4 (by decide)) rfl ⟨Nat.le_of_ble_eq_true rfl, Nat.le_of_ble_eq_true rfl⟩ (Nat.le_of_ble_eq_true rfl) ⟨Nat.le_of_ble_eq_true rfl, Nat.le_of_ble_eq_true rfl⟩ dL_act_162 rfl ?_
        refine j_iadd M dL_act_165 ?_
        refine j_iload_n M dL_act_166 rfl ?_
        refine j_iconst (v := 2) M dL_act_167 (by decide) ?_
        refine j_ishr M dL_act_168 ?_
        refine j_bipush (v := 24) M dL_act_169 (by decide) ?_
        refine j_callS1 (As := [.int (x >>> (2 &&& 31)), .int 24]) (x := .int (m_below K S (x >>> (2 &&& 31)) 24)) M cf_L_below wM_L_18 (c_below k0.1.g.1 (x >>> (2 &&& 31)) 24 (by decide)) rfl ⟨Nat.le_of_ble_eq_true rfl, Nat.le_of_ble_eq_true rfl⟩ (Nat.le_of_ble_eq_true rfl) ⟨Nat.le_of_ble_eq_true rfl, Nat.le_of_ble_eq_true rfl⟩ dL_act_171 rfl ?_
        refine j_iload_n M dL_act_174 rfl ?_
        refine j_bipush (v := 6) M dL_act_175 (by decide) ?_
        refine j_ishr M dL_act_177 ?_
        refine j_bipush (v := 24) M dL_act_178 (by decide) ?_
        refine j_callS1 (As := [.int (x >>> (6 &&& 31)), .int 24]) (x := .int (m_below K S (x >>> (6 &&& 31)) 24)) M cf_L_below wM_L_18 (c_below k0.1.g.1 (x >>> (6 &&& 31)) 24 (by decide)) rfl ⟨Nat.le_of_ble_eq_true rfl, Nat.le_of_ble_eq_true rfl⟩ (Nat.le_of_ble_eq_true rfl) ⟨Nat.le_of_ble_eq_true rfl, Nat.le_of_ble_eq_true rfl⟩ dL_act_180 rfl ?_
        refine jx_callV (As := [.int (m_below K S (x >>> (3 &&& 31)) (nI C)), .int ((1 : Int32) + (m_below K S (x >>> (4 &&& 31)) 4)), .int ((1 : Int32) + (m_below K S (x >>> (5 &&& 31)) 4)), .int (m_below K S (x >>> (2 &&& 31)) 24), .int (m_below K S (x >>> (6 &&& 31)) 24)]) M cf_X7_zone wM_L_73 (cx_zone hlt k0.1.g.1 k0.1.g.2.1 k0.1.g.2.2 (m_below K S (x >>> (3 &&& 31)) (nI C)) ((1 : Int32) + (m_below K S (x >>> (4 &&& 31)) 4)) ((1 : Int32) + (m_below K S (x >>> (5 &&& 31)) 4)) (m_below K S (x >>> (2 &&& 31)) 24) (m_below K S (x >>> (6 &&& 31)) 24) k0.1.l) k0.1.g.1.k0.1 (pAt_7 E _ k0.1.g.1.k0.2) rfl rfl ⟨Nat.le_of_ble_eq_true rfl, Nat.le_of_ble_eq_true rfl⟩ (Nat.le_of_ble_eq_true rfl) ⟨Nat.le_of_ble_eq_true rfl, Nat.le_of_ble_eq_true rfl⟩ dL_act_183 rfl (fun v u4 hu => ?_) (fun X u4 hx => ?_)
        · obtain ⟨h0_4, q4, T4, hq4, hT4, rfl, A4, G4, L4⟩ := hu
          have e4 : ES S T4 := by rw [hT4]; exact (ES.nw hq4).tr (ES.ss ⟨rfl, rfl, rfl, rfl, rfl, rfl, rfl⟩)
          have kp4 : KP E K S u4 (N + 5) := k0.tr ((act_zone k0.1 hq4 hT4 A4 G4 L4).mono (by omega))
          have ka4 : KA K S u4 := KA.tr KA.rf (ka_add e4 (by rw [hT4]) A4)
          refine j_pop M dL_act_186 rfl ?_
          refine j_goto (tgt := 327) M dL_act_187 (by decide) ?_
          refine j_goto (tgt := 339) M dL_act_327 (by decide) ?_
          exact jh_ret (j_vret M dL_act_339 (by decide) (by decide) ⟨rfl, act_ok hf h0 (kp4.mono (by omega)) ka4⟩)
        · obtain ⟨hX4, hu4⟩ := xN_x hx
          rw [zone_S] at hu4
          have kp4 : KP E K S u4 (N + 5) := by rw [hu4]; exact k0.mono (by omega)
          have ka4 : KA K S u4 := by rw [hu4]; exact KA.rf
          exact act_exc M hT hn hX4 (by intro x hx; simp [tableOf] at hx; rcases hx with rfl | rfl | rfl <;> decide) (by decide) (by decide) ⟨rfl, act_ok hf h0 kp4 ka4⟩
      · by_cases c5 : w = 3
        · refine j_tableIn (tgt := 190) M dL_act_20 (by rw [c5]; decide) (by rw [c5]; decide) (by rw [c5]; rfl) (by decide) ?_
          refine j_aload_n M dL_act_190 rfl ?_
          refine j_iload M dL_act_191 rfl ?_
          refine jx_callV (As := [.int (nI kk)]) M cf_X7_hang wM_L_76 (cx_hang hlt k0.1.g.1 k0.1.g.2.1 k0.1.g.2.2 (k := kk) (by omega)) k0.1.g.1.k0.1 (pAt_7 E _ k0.1.g.1.k0.2) rfl rfl ⟨Nat.le_of_ble_eq_true rfl, Nat.le_of_ble_eq_true rfl⟩ (Nat.le_of_ble_eq_true rfl) ⟨Nat.le_of_ble_eq_true rfl, Nat.le_of_ble_eq_true rfl⟩ dL_act_193 rfl (fun v u5 hu => ?_) (fun X u5 hx => ?_)
          · obtain ⟨h0_5, rfl, hu5⟩ := hu
            have kp5 : KP E K S u5 (N + 5) := by rw [hu5]; exact k0.tr ((act_hang k0.1 _).mono (by omega))
            have ka5 : KA K S u5 := by rw [hu5]; exact KA.tr KA.rf (ka_hang _)
            refine j_pop M dL_act_196 rfl ?_
            refine j_goto (tgt := 327) M dL_act_197 (by decide) ?_
            refine j_goto (tgt := 339) M dL_act_327 (by decide) ?_
            exact jh_ret (j_vret M dL_act_339 (by decide) (by decide) ⟨rfl, act_ok hf h0 (kp5.mono (by omega)) ka5⟩)
          · obtain ⟨hX5, hu5⟩ := xN_x hx
            have kp5 : KP E K S u5 (N + 5) := by rw [hu5]; exact k0.tr ((act_hang k0.1 _).mono (by omega))
            have ka5 : KA K S u5 := by rw [hu5]; exact KA.tr KA.rf (ka_hang _)
            exact act_exc M hT hn hX5 (by intro x hx; simp [tableOf] at hx; rcases hx with rfl | rfl | rfl <;> decide) (by decide) (by decide) ⟨rfl, act_ok hf h0 kp5 ka5⟩
        · by_cases c6 : w = 4
          · refine j_tableIn (tgt := 200) M dL_act_20 (by rw [c6]; decide) (by rw [c6]; decide) (by rw [c6]; rfl) (by decide) ?_
            refine j_aload_n M dL_act_200 rfl ?_
            refine j_iload M dL_act_201 rfl ?_
            refine jx_callV (As := [.int (nI kk)]) M cf_X7_set wM_L_79 (cx_set hlt k0.1.g.1 k0.1.g.2.1 k0.1.g.2.2 (k := kk) (by omega)) k0.1.g.1.k0.1 (pAt_7 E _ k0.1.g.1.k0.2) rfl rfl ⟨Nat.le_of_ble_eq_true rfl, Nat.le_of_ble_eq_true rfl⟩ (Nat.le_of_ble_eq_true rfl) ⟨Nat.le_of_ble_eq_true rfl, Nat.le_of_ble_eq_true rfl⟩ dL_act_203 rfl (fun v u6 hu => ?_) (fun X u6 hx => ?_)
            · obtain ⟨h0_6, rfl, hu6⟩ := hu
              have kp6 : KP E K S u6 (N + 5) := by rw [hu6]; exact k0.tr ((act_set k0.1 _).mono (by omega))
              have ka6 : KA K S u6 := by rw [hu6]; exact KA.tr KA.rf (ka_set _)
              refine j_pop M dL_act_206 rfl ?_
              refine j_goto (tgt := 327) M dL_act_207 (by decide) ?_
              refine j_goto (tgt := 339) M dL_act_327 (by decide) ?_
              exact jh_ret (j_vret M dL_act_339 (by decide) (by decide) ⟨rfl, act_ok hf h0 (kp6.mono (by omega)) ka6⟩)
            · obtain ⟨hX6, hu6⟩ := xN_x hx
              have kp6 : KP E K S u6 (N + 5) := by rw [hu6]; exact k0.tr ((act_set k0.1 _).mono (by omega))
              have ka6 : KA K S u6 := by rw [hu6]; exact KA.tr KA.rf (ka_set _)
              exact act_exc M hT hn hX6 (by intro x hx; simp [tableOf] at hx; rcases hx with rfl | rfl | rfl <;> decide) (by decide) (by decide) ⟨rfl, act_ok hf h0 kp6 ka6⟩
          · by_cases c7 : w = 5
            · refine j_tableIn (tgt := 210) M dL_act_20 (by rw [c7]; decide) (by rw [c7]; decide) (by rw [c7]; rfl) (by decide) ?_
              refine j_aload_n M dL_act_210 rfl ?_
              refine j_iload M dL_act_211 rfl ?_
              refine j_iload M dL_act_213 rfl ?_
              refine j_iconst (v := 1) M dL_act_215 (by decide) ?_
              refine j_iadd M dL_act_216 ?_
              refine j_iload M dL_act_217 rfl ?_
              refine j_irem M dL_act_219 (ne0p (nmax h.n4).2) ?_
              have hq4 : ((kk + 1) % max 1 (sZ S (K 13))) < 4 := by have := h.n4; have := Nat.mod_lt (kk + 1) (show 0 < max 1 (sZ S (K 13)) by omega); omega
              have eq4 := nrem kk (max 1 (sZ S (K 13))) hk4 (by omega) (by have := h.n4; omega)
              refine j_eq (st2 := [.int (nI ((kk + 1) % max 1 (sZ S (K 13)))), .int (nI kk), .ref (K 0)]) rfl (by rw [eq4]) rfl ?_
              refine jx_callV (As := [.int (nI kk), .int (nI ((kk + 1) % max 1 (sZ S (K 13))))]) M cf_X7_hand wM_L_82 (cx_hand hlt k0.1.g.1 k0.1.g.2.1 k0.1.g.2.2 (k := kk) (q := ((kk + 1) % max 1 (sZ S (K 13)))) (by omega) (by omega)) k0.1.g.1.k0.1 (pAt_7 E _ k0.1.g.1.k0.2) rfl rfl ⟨Nat.le_of_ble_eq_true rfl, Nat.le_of_ble_eq_true rfl⟩ (Nat.le_of_ble_eq_true rfl) ⟨Nat.le_of_ble_eq_true rfl, Nat.le_of_ble_eq_true rfl⟩ dL_act_220 rfl (fun v u7 hu => ?_) (fun X u7 hx => ?_)
              · obtain ⟨h0_7, rfl, hu7⟩ := hu
                have kp7 : KP E K S u7 (N + 5) := by rw [hu7]; exact k0.tr ((act_hand k0.1 _ _).mono (by omega))
                have ka7 : KA K S u7 := by rw [hu7]; exact KA.tr KA.rf (ka_hand _ _)
                refine j_pop M dL_act_223 rfl ?_
                refine j_goto (tgt := 327) M dL_act_224 (by decide) ?_
                refine j_goto (tgt := 339) M dL_act_327 (by decide) ?_
                exact jh_ret (j_vret M dL_act_339 (by decide) (by decide) ⟨rfl, act_ok hf h0 (kp7.mono (by omega)) ka7⟩)
              · obtain ⟨hX7, hu7⟩ := xN_x hx
                have kp7 : KP E K S u7 (N + 5) := by rw [hu7]; exact k0.tr ((act_hand k0.1 _ _).mono (by omega))
                have ka7 : KA K S u7 := by rw [hu7]; exact KA.tr KA.rf (ka_hand _ _)
                exact act_exc M hT hn hX7 (by intro x hx; simp [tableOf] at hx; rcases hx with rfl | rfl | rfl <;> decide) (by decide) (by decide) ⟨rfl, act_ok hf h0 kp7 ka7⟩
            · by_cases c8 : w = 6
              · refine j_tableIn (tgt := 227) M dL_act_20 (by rw [c8]; decide) (by rw [c8]; decide) (by rw [c8]; rfl) (by decide) ?_
                refine j_aload M dL_act_227 rfl ?_
                refine j_iconst (v := 0) M dL_act_229 (by decide) ?_
                refine j_iconst (v := 1) M dL_act_230 (by decide) ?_
                refine j_iast M hf.1.1 hf.1.2 (by rw [hf.2.1]; unfold vp_in; decide) dL_act_231 ?_
                have k1 : KP E K S (uA S sa (upd (sA S sa) (0 : Int32).toNatClampNeg 1)) N := iv_row h hf.2.2.1
                refine j_aload_n M dL_act_232 rfl ?_
                refine j_iconst (v := 1) M dL_act_233 (by decide) ?_
                refine j_iload_n M dL_act_234 rfl ?_
                refine j_iconst (v := 3) M dL_act_235 (by decide) ?_
                refine j_ishr M dL_act_236 ?_
                refine j_bipush (v := 9) M dL_act_237 (by decide) ?_
                refine j_callS1 (As := [.int (x >>> (3 &&& 31)), .int 9]) (x := .int (m_below K (uA S sa (upd (sA S sa) (0 : Int32).toNatClampNeg 1)) (x >>> (3 &&& 31)) 9)) M cf_L_below wM_L_18 (c_below (S := (uA S sa (upd (sA S sa) (0 : Int32).toNatClampNeg 1))) k1.1.g.1 (x >>> (3 &&& 31)) 9 (by decide)) rfl ⟨Nat.le_of_ble_eq_true rfl, Nat.le_of_ble_eq_true rfl⟩ (Nat.le_of_ble_eq_true rfl) ⟨Nat.le_of_ble_eq_true rfl, Nat.le_of_ble_eq_true rfl⟩ dL_act_239 rfl ?_
                refine j_iadd M dL_act_242 ?_
                refine jx_callV (As := [.int ((1 : Int32) + (m_below K (uA S sa (upd (sA S sa) (0 : Int32).toNatClampNeg 1)) (x >>> (3 &&& 31)) 9))]) M cf_X7_rest wM_L_85 (cx_rest hlt (S := (uA S sa (upd (sA S sa) (0 : Int32).toNatClampNeg 1))) k1.1.g.1 k1.1.g.2.1 k1.1.g.2.2 ((1 : Int32) + (m_below K (uA S sa (upd (sA S sa) (0 : Int32).toNatClampNeg 1)) (x >>> (3 &&& 31)) 9))) k1.1.g.1.k0.1 (pAt_7 E _ k1.1.g.1.k0.2) rfl rfl ⟨Nat.le_of_ble_eq_true rfl, Nat.le_of_ble_eq_true rfl⟩ (Nat.le_of_ble_eq_true rfl) ⟨Nat.le_of_ble_eq_true rfl, Nat.le_of_ble_eq_true rfl⟩ dL_act_243 rfl (fun v u8 hu => ?_) (fun X u8 hx => ?_)
                · obtain ⟨h0_8, rfl, hu8⟩ := hu
                  have ac8 : ACT E K S sa N u8 := act_wind1 h hf hu8
                  have kp8 : KP E K u8 u8 (N + 5) := KP.rf ac8.1
                  refine j_pop M dL_act_246 rfl ?_
                  refine j_goto (tgt := 327) M dL_act_247 (by decide) ?_
                  refine j_goto (tgt := 339) M dL_act_327 (by decide) ?_
                  exact jh_ret (j_vret M dL_act_339 (by decide) (by decide) ⟨rfl, ac8⟩)
                · obtain ⟨hX8, hu8⟩ := xN_x hx
                  exact act_exc M hT hn hX8 (by intro x hx; simp [tableOf] at hx; rcases hx with rfl | rfl | rfl <;> decide) (by decide) (by decide) ⟨rfl, act_wind1 h hf hu8⟩
              · refine j_tableOut (tgt := 250) M dL_act_20 (tsw_out (fun k h1 h2 => by
                  have hk : k = 0 ∨ k = 1 ∨ k = 2 ∨ k = 3 ∨ k = 4 ∨ k = 5 ∨ k = 6 := by omega
                  rcases hk with rfl | rfl | rfl | rfl | rfl | rfl | rfl
                  · exact c1
                  · exact c2
                  · exact c4
                  · exact c5
                  · exact c6
                  · exact c7
                  · exact c8
                  )) (by decide) ?_
                refine j_iconst (v := 0) M dL_act_250 (by decide) ?_
                refine j_istore (lv' := [(7, .int 0), (6, .int (nI kk)), (5, .int (nI (max 1 (sZ S (K 13))))), (0, .ref (K 0)), (1, .int x), (2, .int w), (3, .int (nI C)), (4, .ref sa)]) M dL_act_251 (by decide) rfl ?_
                refine j_iload M dL_act_253 rfl ?_
                refine j_iconst (v := 5) M dL_act_255 (by decide) ?_
                refine j_icmp_ge (tgt := 327) M dL_act_256 (by decide) (fun z => absurd z (by decide)) (fun _ => ?_)
                refine j_iload_n M dL_act_259 rfl ?_
                refine j_bipush (v := 7) M dL_act_260 (by decide) ?_
                refine j_icmp_ne (tgt := 269) M dL_act_262 (by decide) (fun c9 => ?_) (fun c9 => ?_)
                · refine j_iload_n M dL_act_269 rfl ?_
                  refine j_bipush (v := 8) M dL_act_270 (by decide) ?_
                  refine j_icmp_ne (tgt := 280) M dL_act_272 (by decide) (fun c10 => ?_) (fun c10 => ?_)
                  · refine j_iload_n M dL_act_280 rfl ?_
                    refine j_iload M dL_act_281 rfl ?_
                    refine j_iconst (v := 2) M dL_act_283 (by decide) ?_
                    refine j_iadd M dL_act_284 ?_
                    refine j_ishr M dL_act_285 ?_
                    refine j_bipush (v := 7) M dL_act_286 (by decide) ?_
                    refine j_callS1 (As := [.int (x >>> ((0 + 2) &&& 31)), .int 7]) (x := .int (m_below K S (x >>> ((0 + 2) &&& 31)) 7)) M cf_L_below wM_L_18 (c_below k0.1.g.1 (x >>> ((0 + 2) &&& 31)) 7 (by decide)) rfl ⟨Nat.le_of_ble_eq_true rfl, Nat.le_of_ble_eq_true rfl⟩ (Nat.le_of_ble_eq_true rfl) ⟨Nat.le_of_ble_eq_true rfl, Nat.le_of_ble_eq_true rfl⟩ dL_act_288 rfl ?_
                    refine j_istore (lv' := [(8, .int (m_below K S (x >>> ((0 + 2) &&& 31)) 7)), (7, .int 0), (6, .int (nI kk)), (5, .int (nI (max 1 (sZ S (K 13))))), (0, .ref (K 0)), (1, .int x), (2, .int w), (3, .int (nI C)), (4, .ref sa)]) M dL_act_291 (by decide) rfl ?_
                    refine j_aload_n M dL_act_293 rfl ?_
                    refine j_iload M dL_act_294 rfl ?_
                    refine j_iload M dL_act_296 rfl ?_
                    refine jx_callV (As := [.int (nI kk), .int (m_below K S (x >>> ((0 + 2) &&& 31)) 7)]) M cf_X7_would wM_L_88 (cx_would hlt k0.1.g.1 k0.1.g.2.1 k0.1.g.2.2 (k := kk) (m_below K S (x >>> ((0 + 2) &&& 31)) 7) (by omega)) k0.1.g.1.k0.1 (pAt_7 E _ k0.1.g.1.k0.2) rfl rfl ⟨Nat.le_of_ble_eq_true rfl, Nat.le_of_ble_eq_true rfl⟩ (Nat.le_of_ble_eq_true rfl) ⟨Nat.le_of_ble_eq_true rfl, Nat.le_of_ble_eq_true rfl⟩ dL_act_298 rfl (fun v u9 hu => ?_) (fun X u9 hx => ?_)
                    · obtain ⟨h0_9, rfl, hu9⟩ := hu
                      have kp9 : KP E K S u9 (N + 0) := by rw [hu9]; exact k0.tr (act_would k0.1 kk (m_below K S (x >>> ((0 + 2) &&& 31)) 7)).1
                      have ka9 : KA K S u9 := by rw [hu9]; exact KA.tr KA.rf (ka_would _ _)
                      have wv9 : (m_step K u9 kk (m_below K S (x >>> ((0 + 2) &&& 31)) 7)).1 = 0 → (m_step K u9 kk (m_below K S (x >>> ((0 + 2) &&& 31)) 7)).2.1 = (m_wouldx K S kk (m_below K S (x >>> ((0 + 2) &&& 31)) 7)).2.1 := by rw [hu9]; exact (act_would k0.1 kk (m_below K S (x >>> ((0 + 2) &&& 31)) 7)).2 h0_9
                      refine j_istore (lv' := [(9, .int ((m_wouldx K S kk (m_below K S (x >>> ((0 + 2) &&& 31)) 7)).2.1)), (8, .int (m_below K S (x >>> ((0 + 2) &&& 31)) 7)), (7, .int 0), (6, .int (nI kk)), (5, .int (nI (max 1 (sZ S (K 13))))), (0, .ref (K 0)), (1, .int x), (2, .int w), (3, .int (nI C)), (4, .ref sa)]) M dL_act_301 (by decide) rfl ?_
                      refine j_aload_n M dL_act_303 rfl ?_
                      refine j_iload M dL_act_304 rfl ?_
                      refine j_iload M dL_act_306 rfl ?_
                      refine jx_callV (As := [.int (nI kk), .int (m_below K S (x >>> ((0 + 2) &&& 31)) 7)]) M cf_X7_step wM_L_91 (cx_step hlt (S := u9) kp9.1.g.1 kp9.1.g.2.1 kp9.1.g.2.2 (k := kk) (m_below K S (x >>> ((0 + 2) &&& 31)) 7) (by omega)) kp9.1.g.1.k0.1 (pAt_7 E _ kp9.1.g.1.k0.2) rfl rfl ⟨Nat.le_of_ble_eq_true rfl, Nat.le_of_ble_eq_true rfl⟩ (Nat.le_of_ble_eq_true rfl) ⟨Nat.le_of_ble_eq_true rfl, Nat.le_of_ble_eq_true rfl⟩ dL_act_308 rfl (fun v u10 hu => ?_) (fun X u10 hx => ?_)
                      · obtain ⟨h0_10, rfl, hu10⟩ := hu
                        have kp10 : KP E K S u10 (N + 1) := by rw [hu10]; exact kp9.tr (act_step kp9.1 (by omega) kk (m_below K S (x >>> ((0 + 2) &&& 31)) 7))
                        have ka10 : KA K S u10 := by rw [hu10]; exact KA.tr ka9 (ka_step _ _)
                        have same10 := wv9 h0_10
                        refine j_iload M dL_act_311 rfl ?_
                        refine j_icmp_eq (tgt := 321) M dL_act_313 (by decide) (fun _ => ?_) (fun z => absurd same10 z)
                        refine j_iinc (v := (0 + 1)) (lv' := [(7, .int (0 + 1)), (9, .int ((m_wouldx K S kk (m_below K S (x >>> ((0 + 2) &&& 31)) 7)).2.1)), (8, .int (m_below K S (x >>> ((0 + 2) &&& 31)) 7)), (6, .int (nI kk)), (5, .int (nI (max 1 (sZ S (K 13))))), (0, .ref (K 0)), (1, .int x), (2, .int w), (3, .int (nI C)), (4, .ref sa)]) M dL_act_321 rfl rfl (by decide) rfl ?_
                        refine j_goto (tgt := 253) M dL_act_324 (by decide) ?_
                        refine j_eq (lv2 := [(7, .int 1), (9, .int ((m_wouldx K S kk (m_below K S (x >>> ((0 + 2) &&& 31)) 7)).2.1)), (8, .int (m_below K S (x >>> ((0 + 2) &&& 31)) 7)), (6, .int (nI kk)), (5, .int (nI (max 1 (sZ S (K 13))))), (0, .ref (K 0)), (1, .int x), (2, .int w), (3, .int (nI C)), (4, .ref sa)]) (by rw [show (0 + 1 : Int32) = 1 from by decide]) rfl rfl ?_
                        refine j_iload M dL_act_253 rfl ?_
                        refine j_iconst (v := 5) M dL_act_255 (by decide) ?_
                        refine j_icmp_ge (tgt := 327) M dL_act_256 (by decide) (fun z => absurd z (by decide)) (fun _ => ?_)
                        refine j_iload_n M dL_act_259 rfl ?_
                        refine j_bipush (v := 7) M dL_act_260 (by decide) ?_
                        refine j_icmp_ne (tgt := 269) M dL_act_262 (by decide) (fun _ => ?_) (fun z => absurd z c9)
                        refine j_iload_n M dL_act_269 rfl ?_
                        refine j_bipush (v := 8) M dL_act_270 (by decide) ?_
                        refine j_icmp_ne (tgt := 280) M dL_act_272 (by decide) (fun _ => ?_) (fun z => absurd z c10)
                        refine j_iload_n M dL_act_280 rfl ?_
                        refine j_iload M dL_act_281 rfl ?_
                        refine j_iconst (v := 2) M dL_act_283 (by decide) ?_
                        refine j_iadd M dL_act_284 ?_
                        refine j_ishr M dL_act_285 ?_
                        refine j_bipush (v := 7) M dL_act_286 (by decide) ?_
                        refine j_callS1 (As := [.int (x >>> ((1 + 2) &&& 31)), .int 7]) (x := .int (m_below K u10 (x >>> ((1 + 2) &&& 31)) 7)) M cf_L_below wM_L_18 (c_below (S := u10) kp10.1.g.1 (x >>> ((1 + 2) &&& 31)) 7 (by decide)) rfl ⟨Nat.le_of_ble_eq_true rfl, Nat.le_of_ble_eq_true rfl⟩ (Nat.le_of_ble_eq_true rfl) ⟨Nat.le_of_ble_eq_true rfl, Nat.le_of_ble_eq_true rfl⟩ dL_act_288 rfl ?_
                        refine j_istore (lv' := [(8, .int (m_below K u10 (x >>> ((1 + 2) &&& 31)) 7)), (7, .int 1), (9, .int ((m_wouldx K S kk (m_below K S (x >>> ((0 + 2) &&& 31)) 7)).2.1)), (6, .int (nI kk)), (5, .int (nI (max 1 (sZ S (K 13))))), (0, .ref (K 0)), (1, .int x), (2, .int w), (3, .int (nI C)), (4, .ref sa)]) M dL_act_291 (by decide) rfl ?_
                        refine j_aload_n M dL_act_293 rfl ?_
                        refine j_iload M dL_act_294 rfl ?_
                        refine j_iload M dL_act_296 rfl ?_
                        refine jx_callV (As := [.int (nI kk), .int (m_below K u10 (x >>> ((1 + 2) &&& 31)) 7)]) M cf_X7_would wM_L_88 (cx_would hlt (S := u10) kp10.1.g.1 kp10.1.g.2.1 kp10.1.g.2.2 (k := kk) (m_below K u10 (x >>> ((1 + 2) &&& 31)) 7) (by omega)) kp10.1.g.1.k0.1 (pAt_7 E _ kp10.1.g.1.k0.2) rfl rfl ⟨Nat.le_of_ble_eq_true rfl, Nat.le_of_ble_eq_true rfl⟩ (Nat.le_of_ble_eq_true rfl) ⟨Nat.le_of_ble_eq_true rfl, Nat.le_of_ble_eq_true rfl⟩ dL_act_298 rfl (fun v u11 hu => ?_) (fun X u11 hx => ?_)
                        · obtain ⟨h0_11, rfl, hu11⟩ := hu
                          have kp11 : KP E K S u11 (N + 1) := by rw [hu11]; exact kp10.tr (act_would kp10.1 kk (m_below K u10 (x >>> ((1 + 2) &&& 31)) 7)).1
                          have ka11 : KA K S u11 := by rw [hu11]; exact KA.tr ka10 (ka_would _ _)
                          have wv11 : (m_step K u11 kk (m_below K u10 (x >>> ((1 + 2) &&& 31)) 7)).1 = 0 → (m_step K u11 kk (m_below K u10 (x >>> ((1 + 2) &&& 31)) 7)).2.1 = (m_wouldx K u10 kk (m_below K u10 (x >>> ((1 + 2) &&& 31)) 7)).2.1 := by rw [hu11]; exact (act_would kp10.1 kk (m_below K u10 (x >>> ((1 + 2) &&& 31)) 7)).2 h0_11
                          refine j_istore (lv' := [(9, .int ((m_wouldx K u10 kk (m_below K u10 (x >>> ((1 + 2) &&& 31)) 7)).2.1)), (8, .int (m_below K u10 (x >>> ((1 + 2) &&& 31)) 7)), (7, .int 1), (6, .int (nI kk)), (5, .int (nI (max 1 (sZ S (K 13))))), (0, .ref (K 0)), (1, .int x), (2, .int w), (3, .int (nI C)), (4, .ref sa)]) M dL_act_301 (by decide) rfl ?_
                          refine j_aload_n M dL_act_303 rfl ?_
                          refine j_iload M dL_act_304 rfl ?_
                          refine j_iload M dL_act_306 rfl ?_
                          refine jx_callV (As := [.int (nI kk), .int (m_below K u10 (x >>> ((1 + 2) &&& 31)) 7)]) M cf_X7_step wM_L_91 (cx_step hlt (S := u11) kp11.1.g.1 kp11.1.g.2.1 kp11.1.g.2.2 (k := kk) (m_below K u10 (x >>> ((1 + 2) &&& 31)) 7) (by omega)) kp11.1.g.1.k0.1 (pAt_7 E _ kp11.1.g.1.k0.2) rfl rfl ⟨Nat.le_of_ble_eq_true rfl, Nat.le_of_ble_eq_true rfl⟩ (Nat.le_of_ble_eq_true rfl) ⟨Nat.le_of_ble_eq_true rfl, Nat.le_of_ble_eq_true rfl⟩ dL_act_308 rfl (fun v u12 hu => ?_) (fun X u12 hx => ?_)
                          · obtain ⟨h0_12, rfl, hu12⟩ := hu
                            have kp12 : KP E K S u12 (N + 2) := by rw [hu12]; exact kp11.tr (act_step kp11.1 (by omega) kk (m_below K u10 (x >>> ((1 + 2) &&& 31)) 7))
                            have ka12 : KA K S u12 := by rw [hu12]; exact KA.tr ka11 (ka_step _ _)
                            have same12 := wv11 h0_12
                            refine j_iload M dL_act_311 rfl ?_
                            refine j_icmp_eq (tgt := 321) M dL_act_313 (by decide) (fun _ => ?_) (fun z => absurd same12 z)
                            refine j_iinc (v := (1 + 1)) (lv' := [(7, .int (1 + 1)), (9, .int ((m_wouldx K u10 kk (m_below K u10 (x >>> ((1 + 2) &&& 31)) 7)).2.1)), (8, .int (m_below K u10 (x >>> ((1 + 2) &&& 31)) 7)), (6, .int (nI kk)), (5, .int (nI (max 1 (sZ S (K 13))))), (0, .ref (K 0)), (1, .int x), (2, .int w), (3, .int (nI C)), (4, .ref sa)]) M dL_act_321 rfl rfl (by decide) rfl ?_
                            refine j_goto (tgt := 253) M dL_act_324 (by decide) ?_
                            refine j_eq (lv2 := [(7, .int 2), (9, .int ((m_wouldx K u10 kk (m_below K u10 (x >>> ((1 + 2) &&& 31)) 7)).2.1)), (8, .int (m_below K u10 (x >>> ((1 + 2) &&& 31)) 7)), (6, .int (nI kk)), (5, .int (nI (max 1 (sZ S (K 13))))), (0, .ref (K 0)), (1, .int x), (2, .int w), (3, .int (nI C)), (4, .ref sa)]) (by rw [show (1 + 1 : Int32) = 2 from by decide]) rfl rfl ?_
                            refine j_iload M dL_act_253 rfl ?_
                            refine j_iconst (v := 5) M dL_act_255 (by decide) ?_
                            refine j_icmp_ge (tgt := 327) M dL_act_256 (by decide) (fun z => absurd z (by decide)) (fun _ => ?_)
                            refine j_iload_n M dL_act_259 rfl ?_
                            refine j_bipush (v := 7) M dL_act_260 (by decide) ?_
                            refine j_icmp_ne (tgt := 269) M dL_act_262 (by decide) (fun _ => ?_) (fun z => absurd z c9)
                            refine j_iload_n M dL_act_269 rfl ?_
                            refine j_bipush (v := 8) M dL_act_270 (by decide) ?_
                            refine j_icmp_ne (tgt := 280) M dL_act_272 (by decide) (fun _ => ?_) (fun z => absurd z c10)
                            refine j_iload_n M dL_act_280 rfl ?_
                            refine j_iload M dL_act_281 rfl ?_
                            refine j_iconst (v := 2) M dL_act_283 (by decide) ?_
                            refine j_iadd M dL_act_284 ?_
                            refine j_ishr M dL_act_285 ?_
                            refine j_bipush (v := 7) M dL_act_286 (by decide) ?_
                            refine j_callS1 (As := [.int (x >>> ((2 + 2) &&& 31)), .int 7]) (x := .int (m_below K u12 (x >>> ((2 + 2) &&& 31)) 7)) M cf_L_below wM_L_18 (c_below (S := u12) kp12.1.g.1 (x >>> ((2 + 2) &&& 31)) 7 (by decide)) rfl ⟨Nat.le_of_ble_eq_true rfl, Nat.le_of_ble_eq_true rfl⟩ (Nat.le_of_ble_eq_true rfl) ⟨Nat.le_of_ble_eq_true rfl, Nat.le_of_ble_eq_true rfl⟩ dL_act_288 rfl ?_
                            refine j_istore (lv' := [(8, .int (m_below K u12 (x >>> ((2 + 2) &&& 31)) 7)), (7, .int 2), (9, .int ((m_wouldx K u10 kk (m_below K u10 (x >>> ((1 + 2) &&& 31)) 7)).2.1)), (6, .int (nI kk)), (5, .int (nI (max 1 (sZ S (K 13))))), (0, .ref (K 0)), (1, .int x), (2, .int w), (3, .int (nI C)), (4, .ref sa)]) M dL_act_291 (by decide) rfl ?_
                            refine j_aload_n M dL_act_293 rfl ?_
                            refine j_iload M dL_act_294 rfl ?_
                            refine j_iload M dL_act_296 rfl ?_
                            refine jx_callV (As := [.int (nI kk), .int (m_below K u12 (x >>> ((2 + 2) &&& 31)) 7)]) M cf_X7_would wM_L_88 (cx_would hlt (S := u12) kp12.1.g.1 kp12.1.g.2.1 kp12.1.g.2.2 (k := kk) (m_below K u12 (x >>> ((2 + 2) &&& 31)) 7) (by omega)) kp12.1.g.1.k0.1 (pAt_7 E _ kp12.1.g.1.k0.2) rfl rfl ⟨Nat.le_of_ble_eq_true rfl, Nat.le_of_ble_eq_true rfl⟩ (Nat.le_of_ble_eq_true rfl) ⟨Nat.le_of_ble_eq_true rfl, Nat.le_of_ble_eq_true rfl⟩ dL_act_298 rfl (fun v u13 hu => ?_) (fun X u13 hx => ?_)
                            · obtain ⟨h0_13, rfl, hu13⟩ := hu
                              have kp13 : KP E K S u13 (N + 2) := by rw [hu13]; exact kp12.tr (act_would kp12.1 kk (m_below K u12 (x >>> ((2 + 2) &&& 31)) 7)).1
                              have ka13 : KA K S u13 := by rw [hu13]; exact KA.tr ka12 (ka_would _ _)
                              have wv13 : (m_step K u13 kk (m_below K u12 (x >>> ((2 + 2) &&& 31)) 7)).1 = 0 → (m_step K u13 kk (m_below K u12 (x >>> ((2 + 2) &&& 31)) 7)).2.1 = (m_wouldx K u12 kk (m_below K u12 (x >>> ((2 + 2) &&& 31)) 7)).2.1 := by rw [hu13]; exact (act_would kp12.1 kk (m_below K u12 (x >>> ((2 + 2) &&& 31)) 7)).2 h0_13
                              refine j_istore (lv' := [(9, .int ((m_wouldx K u12 kk (m_below K u12 (x >>> ((2 + 2) &&& 31)) 7)).2.1)), (8, .int (m_below K u12 (x >>> ((2 + 2) &&& 31)) 7)), (7, .int 2), (6, .int (nI kk)), (5, .int (nI (max 1 (sZ S (K 13))))), (0, .ref (K 0)), (1, .int x), (2, .int w), (3, .int (nI C)), (4, .ref sa)]) M dL_act_301 (by decide) rfl ?_
                              refine j_aload_n M dL_act_303 rfl ?_
                              refine j_iload M dL_act_304 rfl ?_
                              refine j_iload M dL_act_306 rfl ?_
                              refine jx_callV (As := [.int (nI kk), .int (m_below K u12 (x >>> ((2 + 2) &&& 31)) 7)]) M cf_X7_step wM_L_91 (cx_step hlt (S := u13) kp13.1.g.1 kp13.1.g.2.1 kp13.1.g.2.2 (k := kk) (m_below K u12 (x >>> ((2 + 2) &&& 31)) 7) (by omega)) kp13.1.g.1.k0.1 (pAt_7 E _ kp13.1.g.1.k0.2) rfl rfl ⟨Nat.le_of_ble_eq_true rfl, Nat.le_of_ble_eq_true rfl⟩ (Nat.le_of_ble_eq_true rfl) ⟨Nat.le_of_ble_eq_true rfl, Nat.le_of_ble_eq_true rfl⟩ dL_act_308 rfl (fun v u14 hu => ?_) (fun X u14 hx => ?_)
                              · obtain ⟨h0_14, rfl, hu14⟩ := hu
                                have kp14 : KP E K S u14 (N + 3) := by rw [hu14]; exact kp13.tr (act_step kp13.1 (by omega) kk (m_below K u12 (x >>> ((2 + 2) &&& 31)) 7))
                                have ka14 : KA K S u14 := by rw [hu14]; exact KA.tr ka13 (ka_step _ _)
                                have same14 := wv13 h0_14
                                refine j_iload M dL_act_311 rfl ?_
                                refine j_icmp_eq (tgt := 321) M dL_act_313 (by decide) (fun _ => ?_) (fun z => absurd same14 z)
                                refine j_iinc (v := (2 + 1)) (lv' := [(7, .int (2 + 1)), (9, .int ((m_wouldx K u12 kk (m_below K u12 (x >>> ((2 + 2) &&& 31)) 7)).2.1)), (8, .int (m_below K u12 (x >>> ((2 + 2) &&& 31)) 7)), (6, .int (nI kk)), (5, .int (nI (max 1 (sZ S (K 13))))), (0, .ref (K 0)), (1, .int x), (2, .int w), (3, .int (nI C)), (4, .ref sa)]) M dL_act_321 rfl rfl (by decide) rfl ?_
                                refine j_goto (tgt := 253) M dL_act_324 (by decide) ?_
                                refine j_eq (lv2 := [(7, .int 3), (9, .int ((m_wouldx K u12 kk (m_below K u12 (x >>> ((2 + 2) &&& 31)) 7)).2.1)), (8, .int (m_below K u12 (x >>> ((2 + 2) &&& 31)) 7)), (6, .int (nI kk)), (5, .int (nI (max 1 (sZ S (K 13))))), (0, .ref (K 0)), (1, .int x), (2, .int w), (3, .int (nI C)), (4, .ref sa)]) (by rw [show (2 + 1 : Int32) = 3 from by decide]) rfl rfl ?_
                                refine j_iload M dL_act_253 rfl ?_
                                refine j_iconst (v := 5) M dL_act_255 (by decide) ?_
                                refine j_icmp_ge (tgt := 327) M dL_act_256 (by decide) (fun z => absurd z (by decide)) (fun _ => ?_)
                                refine j_iload_n M dL_act_259 rfl ?_
                                refine j_bipush (v := 7) M dL_act_260 (by decide) ?_
                                refine j_icmp_ne (tgt := 269) M dL_act_262 (by decide) (fun _ => ?_) (fun z => absurd z c9)
                                refine j_iload_n M dL_act_269 rfl ?_
                                refine j_bipush (v := 8) M dL_act_270 (by decide) ?_
                                refine j_icmp_ne (tgt := 280) M dL_act_272 (by decide) (fun _ => ?_) (fun z => absurd z c10)
                                refine j_iload_n M dL_act_280 rfl ?_
                                refine j_iload M dL_act_281 rfl ?_
                                refine j_iconst (v := 2) M dL_act_283 (by decide) ?_
                                refine j_iadd M dL_act_284 ?_
                                refine j_ishr M dL_act_285 ?_
                                refine j_bipush (v := 7) M dL_act_286 (by decide) ?_
                                refine j_callS1 (As := [.int (x >>> ((3 + 2) &&& 31)), .int 7]) (x := .int (m_below K u14 (x >>> ((3 + 2) &&& 31)) 7)) M cf_L_below wM_L_18 (c_below (S := u14) kp14.1.g.1 (x >>> ((3 + 2) &&& 31)) 7 (by decide)) rfl ⟨Nat.le_of_ble_eq_true rfl, Nat.le_of_ble_eq_true rfl⟩ (Nat.le_of_ble_eq_true rfl) ⟨Nat.le_of_ble_eq_true rfl, Nat.le_of_ble_eq_true rfl⟩ dL_act_288 rfl ?_
                                refine j_istore (lv' := [(8, .int (m_below K u14 (x >>> ((3 + 2) &&& 31)) 7)), (7, .int 3), (9, .int ((m_wouldx K u12 kk (m_below K u12 (x >>> ((2 + 2) &&& 31)) 7)).2.1)), (6, .int (nI kk)), (5, .int (nI (max 1 (sZ S (K 13))))), (0, .ref (K 0)), (1, .int x), (2, .int w), (3, .int (nI C)), (4, .ref sa)]) M dL_act_291 (by decide) rfl ?_
                                refine j_aload_n M dL_act_293 rfl ?_
                                refine j_iload M dL_act_294 rfl ?_
                                refine j_iload M dL_act_296 rfl ?_
                                refine jx_callV (As := [.int (nI kk), .int (m_below K u14 (x >>> ((3 + 2) &&& 31)) 7)]) M cf_X7_would wM_L_88 (cx_would hlt (S := u14) kp14.1.g.1 kp14.1.g.2.1 kp14.1.g.2.2 (k := kk) (m_below K u14 (x >>> ((3 + 2) &&& 31)) 7) (by omega)) kp14.1.g.1.k0.1 (pAt_7 E _ kp14.1.g.1.k0.2) rfl rfl ⟨Nat.le_of_ble_eq_true rfl, Nat.le_of_ble_eq_true rfl⟩ (Nat.le_of_ble_eq_true rfl) ⟨Nat.le_of_ble_eq_true rfl, Nat.le_of_ble_eq_true rfl⟩ dL_act_298 rfl (fun v u15 hu => ?_) (fun X u15 hx => ?_)
                                · obtain ⟨h0_15, rfl, hu15⟩ := hu
                                  have kp15 : KP E K S u15 (N + 3) := by rw [hu15]; exact kp14.tr (act_would kp14.1 kk (m_below K u14 (x >>> ((3 + 2) &&& 31)) 7)).1
                                  have ka15 : KA K S u15 := by rw [hu15]; exact KA.tr ka14 (ka_would _ _)
                                  have wv15 : (m_step K u15 kk (m_below K u14 (x >>> ((3 + 2) &&& 31)) 7)).1 = 0 → (m_step K u15 kk (m_below K u14 (x >>> ((3 + 2) &&& 31)) 7)).2.1 = (m_wouldx K u14 kk (m_below K u14 (x >>> ((3 + 2) &&& 31)) 7)).2.1 := by rw [hu15]; exact (act_would kp14.1 kk (m_below K u14 (x >>> ((3 + 2) &&& 31)) 7)).2 h0_15
                                  refine j_istore (lv' := [(9, .int ((m_wouldx K u14 kk (m_below K u14 (x >>> ((3 + 2) &&& 31)) 7)).2.1)), (8, .int (m_below K u14 (x >>> ((3 + 2) &&& 31)) 7)), (7, .int 3), (6, .int (nI kk)), (5, .int (nI (max 1 (sZ S (K 13))))), (0, .ref (K 0)), (1, .int x), (2, .int w), (3, .int (nI C)), (4, .ref sa)]) M dL_act_301 (by decide) rfl ?_
                                  refine j_aload_n M dL_act_303 rfl ?_
                                  refine j_iload M dL_act_304 rfl ?_
                                  refine j_iload M dL_act_306 rfl ?_
                                  refine jx_callV (As := [.int (nI kk), .int (m_below K u14 (x >>> ((3 + 2) &&& 31)) 7)]) M cf_X7_step wM_L_91 (cx_step hlt (S := u15) kp15.1.g.1 kp15.1.g.2.1 kp15.1.g.2.2 (k := kk) (m_below K u14 (x >>> ((3 + 2) &&& 31)) 7) (by omega)) kp15.1.g.1.k0.1 (pAt_7 E _ kp15.1.g.1.k0.2) rfl rfl ⟨Nat.le_of_ble_eq_true rfl, Nat.le_of_ble_eq_true rfl⟩ (Nat.le_of_ble_eq_true rfl) ⟨Nat.le_of_ble_eq_true rfl, Nat.le_of_ble_eq_true rfl⟩ dL_act_308 rfl (fun v u16 hu => ?_) (fun X u16 hx => ?_)
                                  · obtain ⟨h0_16, rfl, hu16⟩ := hu
                                    have kp16 : KP E K S u16 (N + 4) := by rw [hu16]; exact kp15.tr (act_step kp15.1 (by omega) kk (m_below K u14 (x >>> ((3 + 2) &&& 31)) 7))
                                    have ka16 : KA K S u16 := by rw [hu16]; exact KA.tr ka15 (ka_step _ _)
                                    have same16 := wv15 h0_16
                                    refine j_iload M dL_act_311 rfl ?_
                                    refine j_icmp_eq (tgt := 321) M dL_act_313 (by decide) (fun _ => ?_) (fun z => absurd same16 z)
                                    refine j_iinc (v := (3 + 1)) (lv' := [(7, .int (3 + 1)), (9, .int ((m_wouldx K u14 kk (m_below K u14 (x >>> ((3 + 2) &&& 31)) 7)).2.1)), (8, .int (m_below K u14 (x >>> ((3 + 2) &&& 31)) 7)), (6, .int (nI kk)), (5, .int (nI (max 1 (sZ S (K 13))))), (0, .ref (K 0)), (1, .int x), (2, .int w), (3, .int (nI C)), (4, .ref sa)]) M dL_act_321 rfl rfl (by decide) rfl ?_
                                    refine j_goto (tgt := 253) M dL_act_324 (by decide) ?_
                                    refine j_eq (lv2 := [(7, .int 4), (9, .int ((m_wouldx K u14 kk (m_below K u14 (x >>> ((3 + 2) &&& 31)) 7)).2.1)), (8, .int (m_below K u14 (x >>> ((3 + 2) &&& 31)) 7)), (6, .int (nI kk)), (5, .int (nI (max 1 (sZ S (K 13))))), (0, .ref (K 0)), (1, .int x), (2, .int w), (3, .int (nI C)), (4, .ref sa)]) (by rw [show (3 + 1 : Int32) = 4 from by decide]) rfl rfl ?_
                                    refine j_iload M dL_act_253 rfl ?_
                                    refine j_iconst (v := 5) M dL_act_255 (by decide) ?_
                                    refine j_icmp_ge (tgt := 327) M dL_act_256 (by decide) (fun z => absurd z (by decide)) (fun _ => ?_)
                                    refine j_iload_n M dL_act_259 rfl ?_
                                    refine j_bipush (v := 7) M dL_act_260 (by decide) ?_
                                    refine j_icmp_ne (tgt := 269) M dL_act_262 (by decide) (fun _ => ?_) (fun z => absurd z c9)
                                    refine j_iload_n M dL_act_269 rfl ?_
                                    refine j_bipush (v := 8) M dL_act_270 (by decide) ?_
                                    refine j_icmp_ne (tgt := 280) M dL_act_272 (by decide) (fun _ => ?_) (fun z => absurd z c10)
                                    refine j_iload_n M dL_act_280 rfl ?_
                                    refine j_iload M dL_act_281 rfl ?_
                                    refine j_iconst (v := 2) M dL_act_283 (by decide) ?_
                                    refine j_iadd M dL_act_284 ?_
                                    refine j_ishr M dL_act_285 ?_
                                    refine j_bipush (v := 7) M dL_act_286 (by decide) ?_
                                    refine j_callS1 (As := [.int (x >>> ((4 + 2) &&& 31)), .int 7]) (x := .int (m_below K u16 (x >>> ((4 + 2) &&& 31)) 7)) M cf_L_below wM_L_18 (c_below (S := u16) kp16.1.g.1 (x >>> ((4 + 2) &&& 31)) 7 (by decide)) rfl ⟨Nat.le_of_ble_eq_true rfl, Nat.le_of_ble_eq_true rfl⟩ (Nat.le_of_ble_eq_true rfl) ⟨Nat.le_of_ble_eq_true rfl, Nat.le_of_ble_eq_true rfl⟩ dL_act_288 rfl ?_
                                    refine j_istore (lv' := [(8, .int (m_below K u16 (x >>> ((4 + 2) &&& 31)) 7)), (7, .int 4), (9, .int ((m_wouldx K u14 kk (m_below K u14 (x >>> ((3 + 2) &&& 31)) 7)).2.1)), (6, .int (nI kk)), (5, .int (nI (max 1 (sZ S (K 13))))), (0, .ref (K 0)), (1, .int x), (2, .int w), (3, .int (nI C)), (4, .ref sa)]) M dL_act_291 (by decide) rfl ?_
                                    refine j_aload_n M dL_act_293 rfl ?_
                                    refine j_iload M dL_act_294 rfl ?_
                                    refine j_iload M dL_act_296 rfl ?_
                                    refine jx_callV (As := [.int (nI kk), .int (m_below K u16 (x >>> ((4 + 2) &&& 31)) 7)]) M cf_X7_would wM_L_88 (cx_would hlt (S := u16) kp16.1.g.1 kp16.1.g.2.1 kp16.1.g.2.2 (k := kk) (m_below K u16 (x >>> ((4 + 2) &&& 31)) 7) (by omega)) kp16.1.g.1.k0.1 (pAt_7 E _ kp16.1.g.1.k0.2) rfl rfl ⟨Nat.le_of_ble_eq_true rfl, Nat.le_of_ble_eq_true rfl⟩ (Nat.le_of_ble_eq_true rfl) ⟨Nat.le_of_ble_eq_true rfl, Nat.le_of_ble_eq_true rfl⟩ dL_act_298 rfl (fun v u17 hu => ?_) (fun X u17 hx => ?_)
                                    · obtain ⟨h0_17, rfl, hu17⟩ := hu
                                      have kp17 : KP E K S u17 (N + 4) := by rw [hu17]; exact kp16.tr (act_would kp16.1 kk (m_below K u16 (x >>> ((4 + 2) &&& 31)) 7)).1
                                      have ka17 : KA K S u17 := by rw [hu17]; exact KA.tr ka16 (ka_would _ _)
                                      have wv17 : (m_step K u17 kk (m_below K u16 (x >>> ((4 + 2) &&& 31)) 7)).1 = 0 → (m_step K u17 kk (m_below K u16 (x >>> ((4 + 2) &&& 31)) 7)).2.1 = (m_wouldx K u16 kk (m_below K u16 (x >>> ((4 + 2) &&& 31)) 7)).2.1 := by rw [hu17]; exact (act_would kp16.1 kk (m_below K u16 (x >>> ((4 + 2) &&& 31)) 7)).2 h0_17
                                      refine j_istore (lv' := [(9, .int ((m_wouldx K u16 kk (m_below K u16 (x >>> ((4 + 2) &&& 31)) 7)).2.1)), (8, .int (m_below K u16 (x >>> ((4 + 2) &&& 31)) 7)), (7, .int 4), (6, .int (nI kk)), (5, .int (nI (max 1 (sZ S (K 13))))), (0, .ref (K 0)), (1, .int x), (2, .int w), (3, .int (nI C)), (4, .ref sa)]) M dL_act_301 (by decide) rfl ?_
                                      refine j_aload_n M dL_act_303 rfl ?_
                                      refine j_iload M dL_act_304 rfl ?_
                                      refine j_iload M dL_act_306 rfl ?_
                                      refine jx_callV (As := [.int (nI kk), .int (m_below K u16 (x >>> ((4 + 2) &&& 31)) 7)]) M cf_X7_step wM_L_91 (cx_step hlt (S := u17) kp17.1.g.1 kp17.1.g.2.1 kp17.1.g.2.2 (k := kk) (m_below K u16 (x >>> ((4 + 2) &&& 31)) 7) (by omega)) kp17.1.g.1.k0.1 (pAt_7 E _ kp17.1.g.1.k0.2) rfl rfl ⟨Nat.le_of_ble_eq_true rfl, Nat.le_of_ble_eq_true rfl⟩ (Nat.le_of_ble_eq_true rfl) ⟨Nat.le_of_ble_eq_true rfl, Nat.le_of_ble_eq_true rfl⟩ dL_act_308 rfl (fun v u18 hu => ?_) (fun X u18 hx => ?_)
                                      · obtain ⟨h0_18, rfl, hu18⟩ := hu
                                        have kp18 : KP E K S u18 (N + 5) := by rw [hu18]; exact kp17.tr (act_step kp17.1 (by omega) kk (m_below K u16 (x >>> ((4 + 2) &&& 31)) 7))
                                        have ka18 : KA K S u18 := by rw [hu18]; exact KA.tr ka17 (ka_step _ _)
                                        have same18 := wv17 h0_18
                                        refine j_iload M dL_act_311 rfl ?_
                                        refine j_icmp_eq (tgt := 321) M dL_act_313 (by decide) (fun _ => ?_) (fun z => absurd same18 z)
                                        refine j_iinc (v := (4 + 1)) (lv' := [(7, .int (4 + 1)), (9, .int ((m_wouldx K u16 kk (m_below K u16 (x >>> ((4 + 2) &&& 31)) 7)).2.1)), (8, .int (m_below K u16 (x >>> ((4 + 2) &&& 31)) 7)), (6, .int (nI kk)), (5, .int (nI (max 1 (sZ S (K 13))))), (0, .ref (K 0)), (1, .int x), (2, .int w), (3, .int (nI C)), (4, .ref sa)]) M dL_act_321 rfl rfl (by decide) rfl ?_
                                        refine j_goto (tgt := 253) M dL_act_324 (by decide) ?_
                                        refine j_eq (lv2 := [(7, .int 5), (9, .int ((m_wouldx K u16 kk (m_below K u16 (x >>> ((4 + 2) &&& 31)) 7)).2.1)), (8, .int (m_below K u16 (x >>> ((4 + 2) &&& 31)) 7)), (6, .int (nI kk)), (5, .int (nI (max 1 (sZ S (K 13))))), (0, .ref (K 0)), (1, .int x), (2, .int w), (3, .int (nI C)), (4, .ref sa)]) (by rw [show (4 + 1 : Int32) = 5 from by decide]) rfl rfl ?_
                                        refine j_iload M dL_act_253 rfl ?_
                                        refine j_iconst (v := 5) M dL_act_255 (by decide) ?_
                                        refine j_icmp_ge (tgt := 327) M dL_act_256 (by decide) (fun _ => ?_) (fun z => absurd (by decide) z)
                                        refine j_goto (tgt := 339) M dL_act_327 (by decide) ?_
                                        exact jh_ret (j_vret M dL_act_339 (by decide) (by decide) ⟨rfl, act_ok hf h0 (kp18.mono (by omega)) ka18⟩)
                                      · obtain ⟨hX18, hu18⟩ := xN_x hx
                                        have kp18 : KP E K S u18 (N + 5) := by rw [hu18]; exact kp17.tr (act_step kp17.1 (by omega) kk (m_below K u16 (x >>> ((4 + 2) &&& 31)) 7))
                                        have ka18 : KA K S u18 := by rw [hu18]; exact KA.tr ka17 (ka_step _ _)
                                        exact act_exc M hT hn hX18 (by intro x hx; simp [tableOf] at hx; rcases hx with rfl | rfl | rfl <;> decide) (by decide) (by decide) ⟨rfl, act_ok hf h0 (kp18.mono (by omega)) ka18⟩
                                    · obtain ⟨hX17, hu17⟩ := xN_x hx
                                      have kp17 : KP E K S u17 (N + 4) := by rw [hu17]; exact kp16.tr (act_would kp16.1 kk (m_below K u16 (x >>> ((4 + 2) &&& 31)) 7)).1
                                      have ka17 : KA K S u17 := by rw [hu17]; exact KA.tr ka16 (ka_would _ _)
                                      exact act_exc M hT hn hX17 (by intro x hx; simp [tableOf] at hx; rcases hx with rfl | rfl | rfl <;> decide) (by decide) (by decide) ⟨rfl, act_ok hf h0 (kp17.mono (by omega)) ka17⟩
                                  · obtain ⟨hX16, hu16⟩ := xN_x hx
                                    have kp16 : KP E K S u16 (N + 4) := by rw [hu16]; exact kp15.tr (act_step kp15.1 (by omega) kk (m_below K u14 (x >>> ((3 + 2) &&& 31)) 7))
                                    have ka16 : KA K S u16 := by rw [hu16]; exact KA.tr ka15 (ka_step _ _)
                                    exact act_exc M hT hn hX16 (by intro x hx; simp [tableOf] at hx; rcases hx with rfl | rfl | rfl <;> decide) (by decide) (by decide) ⟨rfl, act_ok hf h0 (kp16.mono (by omega)) ka16⟩
                                · obtain ⟨hX15, hu15⟩ := xN_x hx
                                  have kp15 : KP E K S u15 (N + 3) := by rw [hu15]; exact kp14.tr (act_would kp14.1 kk (m_below K u14 (x >>> ((3 + 2) &&& 31)) 7)).1
                                  have ka15 : KA K S u15 := by rw [hu15]; exact KA.tr ka14 (ka_would _ _)
                                  exact act_exc M hT hn hX15 (by intro x hx; simp [tableOf] at hx; rcases hx with rfl | rfl | rfl <;> decide) (by decide) (by decide) ⟨rfl, act_ok hf h0 (kp15.mono (by omega)) ka15⟩
                              · obtain ⟨hX14, hu14⟩ := xN_x hx
                                have kp14 : KP E K S u14 (N + 3) := by rw [hu14]; exact kp13.tr (act_step kp13.1 (by omega) kk (m_below K u12 (x >>> ((2 + 2) &&& 31)) 7))
                                have ka14 : KA K S u14 := by rw [hu14]; exact KA.tr ka13 (ka_step _ _)
                                exact act_exc M hT hn hX14 (by intro x hx; simp [tableOf] at hx; rcases hx with rfl | rfl | rfl <;> decide) (by decide) (by decide) ⟨rfl, act_ok hf h0 (kp14.mono (by omega)) ka14⟩
                            · obtain ⟨hX13, hu13⟩ := xN_x hx
                              have kp13 : KP E K S u13 (N + 2) := by rw [hu13]; exact kp12.tr (act_would kp12.1 kk (m_below K u12 (x >>> ((2 + 2) &&& 31)) 7)).1
                              have ka13 : KA K S u13 := by rw [hu13]; exact KA.tr ka12 (ka_would _ _)
                              exact act_exc M hT hn hX13 (by intro x hx; simp [tableOf] at hx; rcases hx with rfl | rfl | rfl <;> decide) (by decide) (by decide) ⟨rfl, act_ok hf h0 (kp13.mono (by omega)) ka13⟩
                          · obtain ⟨hX12, hu12⟩ := xN_x hx
                            have kp12 : KP E K S u12 (N + 2) := by rw [hu12]; exact kp11.tr (act_step kp11.1 (by omega) kk (m_below K u10 (x >>> ((1 + 2) &&& 31)) 7))
                            have ka12 : KA K S u12 := by rw [hu12]; exact KA.tr ka11 (ka_step _ _)
                            exact act_exc M hT hn hX12 (by intro x hx; simp [tableOf] at hx; rcases hx with rfl | rfl | rfl <;> decide) (by decide) (by decide) ⟨rfl, act_ok hf h0 (kp12.mono (by omega)) ka12⟩
                        · obtain ⟨hX11, hu11⟩ := xN_x hx
                          have kp11 : KP E K S u11 (N + 1) := by rw [hu11]; exact kp10.tr (act_would kp10.1 kk (m_below K u10 (x >>> ((1 + 2) &&& 31)) 7)).1
                          have ka11 : KA K S u11 := by rw [hu11]; exact KA.tr ka10 (ka_would _ _)
                          exact act_exc M hT hn hX11 (by intro x hx; simp [tableOf] at hx; rcases hx with rfl | rfl | rfl <;> decide) (by decide) (by decide) ⟨rfl, act_ok hf h0 (kp11.mono (by omega)) ka11⟩
                      · obtain ⟨hX10, hu10⟩ := xN_x hx
                        have kp10 : KP E K S u10 (N + 1) := by rw [hu10]; exact kp9.tr (act_step kp9.1 (by omega) kk (m_below K S (x >>> ((0 + 2) &&& 31)) 7))
                        have ka10 : KA K S u10 := by rw [hu10]; exact KA.tr ka9 (ka_step _ _)
                        exact act_exc M hT hn hX10 (by intro x hx; simp [tableOf] at hx; rcases hx with rfl | rfl | rfl <;> decide) (by decide) (by decide) ⟨rfl, act_ok hf h0 (kp10.mono (by omega)) ka10⟩
                    · obtain ⟨hX9, hu9⟩ := xN_x hx
                      have kp9 : KP E K S u9 (N + 0) := by rw [hu9]; exact k0.tr (act_would k0.1 kk (m_below K S (x >>> ((0 + 2) &&& 31)) 7)).1
                      have ka9 : KA K S u9 := by rw [hu9]; exact KA.tr KA.rf (ka_would _ _)
                      exact act_exc M hT hn hX9 (by intro x hx; simp [tableOf] at hx; rcases hx with rfl | rfl | rfl <;> decide) (by decide) (by decide) ⟨rfl, act_ok hf h0 (kp9.mono (by omega)) ka9⟩
                  · refine j_bipush (v := 6) M dL_act_275 (by decide) ?_
                    refine j_goto (tgt := 291) M dL_act_277 (by decide) ?_
                    refine j_istore (lv' := [(8, .int 6), (7, .int 0), (6, .int (nI kk)), (5, .int (nI (max 1 (sZ S (K 13))))), (0, .ref (K 0)), (1, .int x), (2, .int w), (3, .int (nI C)), (4, .ref sa)]) M dL_act_291 (by decide) rfl ?_
                    refine j_aload_n M dL_act_293 rfl ?_
                    refine j_iload M dL_act_294 rfl ?_
                    refine j_iload M dL_act_296 rfl ?_
                    refine jx_callV (As := [.int (nI kk), .int 6]) M cf_X7_would wM_L_88 (cx_would hlt k0.1.g.1 k0.1.g.2.1 k0.1.g.2.2 (k := kk) 6 (by omega)) k0.1.g.1.k0.1 (pAt_7 E _ k0.1.g.1.k0.2) rfl rfl ⟨Nat.le_of_ble_eq_true rfl, Nat.le_of_ble_eq_true rfl⟩ (Nat.le_of_ble_eq_true rfl) ⟨Nat.le_of_ble_eq_true rfl, Nat.le_of_ble_eq_true rfl⟩ dL_act_298 rfl (fun v u19 hu => ?_) (fun X u19 hx => ?_)
                    · obtain ⟨h0_19, rfl, hu19⟩ := hu
                      have kp19 : KP E K S u19 (N + 0) := by rw [hu19]; exact k0.tr (act_would k0.1 kk 6).1
                      have ka19 : KA K S u19 := by rw [hu19]; exact KA.tr KA.rf (ka_would _ _)
                      have wv19 : (m_step K u19 kk 6).1 = 0 → (m_step K u19 kk 6).2.1 = (m_wouldx K S kk 6).2.1 := by rw [hu19]; exact (act_would k0.1 kk 6).2 h0_19
                      refine j_istore (lv' := [(9, .int ((m_wouldx K S kk 6).2.1)), (8, .int 6), (7, .int 0), (6, .int (nI kk)), (5, .int (nI (max 1 (sZ S (K 13))))), (0, .ref (K 0)), (1, .int x), (2, .int w), (3, .int (nI C)), (4, .ref sa)]) M dL_act_301 (by decide) rfl ?_
                      refine j_aload_n M dL_act_303 rfl ?_
                      refine j_iload M dL_act_304 rfl ?_
                      refine j_iload M dL_act_306 rfl ?_
                      refine jx_callV (As := [.int (nI kk), .int 6]) M cf_X7_step wM_L_91 (cx_step hlt (S := u19) kp19.1.g.1 kp19.1.g.2.1 kp19.1.g.2.2 (k := kk) 6 (by omega)) kp19.1.g.1.k0.1 (pAt_7 E _ kp19.1.g.1.k0.2) rfl rfl ⟨Nat.le_of_ble_eq_true rfl, Nat.le_of_ble_eq_true rfl⟩ (Nat.le_of_ble_eq_true rfl) ⟨Nat.le_of_ble_eq_true rfl, Nat.le_of_ble_eq_true rfl⟩ dL_act_308 rfl (fun v u20 hu => ?_) (fun X u20 hx => ?_)
                      · obtain ⟨h0_20, rfl, hu20⟩ := hu
                        have kp20 : KP E K S u20 (N + 1) := by rw [hu20]; exact kp19.tr (act_step kp19.1 (by omega) kk 6)
                        have ka20 : KA K S u20 := by rw [hu20]; exact KA.tr ka19 (ka_step _ _)
                        have same20 := wv19 h0_20
                        refine j_iload M dL_act_311 rfl ?_
                        refine j_icmp_eq (tgt := 321) M dL_act_313 (by decide) (fun _ => ?_) (fun z => absurd same20 z)
                        refine j_iinc (v := (0 + 1)) (lv' := [(7, .int (0 + 1)), (9, .int ((m_wouldx K S kk 6).2.1)), (8, .int 6), (6, .int (nI kk)), (5, .int (nI (max 1 (sZ S (K 13))))), (0, .ref (K 0)), (1, .int x), (2, .int w), (3, .int (nI C)), (4, .ref sa)]) M dL_act_321 rfl rfl (by decide) rfl ?_
                        refine j_goto (tgt := 253) M dL_act_324 (by decide) ?_
                        refine j_eq (lv2 := [(7, .int 1), (9, .int ((m_wouldx K S kk 6).2.1)), (8, .int 6), (6, .int (nI kk)), (5, .int (nI (max 1 (sZ S (K 13))))), (0, .ref (K 0)), (1, .int x), (2, .int w), (3, .int (nI C)), (4, .ref sa)]) (by rw [show (0 + 1 : Int32) = 1 from by decide]) rfl rfl ?_
                        refine j_iload M dL_act_253 rfl ?_
                        refine j_iconst (v := 5) M dL_act_255 (by decide) ?_
                        refine j_icmp_ge (tgt := 327) M dL_act_256 (by decide) (fun z => absurd z (by decide)) (fun _ => ?_)
                        refine j_iload_n M dL_act_259 rfl ?_
                        refine j_bipush (v := 7) M dL_act_260 (by decide) ?_
                        refine j_icmp_ne (tgt := 269) M dL_act_262 (by decide) (fun _ => ?_) (fun z => absurd z c9)
                        refine j_iload_n M dL_act_269 rfl ?_
                        refine j_bipush (v := 8) M dL_act_270 (by decide) ?_
                        refine j_icmp_ne (tgt := 280) M dL_act_272 (by decide) (fun z => absurd c10 z) (fun _ => ?_)
                        refine j_bipush (v := 6) M dL_act_275 (by decide) ?_
                        refine j_goto (tgt := 291) M dL_act_277 (by decide) ?_
                        refine j_istore (lv' := [(8, .int 6), (7, .int 1), (9, .int ((m_wouldx K S kk 6).2.1)), (6, .int (nI kk)), (5, .int (nI (max 1 (sZ S (K 13))))), (0, .ref (K 0)), (1, .int x), (2, .int w), (3, .int (nI C)), (4, .ref sa)]) M dL_act_291 (by decide) rfl ?_
                        refine j_aload_n M dL_act_293 rfl ?_
                        refine j_iload M dL_act_294 rfl ?_
                        refine j_iload M dL_act_296 rfl ?_
                        refine jx_callV (As := [.int (nI kk), .int 6]) M cf_X7_would wM_L_88 (cx_would hlt (S := u20) kp20.1.g.1 kp20.1.g.2.1 kp20.1.g.2.2 (k := kk) 6 (by omega)) kp20.1.g.1.k0.1 (pAt_7 E _ kp20.1.g.1.k0.2) rfl rfl ⟨Nat.le_of_ble_eq_true rfl, Nat.le_of_ble_eq_true rfl⟩ (Nat.le_of_ble_eq_true rfl) ⟨Nat.le_of_ble_eq_true rfl, Nat.le_of_ble_eq_true rfl⟩ dL_act_298 rfl (fun v u21 hu => ?_) (fun X u21 hx => ?_)
                        · obtain ⟨h0_21, rfl, hu21⟩ := hu
                          have kp21 : KP E K S u21 (N + 1) := by rw [hu21]; exact kp20.tr (act_would kp20.1 kk 6).1
                          have ka21 : KA K S u21 := by rw [hu21]; exact KA.tr ka20 (ka_would _ _)
                          have wv21 : (m_step K u21 kk 6).1 = 0 → (m_step K u21 kk 6).2.1 = (m_wouldx K u20 kk 6).2.1 := by rw [hu21]; exact (act_would kp20.1 kk 6).2 h0_21
                          refine j_istore (lv' := [(9, .int ((m_wouldx K u20 kk 6).2.1)), (8, .int 6), (7, .int 1), (6, .int (nI kk)), (5, .int (nI (max 1 (sZ S (K 13))))), (0, .ref (K 0)), (1, .int x), (2, .int w), (3, .int (nI C)), (4, .ref sa)]) M dL_act_301 (by decide) rfl ?_
                          refine j_aload_n M dL_act_303 rfl ?_
                          refine j_iload M dL_act_304 rfl ?_
                          refine j_iload M dL_act_306 rfl ?_
                          refine jx_callV (As := [.int (nI kk), .int 6]) M cf_X7_step wM_L_91 (cx_step hlt (S := u21) kp21.1.g.1 kp21.1.g.2.1 kp21.1.g.2.2 (k := kk) 6 (by omega)) kp21.1.g.1.k0.1 (pAt_7 E _ kp21.1.g.1.k0.2) rfl rfl ⟨Nat.le_of_ble_eq_true rfl, Nat.le_of_ble_eq_true rfl⟩ (Nat.le_of_ble_eq_true rfl) ⟨Nat.le_of_ble_eq_true rfl, Nat.le_of_ble_eq_true rfl⟩ dL_act_308 rfl (fun v u22 hu => ?_) (fun X u22 hx => ?_)
                          · obtain ⟨h0_22, rfl, hu22⟩ := hu
                            have kp22 : KP E K S u22 (N + 2) := by rw [hu22]; exact kp21.tr (act_step kp21.1 (by omega) kk 6)
                            have ka22 : KA K S u22 := by rw [hu22]; exact KA.tr ka21 (ka_step _ _)
                            have same22 := wv21 h0_22
                            refine j_iload M dL_act_311 rfl ?_
                            refine j_icmp_eq (tgt := 321) M dL_act_313 (by decide) (fun _ => ?_) (fun z => absurd same22 z)
                            refine j_iinc (v := (1 + 1)) (lv' := [(7, .int (1 + 1)), (9, .int ((m_wouldx K u20 kk 6).2.1)), (8, .int 6), (6, .int (nI kk)), (5, .int (nI (max 1 (sZ S (K 13))))), (0, .ref (K 0)), (1, .int x), (2, .int w), (3, .int (nI C)), (4, .ref sa)]) M dL_act_321 rfl rfl (by decide) rfl ?_
                            refine j_goto (tgt := 253) M dL_act_324 (by decide) ?_
                            refine j_eq (lv2 := [(7, .int 2), (9, .int ((m_wouldx K u20 kk 6).2.1)), (8, .int 6), (6, .int (nI kk)), (5, .int (nI (max 1 (sZ S (K 13))))), (0, .ref (K 0)), (1, .int x), (2, .int w), (3, .int (nI C)), (4, .ref sa)]) (by rw [show (1 + 1 : Int32) = 2 from by decide]) rfl rfl ?_
                            refine j_iload M dL_act_253 rfl ?_
                            refine j_iconst (v := 5) M dL_act_255 (by decide) ?_
                            refine j_icmp_ge (tgt := 327) M dL_act_256 (by decide) (fun z => absurd z (by decide)) (fun _ => ?_)
                            refine j_iload_n M dL_act_259 rfl ?_
                            refine j_bipush (v := 7) M dL_act_260 (by decide) ?_
                            refine j_icmp_ne (tgt := 269) M dL_act_262 (by decide) (fun _ => ?_) (fun z => absurd z c9)
                            refine j_iload_n M dL_act_269 rfl ?_
                            refine j_bipush (v := 8) M dL_act_270 (by decide) ?_
                            refine j_icmp_ne (tgt := 280) M dL_act_272 (by decide) (fun z => absurd c10 z) (fun _ => ?_)
                            refine j_bipush (v := 6) M dL_act_275 (by decide) ?_
                            refine j_goto (tgt := 291) M dL_act_277 (by decide) ?_
                            refine j_istore (lv' := [(8, .int 6), (7, .int 2), (9, .int ((m_wouldx K u20 kk 6).2.1)), (6, .int (nI kk)), (5, .int (nI (max 1 (sZ S (K 13))))), (0, .ref (K 0)), (1, .int x), (2, .int w), (3, .int (nI C)), (4, .ref sa)]) M dL_act_291 (by decide) rfl ?_
                            refine j_aload_n M dL_act_293 rfl ?_
                            refine j_iload M dL_act_294 rfl ?_
                            refine j_iload M dL_act_296 rfl ?_
                            refine jx_callV (As := [.int (nI kk), .int 6]) M cf_X7_would wM_L_88 (cx_would hlt (S := u22) kp22.1.g.1 kp22.1.g.2.1 kp22.1.g.2.2 (k := kk) 6 (by omega)) kp22.1.g.1.k0.1 (pAt_7 E _ kp22.1.g.1.k0.2) rfl rfl ⟨Nat.le_of_ble_eq_true rfl, Nat.le_of_ble_eq_true rfl⟩ (Nat.le_of_ble_eq_true rfl) ⟨Nat.le_of_ble_eq_true rfl, Nat.le_of_ble_eq_true rfl⟩ dL_act_298 rfl (fun v u23 hu => ?_) (fun X u23 hx => ?_)
                            · obtain ⟨h0_23, rfl, hu23⟩ := hu
                              have kp23 : KP E K S u23 (N + 2) := by rw [hu23]; exact kp22.tr (act_would kp22.1 kk 6).1
                              have ka23 : KA K S u23 := by rw [hu23]; exact KA.tr ka22 (ka_would _ _)
                              have wv23 : (m_step K u23 kk 6).1 = 0 → (m_step K u23 kk 6).2.1 = (m_wouldx K u22 kk 6).2.1 := by rw [hu23]; exact (act_would kp22.1 kk 6).2 h0_23
                              refine j_istore (lv' := [(9, .int ((m_wouldx K u22 kk 6).2.1)), (8, .int 6), (7, .int 2), (6, .int (nI kk)), (5, .int (nI (max 1 (sZ S (K 13))))), (0, .ref (K 0)), (1, .int x), (2, .int w), (3, .int (nI C)), (4, .ref sa)]) M dL_act_301 (by decide) rfl ?_
                              refine j_aload_n M dL_act_303 rfl ?_
                              refine j_iload M dL_act_304 rfl ?_
                              refine j_iload M dL_act_306 rfl ?_
                              refine jx_callV (As := [.int (nI kk), .int 6]) M cf_X7_step wM_L_91 (cx_step hlt (S := u23) kp23.1.g.1 kp23.1.g.2.1 kp23.1.g.2.2 (k := kk) 6 (by omega)) kp23.1.g.1.k0.1 (pAt_7 E _ kp23.1.g.1.k0.2) rfl rfl ⟨Nat.le_of_ble_eq_true rfl, Nat.le_of_ble_eq_true rfl⟩ (Nat.le_of_ble_eq_true rfl) ⟨Nat.le_of_ble_eq_true rfl, Nat.le_of_ble_eq_true rfl⟩ dL_act_308 rfl (fun v u24 hu => ?_) (fun X u24 hx => ?_)
                              · obtain ⟨h0_24, rfl, hu24⟩ := hu
                                have kp24 : KP E K S u24 (N + 3) := by rw [hu24]; exact kp23.tr (act_step kp23.1 (by omega) kk 6)
                                have ka24 : KA K S u24 := by rw [hu24]; exact KA.tr ka23 (ka_step _ _)
                                have same24 := wv23 h0_24
                                refine j_iload M dL_act_311 rfl ?_
                                refine j_icmp_eq (tgt := 321) M dL_act_313 (by decide) (fun _ => ?_) (fun z => absurd same24 z)
                                refine j_iinc (v := (2 + 1)) (lv' := [(7, .int (2 + 1)), (9, .int ((m_wouldx K u22 kk 6).2.1)), (8, .int 6), (6, .int (nI kk)), (5, .int (nI (max 1 (sZ S (K 13))))), (0, .ref (K 0)), (1, .int x), (2, .int w), (3, .int (nI C)), (4, .ref sa)]) M dL_act_321 rfl rfl (by decide) rfl ?_
                                refine j_goto (tgt := 253) M dL_act_324 (by decide) ?_
                                refine j_eq (lv2 := [(7, .int 3), (9, .int ((m_wouldx K u22 kk 6).2.1)), (8, .int 6), (6, .int (nI kk)), (5, .int (nI (max 1 (sZ S (K 13))))), (0, .ref (K 0)), (1, .int x), (2, .int w), (3, .int (nI C)), (4, .ref sa)]) (by rw [show (2 + 1 : Int32) = 3 from by decide]) rfl rfl ?_
                                refine j_iload M dL_act_253 rfl ?_
                                refine j_iconst (v := 5) M dL_act_255 (by decide) ?_
                                refine j_icmp_ge (tgt := 327) M dL_act_256 (by decide) (fun z => absurd z (by decide)) (fun _ => ?_)
                                refine j_iload_n M dL_act_259 rfl ?_
                                refine j_bipush (v := 7) M dL_act_260 (by decide) ?_
                                refine j_icmp_ne (tgt := 269) M dL_act_262 (by decide) (fun _ => ?_) (fun z => absurd z c9)
                                refine j_iload_n M dL_act_269 rfl ?_
                                refine j_bipush (v := 8) M dL_act_270 (by decide) ?_
                                refine j_icmp_ne (tgt := 280) M dL_act_272 (by decide) (fun z => absurd c10 z) (fun _ => ?_)
                                refine j_bipush (v := 6) M dL_act_275 (by decide) ?_
                                refine j_goto (tgt := 291) M dL_act_277 (by decide) ?_
                                refine j_istore (lv' := [(8, .int 6), (7, .int 3), (9, .int ((m_wouldx K u22 kk 6).2.1)), (6, .int (nI kk)), (5, .int (nI (max 1 (sZ S (K 13))))), (0, .ref (K 0)), (1, .int x), (2, .int w), (3, .int (nI C)), (4, .ref sa)]) M dL_act_291 (by decide) rfl ?_
                                refine j_aload_n M dL_act_293 rfl ?_
                                refine j_iload M dL_act_294 rfl ?_
                                refine j_iload M dL_act_296 rfl ?_
                                refine jx_callV (As := [.int (nI kk), .int 6]) M cf_X7_would wM_L_88 (cx_would hlt (S := u24) kp24.1.g.1 kp24.1.g.2.1 kp24.1.g.2.2 (k := kk) 6 (by omega)) kp24.1.g.1.k0.1 (pAt_7 E _ kp24.1.g.1.k0.2) rfl rfl ⟨Nat.le_of_ble_eq_true rfl, Nat.le_of_ble_eq_true rfl⟩ (Nat.le_of_ble_eq_true rfl) ⟨Nat.le_of_ble_eq_true rfl, Nat.le_of_ble_eq_true rfl⟩ dL_act_298 rfl (fun v u25 hu => ?_) (fun X u25 hx => ?_)
                                · obtain ⟨h0_25, rfl, hu25⟩ := hu
                                  have kp25 : KP E K S u25 (N + 3) := by rw [hu25]; exact kp24.tr (act_would kp24.1 kk 6).1
                                  have ka25 : KA K S u25 := by rw [hu25]; exact KA.tr ka24 (ka_would _ _)
                                  have wv25 : (m_step K u25 kk 6).1 = 0 → (m_step K u25 kk 6).2.1 = (m_wouldx K u24 kk 6).2.1 := by rw [hu25]; exact (act_would kp24.1 kk 6).2 h0_25
                                  refine j_istore (lv' := [(9, .int ((m_wouldx K u24 kk 6).2.1)), (8, .int 6), (7, .int 3), (6, .int (nI kk)), (5, .int (nI (max 1 (sZ S (K 13))))), (0, .ref (K 0)), (1, .int x), (2, .int w), (3, .int (nI C)), (4, .ref sa)]) M dL_act_301 (by decide) rfl ?_
                                  refine j_aload_n M dL_act_303 rfl ?_
                                  refine j_iload M dL_act_304 rfl ?_
                                  refine j_iload M dL_act_306 rfl ?_
                                  refine jx_callV (As := [.int (nI kk), .int 6]) M cf_X7_step wM_L_91 (cx_step hlt (S := u25) kp25.1.g.1 kp25.1.g.2.1 kp25.1.g.2.2 (k := kk) 6 (by omega)) kp25.1.g.1.k0.1 (pAt_7 E _ kp25.1.g.1.k0.2) rfl rfl ⟨Nat.le_of_ble_eq_true rfl, Nat.le_of_ble_eq_true rfl⟩ (Nat.le_of_ble_eq_true rfl) ⟨Nat.le_of_ble_eq_true rfl, Nat.le_of_ble_eq_true rfl⟩ dL_act_308 rfl (fun v u26 hu => ?_) (fun X u26 hx => ?_)
                                  · obtain ⟨h0_26, rfl, hu26⟩ := hu
                                    have kp26 : KP E K S u26 (N + 4) := by rw [hu26]; exact kp25.tr (act_step kp25.1 (by omega) kk 6)
                                    have ka26 : KA K S u26 := by rw [hu26]; exact KA.tr ka25 (ka_step _ _)
                                    have same26 := wv25 h0_26
                                    refine j_iload M dL_act_311 rfl ?_
                                    refine j_icmp_eq (tgt := 321) M dL_act_313 (by decide) (fun _ => ?_) (fun z => absurd same26 z)
                                    refine j_iinc (v := (3 + 1)) (lv' := [(7, .int (3 + 1)), (9, .int ((m_wouldx K u24 kk 6).2.1)), (8, .int 6), (6, .int (nI kk)), (5, .int (nI (max 1 (sZ S (K 13))))), (0, .ref (K 0)), (1, .int x), (2, .int w), (3, .int (nI C)), (4, .ref sa)]) M dL_act_321 rfl rfl (by decide) rfl ?_
                                    refine j_goto (tgt := 253) M dL_act_324 (by decide) ?_
                                    refine j_eq (lv2 := [(7, .int 4), (9, .int ((m_wouldx K u24 kk 6).2.1)), (8, .int 6), (6, .int (nI kk)), (5, .int (nI (max 1 (sZ S (K 13))))), (0, .ref (K 0)), (1, .int x), (2, .int w), (3, .int (nI C)), (4, .ref sa)]) (by rw [show (3 + 1 : Int32) = 4 from by decide]) rfl rfl ?_
                                    refine j_iload M dL_act_253 rfl ?_
                                    refine j_iconst (v := 5) M dL_act_255 (by decide) ?_
                                    refine j_icmp_ge (tgt := 327) M dL_act_256 (by decide) (fun z => absurd z (by decide)) (fun _ => ?_)
                                    refine j_iload_n M dL_act_259 rfl ?_
                                    refine j_bipush (v := 7) M dL_act_260 (by decide) ?_
                                    refine j_icmp_ne (tgt := 269) M dL_act_262 (by decide) (fun _ => ?_) (fun z => absurd z c9)
                                    refine j_iload_n M dL_act_269 rfl ?_
                                    refine j_bipush (v := 8) M dL_act_270 (by decide) ?_
                                    refine j_icmp_ne (tgt := 280) M dL_act_272 (by decide) (fun z => absurd c10 z) (fun _ => ?_)
                                    refine j_bipush (v := 6) M dL_act_275 (by decide) ?_
                                    refine j_goto (tgt := 291) M dL_act_277 (by decide) ?_
                                    refine j_istore (lv' := [(8, .int 6), (7, .int 4), (9, .int ((m_wouldx K u24 kk 6).2.1)), (6, .int (nI kk)), (5, .int (nI (max 1 (sZ S (K 13))))), (0, .ref (K 0)), (1, .int x), (2, .int w), (3, .int (nI C)), (4, .ref sa)]) M dL_act_291 (by decide) rfl ?_
                                    refine j_aload_n M dL_act_293 rfl ?_
                                    refine j_iload M dL_act_294 rfl ?_
                                    refine j_iload M dL_act_296 rfl ?_
                                    refine jx_callV (As := [.int (nI kk), .int 6]) M cf_X7_would wM_L_88 (cx_would hlt (S := u26) kp26.1.g.1 kp26.1.g.2.1 kp26.1.g.2.2 (k := kk) 6 (by omega)) kp26.1.g.1.k0.1 (pAt_7 E _ kp26.1.g.1.k0.2) rfl rfl ⟨Nat.le_of_ble_eq_true rfl, Nat.le_of_ble_eq_true rfl⟩ (Nat.le_of_ble_eq_true rfl) ⟨Nat.le_of_ble_eq_true rfl, Nat.le_of_ble_eq_true rfl⟩ dL_act_298 rfl (fun v u27 hu => ?_) (fun X u27 hx => ?_)
                                    · obtain ⟨h0_27, rfl, hu27⟩ := hu
                                      have kp27 : KP E K S u27 (N + 4) := by rw [hu27]; exact kp26.tr (act_would kp26.1 kk 6).1
                                      have ka27 : KA K S u27 := by rw [hu27]; exact KA.tr ka26 (ka_would _ _)
                                      have wv27 : (m_step K u27 kk 6).1 = 0 → (m_step K u27 kk 6).2.1 = (m_wouldx K u26 kk 6).2.1 := by rw [hu27]; exact (act_would kp26.1 kk 6).2 h0_27
                                      refine j_istore (lv' := [(9, .int ((m_wouldx K u26 kk 6).2.1)), (8, .int 6), (7, .int 4), (6, .int (nI kk)), (5, .int (nI (max 1 (sZ S (K 13))))), (0, .ref (K 0)), (1, .int x), (2, .int w), (3, .int (nI C)), (4, .ref sa)]) M dL_act_301 (by decide) rfl ?_
                                      refine j_aload_n M dL_act_303 rfl ?_
                                      refine j_iload M dL_act_304 rfl ?_
                                      refine j_iload M dL_act_306 rfl ?_
                                      refine jx_callV (As := [.int (nI kk), .int 6]) M cf_X7_step wM_L_91 (cx_step hlt (S := u27) kp27.1.g.1 kp27.1.g.2.1 kp27.1.g.2.2 (k := kk) 6 (by omega)) kp27.1.g.1.k0.1 (pAt_7 E _ kp27.1.g.1.k0.2) rfl rfl ⟨Nat.le_of_ble_eq_true rfl, Nat.le_of_ble_eq_true rfl⟩ (Nat.le_of_ble_eq_true rfl) ⟨Nat.le_of_ble_eq_true rfl, Nat.le_of_ble_eq_true rfl⟩ dL_act_308 rfl (fun v u28 hu => ?_) (fun X u28 hx => ?_)
                                      · obtain ⟨h0_28, rfl, hu28⟩ := hu
                                        have kp28 : KP E K S u28 (N + 5) := by rw [hu28]; exact kp27.tr (act_step kp27.1 (by omega) kk 6)
                                        have ka28 : KA K S u28 := by rw [hu28]; exact KA.tr ka27 (ka_step _ _)
                                        have same28 := wv27 h0_28
                                        refine j_iload M dL_act_311 rfl ?_
                                        refine j_icmp_eq (tgt := 321) M dL_act_313 (by decide) (fun _ => ?_) (fun z => absurd same28 z)
                                        refine j_iinc (v := (4 + 1)) (lv' := [(7, .int (4 + 1)), (9, .int ((m_wouldx K u26 kk 6).2.1)), (8, .int 6), (6, .int (nI kk)), (5, .int (nI (max 1 (sZ S (K 13))))), (0, .ref (K 0)), (1, .int x), (2, .int w), (3, .int (nI C)), (4, .ref sa)]) M dL_act_321 rfl rfl (by decide) rfl ?_
                                        refine j_goto (tgt := 253) M dL_act_324 (by decide) ?_
                                        refine j_eq (lv2 := [(7, .int 5), (9, .int ((m_wouldx K u26 kk 6).2.1)), (8, .int 6), (6, .int (nI kk)), (5, .int (nI (max 1 (sZ S (K 13))))), (0, .ref (K 0)), (1, .int x), (2, .int w), (3, .int (nI C)), (4, .ref sa)]) (by rw [show (4 + 1 : Int32) = 5 from by decide]) rfl rfl ?_
                                        refine j_iload M dL_act_253 rfl ?_
                                        refine j_iconst (v := 5) M dL_act_255 (by decide) ?_
                                        refine j_icmp_ge (tgt := 327) M dL_act_256 (by decide) (fun _ => ?_) (fun z => absurd (by decide) z)
                                        refine j_goto (tgt := 339) M dL_act_327 (by decide) ?_
                                        exact jh_ret (j_vret M dL_act_339 (by decide) (by decide) ⟨rfl, act_ok hf h0 (kp28.mono (by omega)) ka28⟩)
                                      · obtain ⟨hX28, hu28⟩ := xN_x hx
                                        have kp28 : KP E K S u28 (N + 5) := by rw [hu28]; exact kp27.tr (act_step kp27.1 (by omega) kk 6)
                                        have ka28 : KA K S u28 := by rw [hu28]; exact KA.tr ka27 (ka_step _ _)
                                        exact act_exc M hT hn hX28 (by intro x hx; simp [tableOf] at hx; rcases hx with rfl | rfl | rfl <;> decide) (by decide) (by decide) ⟨rfl, act_ok hf h0 (kp28.mono (by omega)) ka28⟩
                                    · obtain ⟨hX27, hu27⟩ := xN_x hx
                                      have kp27 : KP E K S u27 (N + 4) := by rw [hu27]; exact kp26.tr (act_would kp26.1 kk 6).1
                                      have ka27 : KA K S u27 := by rw [hu27]; exact KA.tr ka26 (ka_would _ _)
                                      exact act_exc M hT hn hX27 (by intro x hx; simp [tableOf] at hx; rcases hx with rfl | rfl | rfl <;> decide) (by decide) (by decide) ⟨rfl, act_ok hf h0 (kp27.mono (by omega)) ka27⟩
                                  · obtain ⟨hX26, hu26⟩ := xN_x hx
                                    have kp26 : KP E K S u26 (N + 4) := by rw [hu26]; exact kp25.tr (act_step kp25.1 (by omega) kk 6)
                                    have ka26 : KA K S u26 := by rw [hu26]; exact KA.tr ka25 (ka_step _ _)
                                    exact act_exc M hT hn hX26 (by intro x hx; simp [tableOf] at hx; rcases hx with rfl | rfl | rfl <;> decide) (by decide) (by decide) ⟨rfl, act_ok hf h0 (kp26.mono (by omega)) ka26⟩
                                · obtain ⟨hX25, hu25⟩ := xN_x hx
                                  have kp25 : KP E K S u25 (N + 3) := by rw [hu25]; exact kp24.tr (act_would kp24.1 kk 6).1
                                  have ka25 : KA K S u25 := by rw [hu25]; exact KA.tr ka24 (ka_would _ _)
                                  exact act_exc M hT hn hX25 (by intro x hx; simp [tableOf] at hx; rcases hx with rfl | rfl | rfl <;> decide) (by decide) (by decide) ⟨rfl, act_ok hf h0 (kp25.mono (by omega)) ka25⟩
                              · obtain ⟨hX24, hu24⟩ := xN_x hx
                                have kp24 : KP E K S u24 (N + 3) := by rw [hu24]; exact kp23.tr (act_step kp23.1 (by omega) kk 6)
                                have ka24 : KA K S u24 := by rw [hu24]; exact KA.tr ka23 (ka_step _ _)
                                exact act_exc M hT hn hX24 (by intro x hx; simp [tableOf] at hx; rcases hx with rfl | rfl | rfl <;> decide) (by decide) (by decide) ⟨rfl, act_ok hf h0 (kp24.mono (by omega)) ka24⟩
                            · obtain ⟨hX23, hu23⟩ := xN_x hx
                              have kp23 : KP E K S u23 (N + 2) := by rw [hu23]; exact kp22.tr (act_would kp22.1 kk 6).1
                              have ka23 : KA K S u23 := by rw [hu23]; exact KA.tr ka22 (ka_would _ _)
                              exact act_exc M hT hn hX23 (by intro x hx; simp [tableOf] at hx; rcases hx with rfl | rfl | rfl <;> decide) (by decide) (by decide) ⟨rfl, act_ok hf h0 (kp23.mono (by omega)) ka23⟩
                          · obtain ⟨hX22, hu22⟩ := xN_x hx
                            have kp22 : KP E K S u22 (N + 2) := by rw [hu22]; exact kp21.tr (act_step kp21.1 (by omega) kk 6)
                            have ka22 : KA K S u22 := by rw [hu22]; exact KA.tr ka21 (ka_step _ _)
                            exact act_exc M hT hn hX22 (by intro x hx; simp [tableOf] at hx; rcases hx with rfl | rfl | rfl <;> decide) (by decide) (by decide) ⟨rfl, act_ok hf h0 (kp22.mono (by omega)) ka22⟩
                        · obtain ⟨hX21, hu21⟩ := xN_x hx
                          have kp21 : KP E K S u21 (N + 1) := by rw [hu21]; exact kp20.tr (act_would kp20.1 kk 6).1
                          have ka21 : KA K S u21 := by rw [hu21]; exact KA.tr ka20 (ka_would _ _)
                          exact act_exc M hT hn hX21 (by intro x hx; simp [tableOf] at hx; rcases hx with rfl | rfl | rfl <;> decide) (by decide) (by decide) ⟨rfl, act_ok hf h0 (kp21.mono (by omega)) ka21⟩
                      · obtain ⟨hX20, hu20⟩ := xN_x hx
                        have kp20 : KP E K S u20 (N + 1) := by rw [hu20]; exact kp19.tr (act_step kp19.1 (by omega) kk 6)
                        have ka20 : KA K S u20 := by rw [hu20]; exact KA.tr ka19 (ka_step _ _)
                        exact act_exc M hT hn hX20 (by intro x hx; simp [tableOf] at hx; rcases hx with rfl | rfl | rfl <;> decide) (by decide) (by decide) ⟨rfl, act_ok hf h0 (kp20.mono (by omega)) ka20⟩
                    · obtain ⟨hX19, hu19⟩ := xN_x hx
                      have kp19 : KP E K S u19 (N + 0) := by rw [hu19]; exact k0.tr (act_would k0.1 kk 6).1
                      have ka19 : KA K S u19 := by rw [hu19]; exact KA.tr KA.rf (ka_would _ _)
                      exact act_exc M hT hn hX19 (by intro x hx; simp [tableOf] at hx; rcases hx with rfl | rfl | rfl <;> decide) (by decide) (by decide) ⟨rfl, act_ok hf h0 (kp19.mono (by omega)) ka19⟩
                · refine j_iconst (v := 5) M dL_act_265 (by decide) ?_
                  refine j_goto (tgt := 291) M dL_act_266 (by decide) ?_
                  refine j_istore (lv' := [(8, .int 5), (7, .int 0), (6, .int (nI kk)), (5, .int (nI (max 1 (sZ S (K 13))))), (0, .ref (K 0)), (1, .int x), (2, .int w), (3, .int (nI C)), (4, .ref sa)]) M dL_act_291 (by decide) rfl ?_
                  refine j_aload_n M dL_act_293 rfl ?_
                  refine j_iload M dL_act_294 rfl ?_
                  refine j_iload M dL_act_296 rfl ?_
                  refine jx_callV (As := [.int (nI kk), .int 5]) M cf_X7_would wM_L_88 (cx_would hlt k0.1.g.1 k0.1.g.2.1 k0.1.g.2.2 (k := kk) 5 (by omega)) k0.1.g.1.k0.1 (pAt_7 E _ k0.1.g.1.k0.2) rfl rfl ⟨Nat.le_of_ble_eq_true rfl, Nat.le_of_ble_eq_true rfl⟩ (Nat.le_of_ble_eq_true rfl) ⟨Nat.le_of_ble_eq_true rfl, Nat.le_of_ble_eq_true rfl⟩ dL_act_298 rfl (fun v u29 hu => ?_) (fun X u29 hx => ?_)
                  · obtain ⟨h0_29, rfl, hu29⟩ := hu
                    have kp29 : KP E K S u29 (N + 0) := by rw [hu29]; exact k0.tr (act_would k0.1 kk 5).1
                    have ka29 : KA K S u29 := by rw [hu29]; exact KA.tr KA.rf (ka_would _ _)
                    have wv29 : (m_step K u29 kk 5).1 = 0 → (m_step K u29 kk 5).2.1 = (m_wouldx K S kk 5).2.1 := by rw [hu29]; exact (act_would k0.1 kk 5).2 h0_29
                    refine j_istore (lv' := [(9, .int ((m_wouldx K S kk 5).2.1)), (8, .int 5), (7, .int 0), (6, .int (nI kk)), (5, .int (nI (max 1 (sZ S (K 13))))), (0, .ref (K 0)), (1, .int x), (2, .int w), (3, .int (nI C)), (4, .ref sa)]) M dL_act_301 (by decide) rfl ?_
                    refine j_aload_n M dL_act_303 rfl ?_
                    refine j_iload M dL_act_304 rfl ?_
                    refine j_iload M dL_act_306 rfl ?_
                    refine jx_callV (As := [.int (nI kk), .int 5]) M cf_X7_step wM_L_91 (cx_step hlt (S := u29) kp29.1.g.1 kp29.1.g.2.1 kp29.1.g.2.2 (k := kk) 5 (by omega)) kp29.1.g.1.k0.1 (pAt_7 E _ kp29.1.g.1.k0.2) rfl rfl ⟨Nat.le_of_ble_eq_true rfl, Nat.le_of_ble_eq_true rfl⟩ (Nat.le_of_ble_eq_true rfl) ⟨Nat.le_of_ble_eq_true rfl, Nat.le_of_ble_eq_true rfl⟩ dL_act_308 rfl (fun v u30 hu => ?_) (fun X u30 hx => ?_)
                    · obtain ⟨h0_30, rfl, hu30⟩ := hu
                      have kp30 : KP E K S u30 (N + 1) := by rw [hu30]; exact kp29.tr (act_step kp29.1 (by omega) kk 5)
                      have ka30 : KA K S u30 := by rw [hu30]; exact KA.tr ka29 (ka_step _ _)
                      have same30 := wv29 h0_30
                      refine j_iload M dL_act_311 rfl ?_
                      refine j_icmp_eq (tgt := 321) M dL_act_313 (by decide) (fun _ => ?_) (fun z => absurd same30 z)
                      refine j_iinc (v := (0 + 1)) (lv' := [(7, .int (0 + 1)), (9, .int ((m_wouldx K S kk 5).2.1)), (8, .int 5), (6, .int (nI kk)), (5, .int (nI (max 1 (sZ S (K 13))))), (0, .ref (K 0)), (1, .int x), (2, .int w), (3, .int (nI C)), (4, .ref sa)]) M dL_act_321 rfl rfl (by decide) rfl ?_
                      refine j_goto (tgt := 253) M dL_act_324 (by decide) ?_
                      refine j_eq (lv2 := [(7, .int 1), (9, .int ((m_wouldx K S kk 5).2.1)), (8, .int 5), (6, .int (nI kk)), (5, .int (nI (max 1 (sZ S (K 13))))), (0, .ref (K 0)), (1, .int x), (2, .int w), (3, .int (nI C)), (4, .ref sa)]) (by rw [show (0 + 1 : Int32) = 1 from by decide]) rfl rfl ?_
                      refine j_iload M dL_act_253 rfl ?_
                      refine j_iconst (v := 5) M dL_act_255 (by decide) ?_
                      refine j_icmp_ge (tgt := 327) M dL_act_256 (by decide) (fun z => absurd z (by decide)) (fun _ => ?_)
                      refine j_iload_n M dL_act_259 rfl ?_
                      refine j_bipush (v := 7) M dL_act_260 (by decide) ?_
                      refine j_icmp_ne (tgt := 269) M dL_act_262 (by decide) (fun z => absurd c9 z) (fun _ => ?_)
                      refine j_iconst (v := 5) M dL_act_265 (by decide) ?_
                      refine j_goto (tgt := 291) M dL_act_266 (by decide) ?_
                      refine j_istore (lv' := [(8, .int 5), (7, .int 1), (9, .int ((m_wouldx K S kk 5).2.1)), (6, .int (nI kk)), (5, .int (nI (max 1 (sZ S (K 13))))), (0, .ref (K 0)), (1, .int x), (2, .int w), (3, .int (nI C)), (4, .ref sa)]) M dL_act_291 (by decide) rfl ?_
                      refine j_aload_n M dL_act_293 rfl ?_
                      refine j_iload M dL_act_294 rfl ?_
                      refine j_iload M dL_act_296 rfl ?_
                      refine jx_callV (As := [.int (nI kk), .int 5]) M cf_X7_would wM_L_88 (cx_would hlt (S := u30) kp30.1.g.1 kp30.1.g.2.1 kp30.1.g.2.2 (k := kk) 5 (by omega)) kp30.1.g.1.k0.1 (pAt_7 E _ kp30.1.g.1.k0.2) rfl rfl ⟨Nat.le_of_ble_eq_true rfl, Nat.le_of_ble_eq_true rfl⟩ (Nat.le_of_ble_eq_true rfl) ⟨Nat.le_of_ble_eq_true rfl, Nat.le_of_ble_eq_true rfl⟩ dL_act_298 rfl (fun v u31 hu => ?_) (fun X u31 hx => ?_)
                      · obtain ⟨h0_31, rfl, hu31⟩ := hu
                        have kp31 : KP E K S u31 (N + 1) := by rw [hu31]; exact kp30.tr (act_would kp30.1 kk 5).1
                        have ka31 : KA K S u31 := by rw [hu31]; exact KA.tr ka30 (ka_would _ _)
                        have wv31 : (m_step K u31 kk 5).1 = 0 → (m_step K u31 kk 5).2.1 = (m_wouldx K u30 kk 5).2.1 := by rw [hu31]; exact (act_would kp30.1 kk 5).2 h0_31
                        refine j_istore (lv' := [(9, .int ((m_wouldx K u30 kk 5).2.1)), (8, .int 5), (7, .int 1), (6, .int (nI kk)), (5, .int (nI (max 1 (sZ S (K 13))))), (0, .ref (K 0)), (1, .int x), (2, .int w), (3, .int (nI C)), (4, .ref sa)]) M dL_act_301 (by decide) rfl ?_
                        refine j_aload_n M dL_act_303 rfl ?_
                        refine j_iload M dL_act_304 rfl ?_
                        refine j_iload M dL_act_306 rfl ?_
                        refine jx_callV (As := [.int (nI kk), .int 5]) M cf_X7_step wM_L_91 (cx_step hlt (S := u31) kp31.1.g.1 kp31.1.g.2.1 kp31.1.g.2.2 (k := kk) 5 (by omega)) kp31.1.g.1.k0.1 (pAt_7 E _ kp31.1.g.1.k0.2) rfl rfl ⟨Nat.le_of_ble_eq_true rfl, Nat.le_of_ble_eq_true rfl⟩ (Nat.le_of_ble_eq_true rfl) ⟨Nat.le_of_ble_eq_true rfl, Nat.le_of_ble_eq_true rfl⟩ dL_act_308 rfl (fun v u32 hu => ?_) (fun X u32 hx => ?_)
                        · obtain ⟨h0_32, rfl, hu32⟩ := hu
                          have kp32 : KP E K S u32 (N + 2) := by rw [hu32]; exact kp31.tr (act_step kp31.1 (by omega) kk 5)
                          have ka32 : KA K S u32 := by rw [hu32]; exact KA.tr ka31 (ka_step _ _)
                          have same32 := wv31 h0_32
                          refine j_iload M dL_act_311 rfl ?_
                          refine j_icmp_eq (tgt := 321) M dL_act_313 (by decide) (fun _ => ?_) (fun z => absurd same32 z)
                          refine j_iinc (v := (1 + 1)) (lv' := [(7, .int (1 + 1)), (9, .int ((m_wouldx K u30 kk 5).2.1)), (8, .int 5), (6, .int (nI kk)), (5, .int (nI (max 1 (sZ S (K 13))))), (0, .ref (K 0)), (1, .int x), (2, .int w), (3, .int (nI C)), (4, .ref sa)]) M dL_act_321 rfl rfl (by decide) rfl ?_
                          refine j_goto (tgt := 253) M dL_act_324 (by decide) ?_
                          refine j_eq (lv2 := [(7, .int 2), (9, .int ((m_wouldx K u30 kk 5).2.1)), (8, .int 5), (6, .int (nI kk)), (5, .int (nI (max 1 (sZ S (K 13))))), (0, .ref (K 0)), (1, .int x), (2, .int w), (3, .int (nI C)), (4, .ref sa)]) (by rw [show (1 + 1 : Int32) = 2 from by decide]) rfl rfl ?_
                          refine j_iload M dL_act_253 rfl ?_
                          refine j_iconst (v := 5) M dL_act_255 (by decide) ?_
                          refine j_icmp_ge (tgt := 327) M dL_act_256 (by decide) (fun z => absurd z (by decide)) (fun _ => ?_)
                          refine j_iload_n M dL_act_259 rfl ?_
                          refine j_bipush (v := 7) M dL_act_260 (by decide) ?_
                          refine j_icmp_ne (tgt := 269) M dL_act_262 (by decide) (fun z => absurd c9 z) (fun _ => ?_)
                          refine j_iconst (v := 5) M dL_act_265 (by decide) ?_
                          refine j_goto (tgt := 291) M dL_act_266 (by decide) ?_
                          refine j_istore (lv' := [(8, .int 5), (7, .int 2), (9, .int ((m_wouldx K u30 kk 5).2.1)), (6, .int (nI kk)), (5, .int (nI (max 1 (sZ S (K 13))))), (0, .ref (K 0)), (1, .int x), (2, .int w), (3, .int (nI C)), (4, .ref sa)]) M dL_act_291 (by decide) rfl ?_
                          refine j_aload_n M dL_act_293 rfl ?_
                          refine j_iload M dL_act_294 rfl ?_
                          refine j_iload M dL_act_296 rfl ?_
                          refine jx_callV (As := [.int (nI kk), .int 5]) M cf_X7_would wM_L_88 (cx_would hlt (S := u32) kp32.1.g.1 kp32.1.g.2.1 kp32.1.g.2.2 (k := kk) 5 (by omega)) kp32.1.g.1.k0.1 (pAt_7 E _ kp32.1.g.1.k0.2) rfl rfl ⟨Nat.le_of_ble_eq_true rfl, Nat.le_of_ble_eq_true rfl⟩ (Nat.le_of_ble_eq_true rfl) ⟨Nat.le_of_ble_eq_true rfl, Nat.le_of_ble_eq_true rfl⟩ dL_act_298 rfl (fun v u33 hu => ?_) (fun X u33 hx => ?_)
                          · obtain ⟨h0_33, rfl, hu33⟩ := hu
                            have kp33 : KP E K S u33 (N + 2) := by rw [hu33]; exact kp32.tr (act_would kp32.1 kk 5).1
                            have ka33 : KA K S u33 := by rw [hu33]; exact KA.tr ka32 (ka_would _ _)
                            have wv33 : (m_step K u33 kk 5).1 = 0 → (m_step K u33 kk 5).2.1 = (m_wouldx K u32 kk 5).2.1 := by rw [hu33]; exact (act_would kp32.1 kk 5).2 h0_33
                            refine j_istore (lv' := [(9, .int ((m_wouldx K u32 kk 5).2.1)), (8, .int 5), (7, .int 2), (6, .int (nI kk)), (5, .int (nI (max 1 (sZ S (K 13))))), (0, .ref (K 0)), (1, .int x), (2, .int w), (3, .int (nI C)), (4, .ref sa)]) M dL_act_301 (by decide) rfl ?_
                            refine j_aload_n M dL_act_303 rfl ?_
                            refine j_iload M dL_act_304 rfl ?_
                            refine j_iload M dL_act_306 rfl ?_
                            refine jx_callV (As := [.int (nI kk), .int 5]) M cf_X7_step wM_L_91 (cx_step hlt (S := u33) kp33.1.g.1 kp33.1.g.2.1 kp33.1.g.2.2 (k := kk) 5 (by omega)) kp33.1.g.1.k0.1 (pAt_7 E _ kp33.1.g.1.k0.2) rfl rfl ⟨Nat.le_of_ble_eq_true rfl, Nat.le_of_ble_eq_true rfl⟩ (Nat.le_of_ble_eq_true rfl) ⟨Nat.le_of_ble_eq_true rfl, Nat.le_of_ble_eq_true rfl⟩ dL_act_308 rfl (fun v u34 hu => ?_) (fun X u34 hx => ?_)
                            · obtain ⟨h0_34, rfl, hu34⟩ := hu
                              have kp34 : KP E K S u34 (N + 3) := by rw [hu34]; exact kp33.tr (act_step kp33.1 (by omega) kk 5)
                              have ka34 : KA K S u34 := by rw [hu34]; exact KA.tr ka33 (ka_step _ _)
                              have same34 := wv33 h0_34
                              refine j_iload M dL_act_311 rfl ?_
                              refine j_icmp_eq (tgt := 321) M dL_act_313 (by decide) (fun _ => ?_) (fun z => absurd same34 z)
                              refine j_iinc (v := (2 + 1)) (lv' := [(7, .int (2 + 1)), (9, .int ((m_wouldx K u32 kk 5).2.1)), (8, .int 5), (6, .int (nI kk)), (5, .int (nI (max 1 (sZ S (K 13))))), (0, .ref (K 0)), (1, .int x), (2, .int w), (3, .int (nI C)), (4, .ref sa)]) M dL_act_321 rfl rfl (by decide) rfl ?_
                              refine j_goto (tgt := 253) M dL_act_324 (by decide) ?_
                              refine j_eq (lv2 := [(7, .int 3), (9, .int ((m_wouldx K u32 kk 5).2.1)), (8, .int 5), (6, .int (nI kk)), (5, .int (nI (max 1 (sZ S (K 13))))), (0, .ref (K 0)), (1, .int x), (2, .int w), (3, .int (nI C)), (4, .ref sa)]) (by rw [show (2 + 1 : Int32) = 3 from by decide]) rfl rfl ?_
                              refine j_iload M dL_act_253 rfl ?_
                              refine j_iconst (v := 5) M dL_act_255 (by decide) ?_
                              refine j_icmp_ge (tgt := 327) M dL_act_256 (by decide) (fun z => absurd z (by decide)) (fun _ => ?_)
                              refine j_iload_n M dL_act_259 rfl ?_
                              refine j_bipush (v := 7) M dL_act_260 (by decide) ?_
                              refine j_icmp_ne (tgt := 269) M dL_act_262 (by decide) (fun z => absurd c9 z) (fun _ => ?_)
                              refine j_iconst (v := 5) M dL_act_265 (by decide) ?_
                              refine j_goto (tgt := 291) M dL_act_266 (by decide) ?_
                              refine j_istore (lv' := [(8, .int 5), (7, .int 3), (9, .int ((m_wouldx K u32 kk 5).2.1)), (6, .int (nI kk)), (5, .int (nI (max 1 (sZ S (K 13))))), (0, .ref (K 0)), (1, .int x), (2, .int w), (3, .int (nI C)), (4, .ref sa)]) M dL_act_291 (by decide) rfl ?_
                              refine j_aload_n M dL_act_293 rfl ?_
                              refine j_iload M dL_act_294 rfl ?_
                              refine j_iload M dL_act_296 rfl ?_
                              refine jx_callV (As := [.int (nI kk), .int 5]) M cf_X7_would wM_L_88 (cx_would hlt (S := u34) kp34.1.g.1 kp34.1.g.2.1 kp34.1.g.2.2 (k := kk) 5 (by omega)) kp34.1.g.1.k0.1 (pAt_7 E _ kp34.1.g.1.k0.2) rfl rfl ⟨Nat.le_of_ble_eq_true rfl, Nat.le_of_ble_eq_true rfl⟩ (Nat.le_of_ble_eq_true rfl) ⟨Nat.le_of_ble_eq_true rfl, Nat.le_of_ble_eq_true rfl⟩ dL_act_298 rfl (fun v u35 hu => ?_) (fun X u35 hx => ?_)
                              · obtain ⟨h0_35, rfl, hu35⟩ := hu
                                have kp35 : KP E K S u35 (N + 3) := by rw [hu35]; exact kp34.tr (act_would kp34.1 kk 5).1
                                have ka35 : KA K S u35 := by rw [hu35]; exact KA.tr ka34 (ka_would _ _)
                                have wv35 : (m_step K u35 kk 5).1 = 0 → (m_step K u35 kk 5).2.1 = (m_wouldx K u34 kk 5).2.1 := by rw [hu35]; exact (act_would kp34.1 kk 5).2 h0_35
                                refine j_istore (lv' := [(9, .int ((m_wouldx K u34 kk 5).2.1)), (8, .int 5), (7, .int 3), (6, .int (nI kk)), (5, .int (nI (max 1 (sZ S (K 13))))), (0, .ref (K 0)), (1, .int x), (2, .int w), (3, .int (nI C)), (4, .ref sa)]) M dL_act_301 (by decide) rfl ?_
                                refine j_aload_n M dL_act_303 rfl ?_
                                refine j_iload M dL_act_304 rfl ?_
                                refine j_iload M dL_act_306 rfl ?_
                                refine jx_callV (As := [.int (nI kk), .int 5]) M cf_X7_step wM_L_91 (cx_step hlt (S := u35) kp35.1.g.1 kp35.1.g.2.1 kp35.1.g.2.2 (k := kk) 5 (by omega)) kp35.1.g.1.k0.1 (pAt_7 E _ kp35.1.g.1.k0.2) rfl rfl ⟨Nat.le_of_ble_eq_true rfl, Nat.le_of_ble_eq_true rfl⟩ (Nat.le_of_ble_eq_true rfl) ⟨Nat.le_of_ble_eq_true rfl, Nat.le_of_ble_eq_true rfl⟩ dL_act_308 rfl (fun v u36 hu => ?_) (fun X u36 hx => ?_)
                                · obtain ⟨h0_36, rfl, hu36⟩ := hu
                                  have kp36 : KP E K S u36 (N + 4) := by rw [hu36]; exact kp35.tr (act_step kp35.1 (by omega) kk 5)
                                  have ka36 : KA K S u36 := by rw [hu36]; exact KA.tr ka35 (ka_step _ _)
                                  have same36 := wv35 h0_36
                                  refine j_iload M dL_act_311 rfl ?_
                                  refine j_icmp_eq (tgt := 321) M dL_act_313 (by decide) (fun _ => ?_) (fun z => absurd same36 z)
                                  refine j_iinc (v := (3 + 1)) (lv' := [(7, .int (3 + 1)), (9, .int ((m_wouldx K u34 kk 5).2.1)), (8, .int 5), (6, .int (nI kk)), (5, .int (nI (max 1 (sZ S (K 13))))), (0, .ref (K 0)), (1, .int x), (2, .int w), (3, .int (nI C)), (4, .ref sa)]) M dL_act_321 rfl rfl (by decide) rfl ?_
                                  refine j_goto (tgt := 253) M dL_act_324 (by decide) ?_
                                  refine j_eq (lv2 := [(7, .int 4), (9, .int ((m_wouldx K u34 kk 5).2.1)), (8, .int 5), (6, .int (nI kk)), (5, .int (nI (max 1 (sZ S (K 13))))), (0, .ref (K 0)), (1, .int x), (2, .int w), (3, .int (nI C)), (4, .ref sa)]) (by rw [show (3 + 1 : Int32) = 4 from by decide]) rfl rfl ?_
                                  refine j_iload M dL_act_253 rfl ?_
                                  refine j_iconst (v := 5) M dL_act_255 (by decide) ?_
                                  refine j_icmp_ge (tgt := 327) M dL_act_256 (by decide) (fun z => absurd z (by decide)) (fun _ => ?_)
                                  refine j_iload_n M dL_act_259 rfl ?_
                                  refine j_bipush (v := 7) M dL_act_260 (by decide) ?_
                                  refine j_icmp_ne (tgt := 269) M dL_act_262 (by decide) (fun z => absurd c9 z) (fun _ => ?_)
                                  refine j_iconst (v := 5) M dL_act_265 (by decide) ?_
                                  refine j_goto (tgt := 291) M dL_act_266 (by decide) ?_
                                  refine j_istore (lv' := [(8, .int 5), (7, .int 4), (9, .int ((m_wouldx K u34 kk 5).2.1)), (6, .int (nI kk)), (5, .int (nI (max 1 (sZ S (K 13))))), (0, .ref (K 0)), (1, .int x), (2, .int w), (3, .int (nI C)), (4, .ref sa)]) M dL_act_291 (by decide) rfl ?_
                                  refine j_aload_n M dL_act_293 rfl ?_
                                  refine j_iload M dL_act_294 rfl ?_
                                  refine j_iload M dL_act_296 rfl ?_
                                  refine jx_callV (As := [.int (nI kk), .int 5]) M cf_X7_would wM_L_88 (cx_would hlt (S := u36) kp36.1.g.1 kp36.1.g.2.1 kp36.1.g.2.2 (k := kk) 5 (by omega)) kp36.1.g.1.k0.1 (pAt_7 E _ kp36.1.g.1.k0.2) rfl rfl ⟨Nat.le_of_ble_eq_true rfl, Nat.le_of_ble_eq_true rfl⟩ (Nat.le_of_ble_eq_true rfl) ⟨Nat.le_of_ble_eq_true rfl, Nat.le_of_ble_eq_true rfl⟩ dL_act_298 rfl (fun v u37 hu => ?_) (fun X u37 hx => ?_)
                                  · obtain ⟨h0_37, rfl, hu37⟩ := hu
                                    have kp37 : KP E K S u37 (N + 4) := by rw [hu37]; exact kp36.tr (act_would kp36.1 kk 5).1
                                    have ka37 : KA K S u37 := by rw [hu37]; exact KA.tr ka36 (ka_would _ _)
                                    have wv37 : (m_step K u37 kk 5).1 = 0 → (m_step K u37 kk 5).2.1 = (m_wouldx K u36 kk 5).2.1 := by rw [hu37]; exact (act_would kp36.1 kk 5).2 h0_37
                                    refine j_istore (lv' := [(9, .int ((m_wouldx K u36 kk 5).2.1)), (8, .int 5), (7, .int 4), (6, .int (nI kk)), (5, .int (nI (max 1 (sZ S (K 13))))), (0, .ref (K 0)), (1, .int x), (2, .int w), (3, .int (nI C)), (4, .ref sa)]) M dL_act_301 (by decide) rfl ?_
                                    refine j_aload_n M dL_act_303 rfl ?_
                                    refine j_iload M dL_act_304 rfl ?_
                                    refine j_iload M dL_act_306 rfl ?_
                                    refine jx_callV (As := [.int (nI kk), .int 5]) M cf_X7_step wM_L_91 (cx_step hlt (S := u37) kp37.1.g.1 kp37.1.g.2.1 kp37.1.g.2.2 (k := kk) 5 (by omega)) kp37.1.g.1.k0.1 (pAt_7 E _ kp37.1.g.1.k0.2) rfl rfl ⟨Nat.le_of_ble_eq_true rfl, Nat.le_of_ble_eq_true rfl⟩ (Nat.le_of_ble_eq_true rfl) ⟨Nat.le_of_ble_eq_true rfl, Nat.le_of_ble_eq_true rfl⟩ dL_act_308 rfl (fun v u38 hu => ?_) (fun X u38 hx => ?_)
                                    · obtain ⟨h0_38, rfl, hu38⟩ := hu
                                      have kp38 : KP E K S u38 (N + 5) := by rw [hu38]; exact kp37.tr (act_step kp37.1 (by omega) kk 5)
                                      have ka38 : KA K S u38 := by rw [hu38]; exact KA.tr ka37 (ka_step _ _)
                                      have same38 := wv37 h0_38
                                      refine j_iload M dL_act_311 rfl ?_
                                      refine j_icmp_eq (tgt := 321) M dL_act_313 (by decide) (fun _ => ?_) (fun z => absurd same38 z)
                                      refine j_iinc (v := (4 + 1)) (lv' := [(7, .int (4 + 1)), (9, .int ((m_wouldx K u36 kk 5).2.1)), (8, .int 5), (6, .int (nI kk)), (5, .int (nI (max 1 (sZ S (K 13))))), (0, .ref (K 0)), (1, .int x), (2, .int w), (3, .int (nI C)), (4, .ref sa)]) M dL_act_321 rfl rfl (by decide) rfl ?_
                                      refine j_goto (tgt := 253) M dL_act_324 (by decide) ?_
                                      refine j_eq (lv2 := [(7, .int 5), (9, .int ((m_wouldx K u36 kk 5).2.1)), (8, .int 5), (6, .int (nI kk)), (5, .int (nI (max 1 (sZ S (K 13))))), (0, .ref (K 0)), (1, .int x), (2, .int w), (3, .int (nI C)), (4, .ref sa)]) (by rw [show (4 + 1 : Int32) = 5 from by decide]) rfl rfl ?_
                                      refine j_iload M dL_act_253 rfl ?_
                                      refine j_iconst (v := 5) M dL_act_255 (by decide) ?_
                                      refine j_icmp_ge (tgt := 327) M dL_act_256 (by decide) (fun _ => ?_) (fun z => absurd (by decide) z)
                                      refine j_goto (tgt := 339) M dL_act_327 (by decide) ?_
                                      exact jh_ret (j_vret M dL_act_339 (by decide) (by decide) ⟨rfl, act_ok hf h0 (kp38.mono (by omega)) ka38⟩)
                                    · obtain ⟨hX38, hu38⟩ := xN_x hx
                                      have kp38 : KP E K S u38 (N + 5) := by rw [hu38]; exact kp37.tr (act_step kp37.1 (by omega) kk 5)
                                      have ka38 : KA K S u38 := by rw [hu38]; exact KA.tr ka37 (ka_step _ _)
                                      exact act_exc M hT hn hX38 (by intro x hx; simp [tableOf] at hx; rcases hx with rfl | rfl | rfl <;> decide) (by decide) (by decide) ⟨rfl, act_ok hf h0 (kp38.mono (by omega)) ka38⟩
                                  · obtain ⟨hX37, hu37⟩ := xN_x hx
                                    have kp37 : KP E K S u37 (N + 4) := by rw [hu37]; exact kp36.tr (act_would kp36.1 kk 5).1
                                    have ka37 : KA K S u37 := by rw [hu37]; exact KA.tr ka36 (ka_would _ _)
                                    exact act_exc M hT hn hX37 (by intro x hx; simp [tableOf] at hx; rcases hx with rfl | rfl | rfl <;> decide) (by decide) (by decide) ⟨rfl, act_ok hf h0 (kp37.mono (by omega)) ka37⟩
                                · obtain ⟨hX36, hu36⟩ := xN_x hx
                                  have kp36 : KP E K S u36 (N + 4) := by rw [hu36]; exact kp35.tr (act_step kp35.1 (by omega) kk 5)
                                  have ka36 : KA K S u36 := by rw [hu36]; exact KA.tr ka35 (ka_step _ _)
                                  exact act_exc M hT hn hX36 (by intro x hx; simp [tableOf] at hx; rcases hx with rfl | rfl | rfl <;> decide) (by decide) (by decide) ⟨rfl, act_ok hf h0 (kp36.mono (by omega)) ka36⟩
                              · obtain ⟨hX35, hu35⟩ := xN_x hx
                                have kp35 : KP E K S u35 (N + 3) := by rw [hu35]; exact kp34.tr (act_would kp34.1 kk 5).1
                                have ka35 : KA K S u35 := by rw [hu35]; exact KA.tr ka34 (ka_would _ _)
                                exact act_exc M hT hn hX35 (by intro x hx; simp [tableOf] at hx; rcases hx with rfl | rfl | rfl <;> decide) (by decide) (by decide) ⟨rfl, act_ok hf h0 (kp35.mono (by omega)) ka35⟩
                            · obtain ⟨hX34, hu34⟩ := xN_x hx
                              have kp34 : KP E K S u34 (N + 3) := by rw [hu34]; exact kp33.tr (act_step kp33.1 (by omega) kk 5)
                              have ka34 : KA K S u34 := by rw [hu34]; exact KA.tr ka33 (ka_step _ _)
                              exact act_exc M hT hn hX34 (by intro x hx; simp [tableOf] at hx; rcases hx with rfl | rfl | rfl <;> decide) (by decide) (by decide) ⟨rfl, act_ok hf h0 (kp34.mono (by omega)) ka34⟩
                          · obtain ⟨hX33, hu33⟩ := xN_x hx
                            have kp33 : KP E K S u33 (N + 2) := by rw [hu33]; exact kp32.tr (act_would kp32.1 kk 5).1
                            have ka33 : KA K S u33 := by rw [hu33]; exact KA.tr ka32 (ka_would _ _)
                            exact act_exc M hT hn hX33 (by intro x hx; simp [tableOf] at hx; rcases hx with rfl | rfl | rfl <;> decide) (by decide) (by decide) ⟨rfl, act_ok hf h0 (kp33.mono (by omega)) ka33⟩
                        · obtain ⟨hX32, hu32⟩ := xN_x hx
                          have kp32 : KP E K S u32 (N + 2) := by rw [hu32]; exact kp31.tr (act_step kp31.1 (by omega) kk 5)
                          have ka32 : KA K S u32 := by rw [hu32]; exact KA.tr ka31 (ka_step _ _)
                          exact act_exc M hT hn hX32 (by intro x hx; simp [tableOf] at hx; rcases hx with rfl | rfl | rfl <;> decide) (by decide) (by decide) ⟨rfl, act_ok hf h0 (kp32.mono (by omega)) ka32⟩
                      · obtain ⟨hX31, hu31⟩ := xN_x hx
                        have kp31 : KP E K S u31 (N + 1) := by rw [hu31]; exact kp30.tr (act_would kp30.1 kk 5).1
                        have ka31 : KA K S u31 := by rw [hu31]; exact KA.tr ka30 (ka_would _ _)
                        exact act_exc M hT hn hX31 (by intro x hx; simp [tableOf] at hx; rcases hx with rfl | rfl | rfl <;> decide) (by decide) (by decide) ⟨rfl, act_ok hf h0 (kp31.mono (by omega)) ka31⟩
                    · obtain ⟨hX30, hu30⟩ := xN_x hx
                      have kp30 : KP E K S u30 (N + 1) := by rw [hu30]; exact kp29.tr (act_step kp29.1 (by omega) kk 5)
                      have ka30 : KA K S u30 := by rw [hu30]; exact KA.tr ka29 (ka_step _ _)
                      exact act_exc M hT hn hX30 (by intro x hx; simp [tableOf] at hx; rcases hx with rfl | rfl | rfl <;> decide) (by decide) (by decide) ⟨rfl, act_ok hf h0 (kp30.mono (by omega)) ka30⟩
                  · obtain ⟨hX29, hu29⟩ := xN_x hx
                    have kp29 : KP E K S u29 (N + 0) := by rw [hu29]; exact k0.tr (act_would k0.1 kk 5).1
                    have ka29 : KA K S u29 := by rw [hu29]; exact KA.tr KA.rf (ka_would _ _)
                    exact act_exc M hT hn hX29 (by intro x hx; simp [tableOf] at hx; rcases hx with rfl | rfl | rfl <;> decide) (by decide) (by decide) ⟨rfl, act_ok hf h0 (kp29.mono (by omega)) ka29⟩
