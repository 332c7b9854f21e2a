/-! the law: a turn from end to end -/
section TNE
variable {E : EV} {K : Nat → Nat} {S T S2 u U : PS} {N C wa q j : Nat} {r : Int32}
theorem turn_pure (h : TL E K wa C j r S) (hB : BLD E K S (5 * j) T) : FR K T wa 15 ∧ WR K T wa ∧ m_cells K T = nI C ∧ sI T 39 (K 1) = sI T 40 (K 1) + r :=
  ⟨h.2.1.to hB.2.2.1, h.2.2.1.mo h.1 hB.1 hB.2.1 (h.2.1.row hB.2.2.1), hB.2.1.2.2.2.trans h.2.2.2.1, sub_keep h.2.2.2.2 hB.2.2.2⟩
theorem ink_new {n : Nat} {v : Nat → Int32} : InK (nwA T q n v) q 9 ∧ sN (nwA T q n v) q = n := ⟨⟨List.mem_append_right _ (List.mem_singleton.mpr rfl), va_up_self _ _ _⟩, va_up_self _ _ _⟩
theorem set_new (hT : IV E K T N) (hf : FR K T wa 15) (hq : q ∉ sL T) (hd : eDF E ∉ sL (nwA T q 1 (fun _ => 0))) {S2 : PS} (e2 : S2 = uA (nwA T q 1 (fun _ => 0)) q (upd (sA (nwA T q 1 (fun _ => 0)) q) (0 : Int32).toNatClampNeg 0)) :
    KP E K T S2 N ∧ FR K S2 q 1 ∧ sA S2 q 0 = 0 ∧ FR K S2 wa 15 ∧ sA S2 wa = sA T wa ∧ wa ≠ q ∧ sI S2 = sI T := by
  have hW := hT.g.1
  have k1 := iv_nwA (r := fun _ => 0) hT hq hd
  have hn : ∀ {x}, InK T x 9 → q ≠ x := fun hx => Ne.symm (nel hx.1 hq)
  have i := ink_new (T := T) (q := q) (n := 1) (v := fun _ => 0)
  have f1 : FR K (nwA T q 1 (fun _ => 0)) q 1 := ⟨i.1, i.2, hn hW.k6, hn hW.k7, hn hW.k8, hn hW.k9, hn hW.k10⟩
  have k2 := iv_row (v := upd (sA (nwA T q 1 (fun _ => 0)) q) (0 : Int32).toNatClampNeg 0) k1.1 f1.2.2.1
  have wq : wa ≠ q := nel hf.1.1 hq
  subst e2
  exact ⟨k1.tr k2, ⟨f1.1, f1.2.1, f1.2.2⟩, row_1 f1, ⟨ink_nwA (n := 1) (r := fun _ => 0) hf.1 hq, (va_up_ne _ _ wq).trans hf.2.1, hf.2.2⟩, (va_up_ne _ _ wq).trans (va_up_ne _ _ wq), wq, rfl⟩
theorem act_pure (hT : IV E K T N) (hw : WR K T wa) (hc : m_cells K T = nI C) (ht : sI T 39 (K 1) = sI T 40 (K 1) + r) (hk : KP E K T S2 N) (hf : FR K S2 q 1) (hf2 : FR K S2 wa 15) (hr : sA S2 wa = sA T wa) (wq : wa ≠ q) (hI : sI S2 = sI T) (hA : ACT E K S2 q N u) :
    IV E K u (N + 5) ∧ FR K u wa 15 ∧ WR K u wa ∧ m_cells K u = nI C ∧ (InK u q 9 ∧ sN u q = 1) ∧ (sA u q 0 = 0 → m_met K u ||| m_met K T = m_met K T) ∧ sA u q 0 ≠ 2 ∧ (sI u 40 (K 1) = sI T 40 (K 1) → sI u 39 (K 1) = sI u 40 (K 1) + (r + (sI u 39 (K 1) - sI T 39 (K 1)))) ∧ (¬ sI u 40 (K 1) = sI T 40 (K 1) → sI u 39 (K 1) = sI u 40 (K 1) + r) := by
  obtain ⟨a1, a2, a3, a4⟩ := hA
  have mo := hk.2.1.tr a2
  have b := a3.2 wa hf2.1.1
  have bq := a3.2 q hf.1.1
  have row : sA u wa = sA T wa := (a3.1 wa hf2.1.1 wq hf2.2.2.1 hf2.2.2.2.1 hf2.2.2.2.2.1 hf2.2.2.2.2.2.1 hf2.2.2.2.2.2.2).trans hr
  refine ⟨a1, ⟨⟨b.1, b.2.1.trans hf2.1.2⟩, b.2.2.trans hf2.2.1, hf2.2.2⟩, hw.mo hT a1 mo row, mo.2.2.2.trans hc, ⟨⟨bq.1, bq.2.1.trans hf.1.2⟩, bq.2.2.trans hf.2.1⟩, fun e => ?_, fun e => ?_, fun e => sub_add (b := 0) ht e, fun e => ?_⟩
  · rcases a4 with ⟨-, nc, -⟩ | ⟨e1, -⟩
    · exact met_sub hT a1 (hk.2.2.1.tr nc)
    · rw [e] at e1; exact absurd e1 (by decide)
  · rcases a4 with ⟨e1, -⟩ | ⟨e1, -⟩
    · rw [e] at e1; exact absurd e1 (by decide)
    · rw [e] at e1; exact absurd e1 (by decide)
  · rcases a4 with ⟨-, -, tt⟩ | ⟨-, e1⟩
    · exact sub_keep ht (hk.2.2.2.tr tt)
    · exact absurd (e1.trans (by rw [hI])) e
end TNE
set_option maxRecDepth 100000 in
theorem law_tail {p : Program} {l : Launch} {e : Env} {s : State} {m : MethodId} {args : Array Value} {below : List Frame} {meth : Method} {c : Code} {Q : State → Prop} {E : EV} (M : MC E p s m args meth c cL_law RL 13 (some .boolean)) {K : Nat → Nat} {S0 S : PS} {N C wa b j cl sl : Nat} {r x : Int32} (h : LB E K wa N S0 S) (hC0 : 0 < C) (hC6 : C ≤ 196) (hcC : m_cells K S0 = nI C) (hc1 : cl ≤ room_1.cells) (hc2 : sl ≤ room_1.slots)
    (KX : ∀ U : PS, LB E K wa N S0 U → J p l e room_1 s m args below meth c Q E 13 56 [(0, .ref b), (1, .ref (K 0)), (2, .int (nI C)), (3, .int r), (4, .ref wa), (5, .int (nI (j + 1)))] [] U cl sl) : J p l e room_1 s m args below meth c Q E 13 325 [(0, .ref b), (1, .ref (K 0)), (2, .int (nI C)), (3, .int r), (4, .ref wa), (5, .int (nI j)), (6, .int x)] [] S cl sl := by
  have hcS : m_cells K S = nI C := h.2.1.2.2.2.trans hcC
  refine j_aload_n M dL_law_325 rfl ?_
  refine j_iload_n M dL_law_326 rfl ?_
  refine j_callS (As := [.ref (K 0), .int (nI C)]) M cf_L_isWhole wM_L_41 (c_isWhole h.1.g.1 h.1.g.2.1 h.1.g.2.2 h.1 hC6 hcS) rfl ⟨Nat.le_of_ble_eq_true rfl, Nat.le_of_ble_eq_true rfl⟩ (Nat.le_of_ble_eq_true rfl) ⟨by omega, by omega⟩ dL_law_327 rfl (fun v U1 hv => ?_)
  obtain ⟨rfl, g1, q1⟩ := hv
  have b1 := h.qs g1 q1
  have e1 : m_cells K U1 = nI C := b1.2.1.2.2.2.trans hcC
  refine j_if_ne (tgt := 335) M dL_law_330 (by decide) (fun _ => ?_) (fun z => absurd z (by decide))
  refine j_iload M dL_law_335 rfl ?_
  refine j_bipush (v := 12) M dL_law_337 (by decide) ?_
  refine j_irem M dL_law_339 (by decide) ?_
  refine j_bipush (v := 11) M dL_law_340 (by decide) ?_
  refine j_icmp_ne (tgt := 357) M dL_law_342 (by decide) (fun c1 => ?_) (fun c1 => ?_)
  · refine j_iinc (v := (nI (j + 1))) (lv' := [(5, .int (nI (j + 1))), (0, .ref b), (1, .ref (K 0)), (2, .int (nI C)), (3, .int r), (4, .ref wa), (6, .int x)]) M dL_law_357 rfl (nI_1 _) (by decide) rfl ?_
    refine j_goto (tgt := 56) M dL_law_360 (by decide) ?_
    refine j_pick (lv' := [(0, .ref b), (1, .ref (K 0)), (2, .int (nI C)), (3, .int r), (4, .ref wa), (5, .int (nI (j + 1)))]) [1, 2, 3, 4, 5, 0] rfl ?_
    exact KX _ b1
  · refine j_aload_n M dL_law_345 rfl ?_
    refine j_iload M dL_law_346 rfl ?_
    refine j_iload_n M dL_law_348 rfl ?_
    refine j_callS (As := [.ref (K 0), .int x, .int (nI C)]) M cf_L_isAsked wM_L_45 (c_isAsked (S := U1) b1.1.g.1 b1.1.g.2.1 b1.1.g.2.2 x b1.1 hC0 hC6 e1) rfl ⟨Nat.le_of_ble_eq_true rfl, Nat.le_of_ble_eq_true rfl⟩ (Nat.le_of_ble_eq_true rfl) ⟨by omega, by omega⟩ dL_law_349 rfl (fun v U2 hv => ?_)
    obtain ⟨rfl, g2, q2⟩ := hv
    have b2 := b1.qs g2 q2
    have e2 : m_cells K U2 = nI C := b2.2.1.2.2.2.trans hcC
    refine j_if_ne (tgt := 357) M dL_law_352 (by decide) (fun _ => ?_) (fun z => absurd z (by decide))
    refine j_iinc (v := (nI (j + 1))) (lv' := [(5, .int (nI (j + 1))), (0, .ref b), (1, .ref (K 0)), (2, .int (nI C)), (3, .int r), (4, .ref wa), (6, .int x)]) M dL_law_357 rfl (nI_1 _) (by decide) rfl ?_
    refine j_goto (tgt := 56) M dL_law_360 (by decide) ?_
    refine j_pick (lv' := [(0, .ref b), (1, .ref (K 0)), (2, .int (nI C)), (3, .int r), (4, .ref wa), (5, .int (nI (j + 1)))]) [1, 2, 3, 4, 5, 0] rfl ?_
    exact KX _ b2
set_option maxRecDepth 100000 in
theorem law_turn {p : Program} {l : Launch} {e : Env} {s : State} {m : MethodId} {args : Array Value} {below : List Frame} {meth : Method} {c : Code} {Q : State → Prop} {E : EV} (M : MC E p s m args meth c cL_law RL 13 (some .boolean)) (hlt : l.stackTraces = false) (hn : NC3 s) {b L : Nat} {xs : Nat → Int32} (hX : XS E b L xs s) (hL : L ≤ 260) {K : Nat → Nat} {S : PS} {C wa j cl sl : Nat} {r : Int32} (h : TL E K wa C j r S) (hj : j < 70) (hC0 : 0 < C) (hC6 : C ≤ 196) (hc1 : cl + 100 ≤ room_1.cells) (hc2 : sl + 700 ≤ room_1.slots)
    (KX : ∀ (r' : Int32) (U : PS), TL E K wa C (j + 1) r' U → J p l e room_1 s m args below meth c Q E 13 56 [(0, .ref b), (1, .ref (K 0)), (2, .int (nI C)), (3, .int (r')), (4, .ref wa), (5, .int (nI (j + 1)))] [] U (cl + 100) (sl + 700)) : J p l e room_1 s m args below meth c Q E 13 63 [(0, .ref b), (1, .ref (K 0)), (2, .int (nI C)), (3, .int r), (4, .ref wa), (5, .int (nI j))] [] S cl sl := by
  refine j_aload_n M dL_law_63 rfl ?_
  refine j_iload M dL_law_64 rfl ?_
  refine j_bipush (v := 16) M dL_law_66 (by decide) ?_
  refine j_irem M dL_law_68 (by decide) ?_
  refine j_eq (st2 := [.int (nI (j % 16)), .ref b]) rfl (by rw [rem16 hj]) rfl ?_
  refine j_callSC (n := 2) (As := [.ref b, .int (nI (j % 16))]) M cf_L_cell wM_L_12 (c_cell hL (by omega)) hX.ok rfl ⟨Nat.le_of_ble_eq_true rfl, Nat.le_of_ble_eq_true rfl⟩ (Nat.le_of_ble_eq_true rfl) ⟨by omega, by omega⟩ dL_law_69 rfl (fun v u hv => ?_)
  obtain ⟨⟨r1, rfl⟩, hu⟩ := hv
  rw [hu]
  refine j_bipush (v := 67) M dL_law_72 (by decide) ?_
  refine j_iload M dL_law_74 rfl ?_
  refine j_imul M dL_law_76 ?_
  refine j_iadd M dL_law_77 ?_
  obtain ⟨x, hx⟩ : ∃ z, z = r1 + (67 * (nI j)) := ⟨_, rfl⟩
  refine j_eq (st2 := [.int x]) rfl (by rw [hx]; rfl) rfl ?_
  refine j_istore (lv' := [(6, .int x), (0, .ref b), (1, .ref (K 0)), (2, .int (nI C)), (3, .int r), (4, .ref wa), (5, .int (nI j))]) M dL_law_78 (by decide) rfl ?_
  refine law_build M hlt hn h.1 hC0 hC6 h.2.2.2.1 (by omega) (by omega) (fun T hB => ?_)
  obtain ⟨fT, wT, cT, tT⟩ := turn_pure h hB
  refine j_aload_n M dL_law_94 rfl ?_
  refine j_callS1 (As := [.ref (K 0)]) (x := .int (m_met K T)) M cf_L_met wM_L_33 (c_met (S := T) hB.1.g.1 hB.1.g.2.1 hB.1.g.2.2) rfl ⟨Nat.le_of_ble_eq_true rfl, Nat.le_of_ble_eq_true rfl⟩ (Nat.le_of_ble_eq_true rfl) ⟨by omega, by omega⟩ dL_law_95 rfl ?_
  refine j_istore (lv' := [(7, .int (m_met K T)), (6, .int x), (0, .ref b), (1, .ref (K 0)), (2, .int (nI C)), (3, .int r), (4, .ref wa), (5, .int (nI j))]) M dL_law_98 (by decide) rfl ?_
  refine j_aload_n M dL_law_100 rfl ?_
  refine j_iconst (v := 1) M dL_law_101 (by decide) ?_
  refine j_callV1 (As := [.int 1]) (x := .int (sI T 39 (K 1))) M cf_X7_many wM_L_25 (cm_1 (S := T) hB.1.g.1 hB.1.g.2.1 hB.1.g.2.2) hB.1.g.1.k0.1 (pAt_7 E _ hB.1.g.1.k0.2) rfl rfl ⟨Nat.le_of_ble_eq_true rfl, Nat.le_of_ble_eq_true rfl⟩ (Nat.le_of_ble_eq_true rfl) ⟨by omega, by omega⟩ dL_law_102 rfl ?_
  refine j_istore (lv' := [(8, .int (sI T 39 (K 1))), (7, .int (m_met K T)), (6, .int x), (0, .ref b), (1, .ref (K 0)), (2, .int (nI C)), (3, .int r), (4, .ref wa), (5, .int (nI j))]) M dL_law_105 (by decide) rfl ?_
  refine j_aload_n M dL_law_107 rfl ?_
  refine j_bipush (v := 10) M dL_law_108 (by decide) ?_
  refine j_callV1 (As := [.int 10]) (x := .int (sI T 40 (K 1))) M cf_X7_many wM_L_25 (cm_10 (S := T) hB.1.g.1 hB.1.g.2.1 hB.1.g.2.2) hB.1.g.1.k0.1 (pAt_7 E _ hB.1.g.1.k0.2) rfl rfl ⟨Nat.le_of_ble_eq_true rfl, Nat.le_of_ble_eq_true rfl⟩ (Nat.le_of_ble_eq_true rfl) ⟨by omega, by omega⟩ dL_law_110 rfl ?_
  refine j_istore (lv' := [(9, .int (sI T 40 (K 1))), (8, .int (sI T 39 (K 1))), (7, .int (m_met K T)), (6, .int x), (0, .ref b), (1, .ref (K 0)), (2, .int (nI C)), (3, .int r), (4, .ref wa), (5, .int (nI j))]) M dL_law_113 (by decide) rfl ?_
  refine j_iconst (v := 1) M dL_law_115 (by decide) ?_
  refine j_newi M (n := 1) (by decide) (by decide) ⟨by omega, by rw [show (1 : Int32).toNatClampNeg = 1 from by decide]; omega⟩ dL_law_116 (fun q hq => ?_)
  rw [show (1 : Int32).toNatClampNeg = 1 from by decide]
  refine j_widen (k := cl + 12) (n := sl + 93) (by omega) (by omega) ?_
  refine j_df M (fun hd _ => ?_)
  refine j_dup M dL_law_118 rfl ?_
  refine j_iconst (v := 0) M dL_law_119 (by decide) ?_
  refine j_iconst (v := 0) M dL_law_120 (by decide) ?_
  refine j_iast M ink_new.1.1 ink_new.1.2 (by rw [ink_new.2]; unfold vp_in; decide) dL_law_121 ?_
  obtain ⟨S2, e2⟩ : ∃ z, z = uA (nwA T q 1 (fun _ => 0)) q (upd (sA (nwA T q 1 (fun _ => 0)) q) (0 : Int32).toNatClampNeg 0) := ⟨_, rfl⟩
  rw [← e2]
  obtain ⟨k2, f2, z2, fw, rw2, wq, i2⟩ := set_new hB.1 fT hq hd e2
  refine j_astore (lv' := [(10, .ref q), (9, .int (sI T 40 (K 1))), (8, .int (sI T 39 (K 1))), (7, .int (m_met K T)), (6, .int x), (0, .ref b), (1, .ref (K 0)), (2, .int (nI C)), (3, .int r), (4, .ref wa), (5, .int (nI j))]) M dL_law_122 (by decide) rfl ?_
  refine j_aload_n M dL_law_124 rfl ?_
  refine j_iload M dL_law_125 rfl ?_
  refine j_iconst (v := 2) M dL_law_127 (by decide) ?_
  refine j_ishr M dL_law_128 ?_
  refine j_iload M dL_law_129 rfl ?_
  refine j_bipush (v := 12) M dL_law_131 (by decide) ?_
  refine j_callS1 (As := [.int x, .int 12]) (x := .int (m_below K S2 x 12)) M cf_L_below wM_L_18 (c_below (S := S2) k2.1.g.1 x 12 (by decide)) rfl ⟨Nat.le_of_ble_eq_true rfl, Nat.le_of_ble_eq_true rfl⟩ (Nat.le_of_ble_eq_true rfl) ⟨by omega, by omega⟩ dL_law_133 rfl ?_
  refine j_iload_n M dL_law_136 rfl ?_
  refine j_aload M dL_law_137 rfl ?_
  refine j_callSH (n := 5) (As := [.ref (K 0), .int (x >>> (2 &&& 31)), .int (m_below K S2 x 12), .int (nI C), .ref q]) M ⟨wC_L_act, wS_L_act, wN_L, by decide +kernel⟩ wM_L_37 (c_act hlt k2.1 (by omega) hC0 hC6 f2 z2 (x >>> (2 &&& 31)) (m_below K S2 x 12)) hn.ok rfl ⟨Nat.le_of_ble_eq_true rfl, Nat.le_of_ble_eq_true rfl⟩ (Nat.le_of_ble_eq_true rfl) ⟨by omega, by omega⟩ dL_law_139 rfl (fun v u hv => ?_)
  obtain ⟨rfl, hA⟩ := hv
  obtain ⟨iu, fu, wu, cu, nu, mu, yu, t1, t2⟩ := act_pure hB.1 wT cT tT k2 f2 fw rw2 wq i2 hA
  clear hA
  refine j_aload_n M dL_law_142 rfl ?_
  refine j_bipush (v := 10) M dL_law_143 (by decide) ?_
  refine j_callV1 (As := [.int 10]) (x := .int (sI u 40 (K 1))) M cf_X7_many wM_L_25 (cm_10 (S := u) iu.g.1 iu.g.2.1 iu.g.2.2) iu.g.1.k0.1 (pAt_7 E _ iu.g.1.k0.2) rfl rfl ⟨Nat.le_of_ble_eq_true rfl, Nat.le_of_ble_eq_true rfl⟩ (Nat.le_of_ble_eq_true rfl) ⟨by omega, by omega⟩ dL_law_145 rfl ?_
  refine j_iload M dL_law_148 rfl ?_
  refine j_icmp_ne (tgt := 164) M dL_law_150 (by decide) (fun c1 => ?_) (fun c1 => ?_)
  · refine j_pick (lv' := [(3, .int r), (10, .ref q), (9, .int (sI T 40 (K 1))), (8, .int (sI T 39 (K 1))), (7, .int (m_met K T)), (6, .int x), (0, .ref b), (1, .ref (K 0)), (2, .int (nI C)), (4, .ref wa), (5, .int (nI j))]) [8, 0, 1, 2, 3, 4, 5, 6, 7, 9, 10] rfl ?_
    refine law_mid M iu nu rfl mu yu (t2 c1) (by omega) (by omega) ?_
    refine law_what M (S := u) ⟨iu, EQ.rf, fu, wu⟩ ⟨by omega, by omega⟩ (fun U hU => ?_)
    refine law_tail M hU hC0 hC6 cu (by omega) (by omega) (fun V hV => ?_)
    refine j_widen (k := cl + 100) (n := sl + 700) (by omega) (by omega) ?_
    exact KX _ V ⟨by rw [show 5 * (j + 1) = 5 * j + 5 from by omega]; exact hV.1, hV.2.2.1, hV.2.2.2, hV.2.1.2.2.2.trans cu, by rw [hV.2.1.1.1, hV.2.1.1.2.1]; exact t2 c1⟩
  · refine j_iload_n M dL_law_153 rfl ?_
    refine j_aload_n M dL_law_154 rfl ?_
    refine j_iconst (v := 1) M dL_law_155 (by decide) ?_
    refine j_callV1 (As := [.int 1]) (x := .int (sI u 39 (K 1))) M cf_X7_many wM_L_25 (cm_1 (S := u) iu.g.1 iu.g.2.1 iu.g.2.2) iu.g.1.k0.1 (pAt_7 E _ iu.g.1.k0.2) rfl rfl ⟨Nat.le_of_ble_eq_true rfl, Nat.le_of_ble_eq_true rfl⟩ (Nat.le_of_ble_eq_true rfl) ⟨by omega, by omega⟩ dL_law_156 rfl ?_
    refine j_iload M dL_law_159 rfl ?_
    refine j_isub M dL_law_161 ?_
    refine j_iadd M dL_law_162 ?_
    refine j_istore_n (lv' := [(3, .int (r + ((sI u 39 (K 1)) - (sI T 39 (K 1))))), (10, .ref q), (9, .int (sI T 40 (K 1))), (8, .int (sI T 39 (K 1))), (7, .int (m_met K T)), (6, .int x), (0, .ref b), (1, .ref (K 0)), (2, .int (nI C)), (4, .ref wa), (5, .int (nI j))]) M dL_law_163 rfl (by decide) rfl ?_
    refine j_pick (lv' := [(3, .int (r + ((sI u 39 (K 1)) - (sI T 39 (K 1))))), (10, .ref q), (9, .int (sI T 40 (K 1))), (8, .int (sI T 39 (K 1))), (7, .int (m_met K T)), (6, .int x), (0, .ref b), (1, .ref (K 0)), (2, .int (nI C)), (4, .ref wa), (5, .int (nI j))]) [0, 1, 2, 3, 4, 5, 6, 7, 8, 9, 10] rfl ?_
    refine law_mid M iu nu rfl mu yu (t1 c1) (by omega) (by omega) ?_
    refine law_what M (S := u) ⟨iu, EQ.rf, fu, wu⟩ ⟨by omega, by omega⟩ (fun U hU => ?_)
    refine law_tail M hU hC0 hC6 cu (by omega) (by omega) (fun V hV => ?_)
    refine j_widen (k := cl + 100) (n := sl + 700) (by omega) (by omega) ?_
    exact KX _ V ⟨by rw [show 5 * (j + 1) = 5 * j + 5 from by omega]; exact hV.1, hV.2.2.1, hV.2.2.2, hV.2.1.2.2.2.trans cu, by rw [hV.2.1.1.1, hV.2.1.1.2.1]; exact t1 c1⟩
