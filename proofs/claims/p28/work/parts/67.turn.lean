/-! the law: one turn -/
def TL (E : EV) (K : Nat → Nat) (wa C j : Nat) (r : Int32) (S : PS) : Prop := IV E K S (5 * j) ∧ FR K S wa 15 ∧ WR K S wa ∧ m_cells K S = nI C ∧ sI S 39 (K 1) = sI S 40 (K 1) + r
set_option maxRecDepth 100000 in
theorem law_build {p : Program} {l : Launch} {e : Env} {s : State} {m : MethodId} {args : Array Value} {below : List Frame} {meth : Method} {c : Code} {Q : State → Prop} {E : EV} (M : MC E p s m args meth c cL_law RL 13 (some .boolean)) (hlt : l.stackTraces = false) (hn : NC3 s) {K : Nat → Nat} {S : PS} {N C wa b j cl sl : Nat} {r x : Int32} (h : IV E K S N) (hC0 : 0 < C) (hC6 : C ≤ 196) (hcC : m_cells K S = nI C) (hc1 : cl + 100 ≤ room_1.cells) (hc2 : sl + 700 ≤ room_1.slots)
    (KX : ∀ U : PS, BLD E K S N U → J p l e room_1 s m args below meth c Q E 13 94 [(6, .int x), (0, .ref b), (1, .ref (K 0)), (2, .int (nI C)), (3, .int r), (4, .ref wa), (5, .int (nI j))] [] U (cl + 11) (sl + 92)) : J p l e room_1 s m args below meth c Q E 13 80 [(6, .int x), (0, .ref b), (1, .ref (K 0)), (2, .int (nI C)), (3, .int r), (4, .ref wa), (5, .int (nI j))] [] S cl sl := by
  refine j_iload M dL_law_80 rfl ?_
  refine j_bipush (v := 10) M dL_law_82 (by decide) ?_
  refine j_icmp_ge (tgt := 94) M dL_law_84 (by decide) (fun c1 => ?_) (fun c1 => ?_)
  · refine j_widen (k := cl + 11) (n := sl + 92) (by omega) (by omega) ?_
    exact KX _ ⟨h, MO.rf, KA.rf, TT.rf⟩
  · refine j_aload_n M dL_law_87 rfl ?_
    refine j_iload M dL_law_88 rfl ?_
    refine j_iload_n M dL_law_90 rfl ?_
    refine j_callSH (n := 3) (As := [.ref (K 0), .int x, .int (nI C)]) M ⟨wC_L_build, wS_L_build, wN_L, by decide +kernel⟩ wM_L_29 (c_lbuild hlt h hC0 hC6 hcC x) hn.ok rfl ⟨Nat.le_of_ble_eq_true rfl, Nat.le_of_ble_eq_true rfl⟩ (Nat.le_of_ble_eq_true rfl) ⟨by omega, by omega⟩ dL_law_91 rfl (fun v u hv => ?_)
    obtain ⟨rfl, hB⟩ := hv
    exact KX _ hB
set_option maxRecDepth 100000 in
theorem law_mid {p : Program} {l : Launch} {e : Env} {s : State} {m : MethodId} {args : Array Value} {below : List Frame} {meth : Method} {c : Code} {Q : State → Prop} {E : EV} (M : MC E p s m args meth c cL_law RL 13 (some .boolean)) {K : Nat → Nat} {S : PS} {N C wa b j cl sl q : Nat} {r x mt tm sp y : Int32} (h : IV E K S N) (hq : InK S q 9 ∧ sN S q = 1) (hy : sA S q 0 = y) (hm : y = 0 → m_met K S ||| mt = mt) (hy2 : y ≠ 2) (ht : sI S 39 (K 1) = sI S 40 (K 1) + r) (hc1 : cl ≤ room_1.cells) (hc2 : sl ≤ room_1.slots)
    (KX : J p l e room_1 s m args below meth c Q E 13 230 [(0, .ref b), (1, .ref (K 0)), (2, .int (nI C)), (3, .int r), (4, .ref wa), (5, .int (nI j)), (6, .int x)] [] S cl sl) : J p l e room_1 s m args below meth c Q E 13 164 [(3, .int r), (10, .ref q), (9, .int sp), (8, .int tm), (7, .int mt), (6, .int x), (0, .ref b), (1, .ref (K 0)), (2, .int (nI C)), (4, .ref wa), (5, .int (nI j))] [] S cl sl := by
  refine j_aload M dL_law_164 rfl ?_
  refine j_iconst (v := 0) M dL_law_166 (by decide) ?_
  refine j_iald M hq.1.1 hq.1.2 (by rw [hq.2]; unfold vp_in; decide) dL_law_167 ?_
  refine j_eq (st2 := [.int y]) rfl (by rw [show sA S q (0 : Int32).toNatClampNeg = y from hy]) rfl ?_
  refine j_if_ne (tgt := 183) M dL_law_168 (by decide) (fun c1 => ?_) (fun c1 => ?_)
  · refine j_aload M dL_law_183 rfl ?_
    refine j_iconst (v := 0) M dL_law_185 (by decide) ?_
    refine j_iald M hq.1.1 hq.1.2 (by rw [hq.2]; unfold vp_in; decide) dL_law_186 ?_
    refine j_eq (st2 := [.int y]) rfl (by rw [show sA S q (0 : Int32).toNatClampNeg = y from hy]) rfl ?_
    refine j_iconst (v := 2) M dL_law_187 (by decide) ?_
    refine j_icmp_ne (tgt := 193) M dL_law_188 (by decide) (fun _ => ?_) (fun z => absurd z hy2)
    refine j_aload_n M dL_law_193 rfl ?_
    refine j_iconst (v := 1) M dL_law_194 (by decide) ?_
    refine j_callV1 (As := [.int 1]) (x := .int (sI S 39 (K 1))) M cf_X7_many wM_L_25 (cm_1 h.g.1 h.g.2.1 h.g.2.2) h.g.1.k0.1 (pAt_7 E _ h.g.1.k0.2) rfl rfl ⟨Nat.le_of_ble_eq_true rfl, Nat.le_of_ble_eq_true rfl⟩ (Nat.le_of_ble_eq_true rfl) ⟨by omega, by omega⟩ dL_law_195 rfl ?_
    refine j_aload_n M dL_law_198 rfl ?_
    refine j_bipush (v := 10) M dL_law_199 (by decide) ?_
    refine j_callV1 (As := [.int 10]) (x := .int (sI S 40 (K 1))) M cf_X7_many wM_L_25 (cm_10 h.g.1 h.g.2.1 h.g.2.2) h.g.1.k0.1 (pAt_7 E _ h.g.1.k0.2) rfl rfl ⟨Nat.le_of_ble_eq_true rfl, Nat.le_of_ble_eq_true rfl⟩ (Nat.le_of_ble_eq_true rfl) ⟨by omega, by omega⟩ dL_law_201 rfl ?_
    refine j_iload_n M dL_law_204 rfl ?_
    refine j_iadd M dL_law_205 ?_
    refine j_icmp_ne (tgt := 228) M dL_law_206 (by decide) (fun z => absurd ht z) (fun _ => ?_)
    refine j_aload_n M dL_law_209 rfl ?_
    refine j_iconst (v := 2) M dL_law_210 (by decide) ?_
    refine j_callV1 (As := [.int 2]) (x := .int (m_hour K S)) M cf_X7_many wM_L_25 (cm_2 h.g.1 h.g.2.1 h.g.2.2) h.g.1.k0.1 (pAt_7 E _ h.g.1.k0.2) rfl rfl ⟨Nat.le_of_ble_eq_true rfl, Nat.le_of_ble_eq_true rfl⟩ (Nat.le_of_ble_eq_true rfl) ⟨by omega, by omega⟩ dL_law_211 rfl ?_
    refine j_aload_n M dL_law_214 rfl ?_
    refine j_iconst (v := 1) M dL_law_215 (by decide) ?_
    refine j_callV1 (As := [.int 1]) (x := .int (sI S 39 (K 1))) M cf_X7_many wM_L_25 (cm_1 h.g.1 h.g.2.1 h.g.2.2) h.g.1.k0.1 (pAt_7 E _ h.g.1.k0.2) rfl rfl ⟨Nat.le_of_ble_eq_true rfl, Nat.le_of_ble_eq_true rfl⟩ (Nat.le_of_ble_eq_true rfl) ⟨by omega, by omega⟩ dL_law_216 rfl ?_
    refine j_bipush (v := 20) M dL_law_219 (by decide) ?_
    refine j_idiv M dL_law_221 (by decide) ?_
    refine j_bipush (v := 24) M dL_law_222 (by decide) ?_
    refine j_irem M dL_law_224 (by decide) ?_
    refine j_icmp_eq (tgt := 230) M dL_law_225 (by decide) (fun _ => ?_) (fun z => absurd (rfl) z)
    refine j_pick (lv' := [(0, .ref b), (1, .ref (K 0)), (2, .int (nI C)), (3, .int r), (4, .ref wa), (5, .int (nI j)), (6, .int x)]) [6, 7, 8, 0, 9, 10, 5] rfl ?_
    exact KX
  · refine j_aload_n M dL_law_171 rfl ?_
    refine j_callS1 (As := [.ref (K 0)]) (x := .int (m_met K S)) M cf_L_met wM_L_33 (c_met h.g.1 h.g.2.1 h.g.2.2) rfl ⟨Nat.le_of_ble_eq_true rfl, Nat.le_of_ble_eq_true rfl⟩ (Nat.le_of_ble_eq_true rfl) ⟨by omega, by omega⟩ dL_law_172 rfl ?_
    refine j_iload M dL_law_175 rfl ?_
    refine j_ior M dL_law_177 ?_
    refine j_iload M dL_law_178 rfl ?_
    refine j_icmp_ne (tgt := 191) M dL_law_180 (by decide) (fun z => absurd (hm c1) z) (fun _ => ?_)
    refine j_aload M dL_law_183 rfl ?_
    refine j_iconst (v := 0) M dL_law_185 (by decide) ?_
    refine j_iald M hq.1.1 hq.1.2 (by rw [hq.2]; unfold vp_in; decide) dL_law_186 ?_
    refine j_eq (st2 := [.int y]) rfl (by rw [show sA S q (0 : Int32).toNatClampNeg = y from hy]) rfl ?_
    refine j_iconst (v := 2) M dL_law_187 (by decide) ?_
    refine j_icmp_ne (tgt := 193) M dL_law_188 (by decide) (fun _ => ?_) (fun z => absurd z hy2)
    refine j_aload_n M dL_law_193 rfl ?_
    refine j_iconst (v := 1) M dL_law_194 (by decide) ?_
    refine j_callV1 (As := [.int 1]) (x := .int (sI S 39 (K 1))) M cf_X7_many wM_L_25 (cm_1 h.g.1 h.g.2.1 h.g.2.2) h.g.1.k0.1 (pAt_7 E _ h.g.1.k0.2) rfl rfl ⟨Nat.le_of_ble_eq_true rfl, Nat.le_of_ble_eq_true rfl⟩ (Nat.le_of_ble_eq_true rfl) ⟨by omega, by omega⟩ dL_law_195 rfl ?_
    refine j_aload_n M dL_law_198 rfl ?_
    refine j_bipush (v := 10) M dL_law_199 (by decide) ?_
    refine j_callV1 (As := [.int 10]) (x := .int (sI S 40 (K 1))) M cf_X7_many wM_L_25 (cm_10 h.g.1 h.g.2.1 h.g.2.2) h.g.1.k0.1 (pAt_7 E _ h.g.1.k0.2) rfl rfl ⟨Nat.le_of_ble_eq_true rfl, Nat.le_of_ble_eq_true rfl⟩ (Nat.le_of_ble_eq_true rfl) ⟨by omega, by omega⟩ dL_law_201 rfl ?_
    refine j_iload_n M dL_law_204 rfl ?_
    refine j_iadd M dL_law_205 ?_
    refine j_icmp_ne (tgt := 228) M dL_law_206 (by decide) (fun z => absurd ht z) (fun _ => ?_)
    refine j_aload_n M dL_law_209 rfl ?_
    refine j_iconst (v := 2) M dL_law_210 (by decide) ?_
    refine j_callV1 (As := [.int 2]) (x := .int (m_hour K S)) M cf_X7_many wM_L_25 (cm_2 h.g.1 h.g.2.1 h.g.2.2) h.g.1.k0.1 (pAt_7 E _ h.g.1.k0.2) rfl rfl ⟨Nat.le_of_ble_eq_true rfl, Nat.le_of_ble_eq_true rfl⟩ (Nat.le_of_ble_eq_true rfl) ⟨by omega, by omega⟩ dL_law_211 rfl ?_
    refine j_aload_n M dL_law_214 rfl ?_
    refine j_iconst (v := 1) M dL_law_215 (by decide) ?_
    refine j_callV1 (As := [.int 1]) (x := .int (sI S 39 (K 1))) M cf_X7_many wM_L_25 (cm_1 h.g.1 h.g.2.1 h.g.2.2) h.g.1.k0.1 (pAt_7 E _ h.g.1.k0.2) rfl rfl ⟨Nat.le_of_ble_eq_true rfl, Nat.le_of_ble_eq_true rfl⟩ (Nat.le_of_ble_eq_true rfl) ⟨by omega, by omega⟩ dL_law_216 rfl ?_
    refine j_bipush (v := 20) M dL_law_219 (by decide) ?_
    refine j_idiv M dL_law_221 (by decide) ?_
    refine j_bipush (v := 24) M dL_law_222 (by decide) ?_
    refine j_irem M dL_law_224 (by decide) ?_
    refine j_icmp_eq (tgt := 230) M dL_law_225 (by decide) (fun _ => ?_) (fun z => absurd (rfl) z)
    refine j_pick (lv' := [(0, .ref b), (1, .ref (K 0)), (2, .int (nI C)), (3, .int r), (4, .ref wa), (5, .int (nI j)), (6, .int x)]) [6, 7, 8, 0, 9, 10, 5] rfl ?_
    exact KX
