/-! the law: the fifteen numbers, asked and kept -/
set_option maxRecDepth 100000 in
theorem law_w292 {p : Program} {l : Launch} {e : Env} {s : State} {m : MethodId} {args : Array Value} {below : List Frame} {meth : Method} {c : Code} {Q : State → Prop} {E : EV} (M : MC E p s m args meth c cL_law RL 13 (some .boolean)) {K : Nat → Nat} {S0 S : PS} {N C wa b j cl sl : Nat} {r x w z : Int32} (h : LB E K wa N S0 S) (hc : cl ≤ room_1.cells ∧ sl ≤ room_1.slots) (hok : OKw w 0 14) (hin : vp_in w 15) (hmr : w = 1 ∨ w = 3 ∨ w = 4 ∨ w = 5 ∨ w = 9 ∨ w = 10 ∨ w = 11 ∨ w = 14)
    (KX : ∀ U : PS, LB E K wa N S0 U → J p l e room_1 s m args below meth c Q E 13 308 [(11, .int w), (12, .int z), (0, .ref b), (1, .ref (K 0)), (2, .int (nI C)), (3, .int r), (4, .ref wa), (5, .int (nI j)), (6, .int x)] [] U cl sl) : J p l e room_1 s m args below meth c Q E 13 292 [(11, .int w), (12, .int z), (0, .ref b), (1, .ref (K 0)), (2, .int (nI C)), (3, .int r), (4, .ref wa), (5, .int (nI j)), (6, .int x)] [] S cl sl := by
  refine j_aload_n M dL_law_292 rfl ?_
  refine j_iload M dL_law_293 rfl ?_
  refine j_callV1 (As := [.int w]) (x := .int (m_many K S w).1) M cf_X7_many wM_L_25 (c_many h.1.g.1 h.1.g.2.1 h.1.g.2.2 w hok) h.1.g.1.k0.1 (pAt_7 E _ h.1.g.1.k0.2) rfl rfl ⟨Nat.le_of_ble_eq_true rfl, Nat.le_of_ble_eq_true rfl⟩ (Nat.le_of_ble_eq_true rfl) hc dL_law_295 rfl ?_
  have g1 := gq_many (S := S) h.1.g.1 h.1.g.2.1 h.1.g.2.2 w
  have ob1 := (h.1.obs _ g1.1 g1.2).1 w
  have b1 := h.qs g1.1 g1.2
  have ro1 := congrFun (h.2.2.1.row (KA.qs g1.2)) (w : Int32).toNatClampNeg
  obtain ⟨v1, ev1⟩ : ∃ z, z = (m_many K S w).1 := ⟨_, rfl⟩
  refine j_eq (st2 := [.int v1]) rfl (by rw [ev1]) rfl ?_
  rw [← ev1] at ob1
  generalize (m_many K S w).2 = U1 at g1 ob1 b1 ro1 ⊢
  refine j_aload M dL_law_298 rfl ?_
  refine j_iload M dL_law_300 rfl ?_
  refine j_iald M b1.2.2.1.1.1 b1.2.2.1.1.2 (by rw [b1.2.2.1.2.1]; exact hin) dL_law_302 ?_
  have le1 : sA U1 wa (w : Int32).toNatClampNeg ≤ v1 := by rw [← ob1]; exact wr_ok b1.2.2.2 hmr
  refine j_icmp_ge (tgt := 308) M dL_law_303 (by decide) (fun _ => ?_) (fun z => absurd le1 z)
  refine j_pick (lv' := [(11, .int w), (12, .int z), (0, .ref b), (1, .ref (K 0)), (2, .int (nI C)), (3, .int r), (4, .ref wa), (5, .int (nI j)), (6, .int x)]) [0, 1, 2, 3, 4, 5, 6, 7, 8] rfl ?_
  exact KX _ b1
set_option maxRecDepth 100000 in
theorem law_w308 {p : Program} {l : Launch} {e : Env} {s : State} {m : MethodId} {args : Array Value} {below : List Frame} {meth : Method} {c : Code} {Q : State → Prop} {E : EV} (M : MC E p s m args meth c cL_law RL 13 (some .boolean)) {K : Nat → Nat} {S0 S : PS} {N C wa b j cl sl : Nat} {r x w z : Int32} (h : LB E K wa N S0 S) (hc : cl ≤ room_1.cells ∧ sl ≤ room_1.slots) (hok : OKw w 0 14) (hin : vp_in w 15) (hwi : w = nI w.toNatClampNeg)
    (KX : ∀ U : PS, LB E K wa N S0 U → J p l e room_1 s m args below meth c Q E 13 319 [(11, .int w), (12, .int z), (0, .ref b), (1, .ref (K 0)), (2, .int (nI C)), (3, .int r), (4, .ref wa), (5, .int (nI j)), (6, .int x)] [] U cl sl) : J p l e room_1 s m args below meth c Q E 13 308 [(11, .int w), (12, .int z), (0, .ref b), (1, .ref (K 0)), (2, .int (nI C)), (3, .int r), (4, .ref wa), (5, .int (nI j)), (6, .int x)] [] S cl sl := by
  refine j_aload M dL_law_308 rfl ?_
  refine j_iload M dL_law_310 rfl ?_
  refine j_aload_n M dL_law_312 rfl ?_
  refine j_iload M dL_law_313 rfl ?_
  refine j_callV1 (As := [.int w]) (x := .int (m_many K S w).1) M cf_X7_many wM_L_25 (c_many h.1.g.1 h.1.g.2.1 h.1.g.2.2 w hok) h.1.g.1.k0.1 (pAt_7 E _ h.1.g.1.k0.2) rfl rfl ⟨Nat.le_of_ble_eq_true rfl, Nat.le_of_ble_eq_true rfl⟩ (Nat.le_of_ble_eq_true rfl) hc dL_law_315 rfl ?_
  have g1 := gq_many (S := S) h.1.g.1 h.1.g.2.1 h.1.g.2.2 w
  have ob1 := (h.1.obs _ g1.1 g1.2).1 w
  have b1 := h.qs g1.1 g1.2
  have ro1 := congrFun (h.2.2.1.row (KA.qs g1.2)) (w : Int32).toNatClampNeg
  obtain ⟨v1, ev1⟩ : ∃ z, z = (m_many K S w).1 := ⟨_, rfl⟩
  refine j_eq (st2 := [.int v1, .int w, .ref wa]) rfl (by rw [ev1]) rfl ?_
  rw [← ev1] at ob1
  generalize (m_many K S w).2 = U1 at g1 ob1 b1 ro1 ⊢
  refine j_iast M b1.2.2.1.1.1 b1.2.2.1.1.2 (by rw [b1.2.2.1.2.1]; exact hin) dL_law_318 ?_
  have c1 := b1.row (w := w) (v := v1) hwi ob1.symm
  generalize uA U1 wa (upd (sA U1 wa) (w : Int32).toNatClampNeg v1) = T1 at c1 ⊢
  clear g1 ro1 ob1
  refine j_pick (lv' := [(11, .int w), (12, .int z), (0, .ref b), (1, .ref (K 0)), (2, .int (nI C)), (3, .int r), (4, .ref wa), (5, .int (nI j)), (6, .int x)]) [0, 1, 2, 3, 4, 5, 6, 7, 8] rfl ?_
  exact KX _ c1
set_option maxHeartbeats 1000000 in
set_option maxRecDepth 100000 in
theorem law_what {p : Program} {l : Launch} {e : Env} {s : State} {m : MethodId} {args : Array Value} {below : List Frame} {meth : Method} {c : Code} {Q : State → Prop} {E : EV} (M : MC E p s m args meth c cL_law RL 13 (some .boolean)) {K : Nat → Nat} {S : PS} {N C wa b j cl sl : Nat} {r x : Int32} (h : LB E K wa N S S) (hc : cl ≤ room_1.cells ∧ sl ≤ room_1.slots)
    (KX : ∀ U : PS, LB E K wa N S U → J p l e room_1 s m args below meth c Q E 13 325 [(0, .ref b), (1, .ref (K 0)), (2, .int (nI C)), (3, .int r), (4, .ref wa), (5, .int (nI j)), (6, .int x)] [] U cl sl) : J p l e room_1 s m args below meth c Q E 13 230 [(0, .ref b), (1, .ref (K 0)), (2, .int (nI C)), (3, .int r), (4, .ref wa), (5, .int (nI j)), (6, .int x)] [] S cl sl := by
  refine j_iconst (v := 0) M dL_law_230 (by decide) ?_
  refine j_istore (lv' := [(11, .int 0), (0, .ref b), (1, .ref (K 0)), (2, .int (nI C)), (3, .int r), (4, .ref wa), (5, .int (nI j)), (6, .int x)]) M dL_law_231 (by decide) rfl ?_
  refine j_iload M dL_law_233 rfl ?_
  refine j_bipush (v := 15) M dL_law_235 (by decide) ?_
  refine j_icmp_ge (tgt := 325) M dL_law_237 (by decide) (fun z => absurd z (by decide)) (fun _ => ?_)
  refine j_iload M dL_law_240 rfl ?_
  refine j_iconst (v := 1) M dL_law_242 (by decide) ?_
  refine j_icmp_eq (tgt := 280) M dL_law_243 (by decide) (fun z => absurd z (by decide)) (fun _ => ?_)
  refine j_iload M dL_law_246 rfl ?_
  refine j_iconst (v := 3) M dL_law_248 (by decide) ?_
  refine j_icmp_lt (tgt := 259) M dL_law_249 (by decide) (fun _ => ?_) (fun z => absurd (by decide) z)
  refine j_iload M dL_law_259 rfl ?_
  refine j_bipush (v := 9) M dL_law_261 (by decide) ?_
  refine j_icmp_lt (tgt := 273) M dL_law_263 (by decide) (fun _ => ?_) (fun z => absurd (by decide) z)
  refine j_iload M dL_law_273 rfl ?_
  refine j_bipush (v := 14) M dL_law_275 (by decide) ?_
  refine j_icmp_ne (tgt := 284) M dL_law_277 (by decide) (fun _ => ?_) (fun z => absurd z (by decide))
  refine j_iconst (v := 0) M dL_law_284 (by decide) ?_
  refine j_istore (lv' := [(12, .int 0), (11, .int 0), (0, .ref b), (1, .ref (K 0)), (2, .int (nI C)), (3, .int r), (4, .ref wa), (5, .int (nI j)), (6, .int x)]) M dL_law_285 (by decide) rfl ?_
  refine j_iload M dL_law_287 rfl ?_
  refine j_if_eq (tgt := 308) M dL_law_289 (by decide) (fun _ => ?_) (fun z => absurd (by decide) z)
  refine j_pick (lv' := [(11, .int 0), (12, .int 0), (0, .ref b), (1, .ref (K 0)), (2, .int (nI C)), (3, .int r), (4, .ref wa), (5, .int (nI j)), (6, .int x)]) [1, 0, 2, 3, 4, 5, 6, 7, 8] rfl ?_
  refine law_w308 M h hc (by decide) (by unfold vp_in; decide) (by decide) (fun U1 b1 => ?_)
  refine j_iinc (v := (0 + 1)) (lv' := [(11, .int (0 + 1)), (12, .int 0), (0, .ref b), (1, .ref (K 0)), (2, .int (nI C)), (3, .int r), (4, .ref wa), (5, .int (nI j)), (6, .int x)]) M dL_law_319 rfl rfl (by decide) rfl ?_
  refine j_goto (tgt := 233) M dL_law_322 (by decide) ?_
  refine j_eq (lv2 := [(11, .int 1), (12, .int 0), (0, .ref b), (1, .ref (K 0)), (2, .int (nI C)), (3, .int r), (4, .ref wa), (5, .int (nI j)), (6, .int x)]) (by rw [show (0 + 1 : Int32) = 1 from by decide]) rfl rfl ?_
  refine j_iload M dL_law_233 rfl ?_
  refine j_bipush (v := 15) M dL_law_235 (by decide) ?_
  refine j_icmp_ge (tgt := 325) M dL_law_237 (by decide) (fun z => absurd z (by decide)) (fun _ => ?_)
  refine j_iload M dL_law_240 rfl ?_
  refine j_iconst (v := 1) M dL_law_242 (by decide) ?_
  refine j_icmp_eq (tgt := 280) M dL_law_243 (by decide) (fun _ => ?_) (fun z => absurd (by decide) z)
  refine j_iconst (v := 1) M dL_law_280 (by decide) ?_
  refine j_goto (tgt := 285) M dL_law_281 (by decide) ?_
  refine j_istore (lv' := [(12, .int 1), (11, .int 1), (0, .ref b), (1, .ref (K 0)), (2, .int (nI C)), (3, .int r), (4, .ref wa), (5, .int (nI j)), (6, .int x)]) M dL_law_285 (by decide) rfl ?_
  refine j_iload M dL_law_287 rfl ?_
  refine j_if_eq (tgt := 308) M dL_law_289 (by decide) (fun z => absurd z (by decide)) (fun _ => ?_)
  refine j_pick (lv' := [(11, .int 1), (12, .int 1), (0, .ref b), (1, .ref (K 0)), (2, .int (nI C)), (3, .int r), (4, .ref wa), (5, .int (nI j)), (6, .int x)]) [1, 0, 2, 3, 4, 5, 6, 7, 8] rfl ?_
  refine law_w292 M b1 hc (by decide) (by unfold vp_in; decide) (by decide) (fun U2 b2 => ?_)
  refine j_pick (lv' := [(11, .int 1), (12, .int 1), (0, .ref b), (1, .ref (K 0)), (2, .int (nI C)), (3, .int r), (4, .ref wa), (5, .int (nI j)), (6, .int x)]) [0, 1, 2, 3, 4, 5, 6, 7, 8] rfl ?_
  refine law_w308 M b2 hc (by decide) (by unfold vp_in; decide) (by decide) (fun U3 b3 => ?_)
  refine j_iinc (v := (1 + 1)) (lv' := [(11, .int (1 + 1)), (12, .int 1), (0, .ref b), (1, .ref (K 0)), (2, .int (nI C)), (3, .int r), (4, .ref wa), (5, .int (nI j)), (6, .int x)]) M dL_law_319 rfl rfl (by decide) rfl ?_
  refine j_goto (tgt := 233) M dL_law_322 (by decide) ?_
  refine j_eq (lv2 := [(11, .int 2), (12, .int 1), (0, .ref b), (1, .ref (K 0)), (2, .int (nI C)), (3, .int r), (4, .ref wa), (5, .int (nI j)), (6, .int x)]) (by rw [show (1 + 1 : Int32) = 2 from by decide]) rfl rfl ?_
  refine j_iload M dL_law_233 rfl ?_
  refine j_bipush (v := 15) M dL_law_235 (by decide) ?_
  refine j_icmp_ge (tgt := 325) M dL_law_237 (by decide) (fun z => absurd z (by decide)) (fun _ => ?_)
  refine j_iload M dL_law_240 rfl ?_
  refine j_iconst (v := 1) M dL_law_242 (by decide) ?_
  refine j_icmp_eq (tgt := 280) M dL_law_243 (by decide) (fun z => absurd z (by decide)) (fun _ => ?_)
  refine j_iload M dL_law_246 rfl ?_
  refine j_iconst (v := 3) M dL_law_248 (by decide) ?_
  refine j_icmp_lt (tgt := 259) M dL_law_249 (by decide) (fun _ => ?_) (fun z => absurd (by decide) z)
  refine j_iload M dL_law_259 rfl ?_
  refine j_bipush (v := 9) M dL_law_261 (by decide) ?_
  refine j_icmp_lt (tgt := 273) M dL_law_263 (by decide) (fun _ => ?_) (fun z => absurd (by decide) z)
  refine j_iload M dL_law_273 rfl ?_
  refine j_bipush (v := 14) M dL_law_275 (by decide) ?_
  refine j_icmp_ne (tgt := 284) M dL_law_277 (by decide) (fun _ => ?_) (fun z => absurd z (by decide))
  refine j_iconst (v := 0) M dL_law_284 (by decide) ?_
  refine j_istore (lv' := [(12, .int 0), (11, .int 2), (0, .ref b), (1, .ref (K 0)), (2, .int (nI C)), (3, .int r), (4, .ref wa), (5, .int (nI j)), (6, .int x)]) M dL_law_285 (by decide) rfl ?_
  refine j_iload M dL_law_287 rfl ?_
  refine j_if_eq (tgt := 308) M dL_law_289 (by decide) (fun _ => ?_) (fun z => absurd (by decide) z)
  refine j_pick (lv' := [(11, .int 2), (12, .int 0), (0, .ref b), (1, .ref (K 0)), (2, .int (nI C)), (3, .int r), (4, .ref wa), (5, .int (nI j)), (6, .int x)]) [1, 0, 2, 3, 4, 5, 6, 7, 8] rfl ?_
  refine law_w308 M b3 hc (by decide) (by unfold vp_in; decide) (by decide) (fun U4 b4 => ?_)
  refine j_iinc (v := (2 + 1)) (lv' := [(11, .int (2 + 1)), (12, .int 0), (0, .ref b), (1, .ref (K 0)), (2, .int (nI C)), (3, .int r), (4, .ref wa), (5, .int (nI j)), (6, .int x)]) M dL_law_319 rfl rfl (by decide) rfl ?_
  refine j_goto (tgt := 233) M dL_law_322 (by decide) ?_
  refine j_eq (lv2 := [(11, .int 3), (12, .int 0), (0, .ref b), (1, .ref (K 0)), (2, .int (nI C)), (3, .int r), (4, .ref wa), (5, .int (nI j)), (6, .int x)]) (by rw [show (2 + 1 : Int32) = 3 from by decide]) rfl rfl ?_
  refine j_iload M dL_law_233 rfl ?_
  refine j_bipush (v := 15) M dL_law_235 (by decide) ?_
  refine j_icmp_ge (tgt := 325) M dL_law_237 (by decide) (fun z => absurd z (by decide)) (fun _ => ?_)
  refine j_iload M dL_law_240 rfl ?_
  refine j_iconst (v := 1) M dL_law_242 (by decide) ?_
  refine j_icmp_eq (tgt := 280) M dL_law_243 (by decide) (fun z => absurd z (by decide)) (fun _ => ?_)
  refine j_iload M dL_law_246 rfl ?_
  refine j_iconst (v := 3) M dL_law_248 (by decide) ?_
  refine j_icmp_lt (tgt := 259) M dL_law_249 (by decide) (fun z => absurd z (by decide)) (fun _ => ?_)
  refine j_iload M dL_law_252 rfl ?_
  refine j_bipush (v := 6) M dL_law_254 (by decide) ?_
  refine j_icmp_lt (tgt := 280) M dL_law_256 (by decide) (fun _ => ?_) (fun z => absurd (by decide) z)
  refine j_iconst (v := 1) M dL_law_280 (by decide) ?_
  refine j_goto (tgt := 285) M dL_law_281 (by decide) ?_
  refine j_istore (lv' := [(12, .int 1), (11, .int 3), (0, .ref b), (1, .ref (K 0)), (2, .int (nI C)), (3, .int r), (4, .ref wa), (5, .int (nI j)), (6, .int x)]) M dL_law_285 (by decide) rfl ?_
  refine j_iload M dL_law_287 rfl ?_
  refine j_if_eq (tgt := 308) M dL_law_289 (by decide) (fun z => absurd z (by decide)) (fun _ => ?_)
  refine j_pick (lv' := [(11, .int 3), (12, .int 1), (0, .ref b), (1, .ref (K 0)), (2, .int (nI C)), (3, .int r), (4, .ref wa), (5, .int (nI j)), (6, .int x)]) [1, 0, 2, 3, 4, 5, 6, 7, 8] rfl ?_
  refine law_w292 M b4 hc (by decide) (by unfold vp_in; decide) (by decide) (fun U5 b5 => ?_)
  refine j_pick (lv' := [(11, .int 3), (12, .int 1), (0, .ref b), (1, .ref (K 0)), (2, .int (nI C)), (3, .int r), (4, .ref wa), (5, .int (nI j)), (6, .int x)]) [0, 1, 2, 3, 4, 5, 6, 7, 8] rfl ?_
  refine law_w308 M b5 hc (by decide) (by unfold vp_in; decide) (by decide) (fun U6 b6 => ?_)
  refine j_iinc (v := (3 + 1)) (lv' := [(11, .int (3 + 1)), (12, .int 1), (0, .ref b), (1, .ref (K 0)), (2, .int (nI C)), (3, .int r), (4, .ref wa), (5, .int (nI j)), (6, .int x)]) M dL_law_319 rfl rfl (by decide) rfl ?_
  refine j_goto (tgt := 233) M dL_law_322 (by decide) ?_
  refine j_eq (lv2 := [(11, .int 4), (12, .int 1), (0, .ref b), (1, .ref (K 0)), (2, .int (nI C)), (3, .int r), (4, .ref wa), (5, .int (nI j)), (6, .int x)]) (by rw [show (3 + 1 : Int32) = 4 from by decide]) rfl rfl ?_
  refine j_iload M dL_law_233 rfl ?_
  refine j_bipush (v := 15) M dL_law_235 (by decide) ?_
  refine j_icmp_ge (tgt := 325) M dL_law_237 (by decide) (fun z => absurd z (by decide)) (fun _ => ?_)
  refine j_iload M dL_law_240 rfl ?_
  refine j_iconst (v := 1) M dL_law_242 (by decide) ?_
  refine j_icmp_eq (tgt := 280) M dL_law_243 (by decide) (fun z => absurd z (by decide)) (fun _ => ?_)
  refine j_iload M dL_law_246 rfl ?_
  refine j_iconst (v := 3) M dL_law_248 (by decide) ?_
  refine j_icmp_lt (tgt := 259) M dL_law_249 (by decide) (fun z => absurd z (by decide)) (fun _ => ?_)
  refine j_iload M dL_law_252 rfl ?_
  refine j_bipush (v := 6) M dL_law_254 (by decide) ?_
  refine j_icmp_lt (tgt := 280) M dL_law_256 (by decide) (fun _ => ?_) (fun z => absurd (by decide) z)
  refine j_iconst (v := 1) M dL_law_280 (by decide) ?_
  refine j_goto (tgt := 285) M dL_law_281 (by decide) ?_
  refine j_istore (lv' := [(12, .int 1), (11, .int 4), (0, .ref b), (1, .ref (K 0)), (2, .int (nI C)), (3, .int r), (4, .ref wa), (5, .int (nI j)), (6, .int x)]) M dL_law_285 (by decide) rfl ?_
  refine j_iload M dL_law_287 rfl ?_
  refine j_if_eq (tgt := 308) M dL_law_289 (by decide) (fun z => absurd z (by decide)) (fun _ => ?_)
  refine j_pick (lv' := [(11, .int 4), (12, .int 1), (0, .ref b), (1, .ref (K 0)), (2, .int (nI C)), (3, .int r), (4, .ref wa), (5, .int (nI j)), (6, .int x)]) [1, 0, 2, 3, 4, 5, 6, 7, 8] rfl ?_
  refine law_w292 M b6 hc (by decide) (by unfold vp_in; decide) (by decide) (fun U7 b7 => ?_)
  refine j_pick (lv' := [(11, .int 4), (12, .int 1), (0, .ref b), (1, .ref (K 0)), (2, .int (nI C)), (3, .int r), (4, .ref wa), (5, .int (nI j)), (6, .int x)]) [0, 1, 2, 3, 4, 5, 6, 7, 8] rfl ?_
  refine law_w308 M b7 hc (by decide) (by unfold vp_in; decide) (by decide) (fun U8 b8 => ?_)
  refine j_iinc (v := (4 + 1)) (lv' := [(11, .int (4 + 1)), (12, .int 1), (0, .ref b), (1, .ref (K 0)), (2, .int (nI C)), (3, .int r), (4, .ref wa), (5, .int (nI j)), (6, .int x)]) M dL_law_319 rfl rfl (by decide) rfl ?_
  refine j_goto (tgt := 233) M dL_law_322 (by decide) ?_
  refine j_eq (lv2 := [(11, .int 5), (12, .int 1), (0, .ref b), (1, .ref (K 0)), (2, .int (nI C)), (3, .int r), (4, .ref wa), (5, .int (nI j)), (6, .int x)]) (by rw [show (4 + 1 : Int32) = 5 from by decide]) rfl rfl ?_
  refine j_iload M dL_law_233 rfl ?_
  refine j_bipush (v := 15) M dL_law_235 (by decide) ?_
  refine j_icmp_ge (tgt := 325) M dL_law_237 (by decide) (fun z => absurd z (by decide)) (fun _ => ?_)
  refine j_iload M dL_law_240 rfl ?_
  refine j_iconst (v := 1) M dL_law_242 (by decide) ?_
  refine j_icmp_eq (tgt := 280) M dL_law_243 (by decide) (fun z => absurd z (by decide)) (fun _ => ?_)
  refine j_iload M dL_law_246 rfl ?_
  refine j_iconst (v := 3) M dL_law_248 (by decide) ?_
  refine j_icmp_lt (tgt := 259) M dL_law_249 (by decide) (fun z => absurd z (by decide)) (fun _ => ?_)
  refine j_iload M dL_law_252 rfl ?_
  refine j_bipush (v := 6) M dL_law_254 (by decide) ?_
  refine j_icmp_lt (tgt := 280) M dL_law_256 (by decide) (fun _ => ?_) (fun z => absurd (by decide) z)
  refine j_iconst (v := 1) M dL_law_280 (by decide) ?_
  refine j_goto (tgt := 285) M dL_law_281 (by decide) ?_
  refine j_istore (lv' := [(12, .int 1), (11, .int 5), (0, .ref b), (1, .ref (K 0)), (2, .int (nI C)), (3, .int r), (4, .ref wa), (5, .int (nI j)), (6, .int x)]) M dL_law_285 (by decide) rfl ?_
  refine j_iload M dL_law_287 rfl ?_
  refine j_if_eq (tgt := 308) M dL_law_289 (by decide) (fun z => absurd z (by decide)) (fun _ => ?_)
  refine j_pick (lv' := [(11, .int 5), (12, .int 1), (0, .ref b), (1, .ref (K 0)), (2, .int (nI C)), (3, .int r), (4, .ref wa), (5, .int (nI j)), (6, .int x)]) [1, 0, 2, 3, 4, 5, 6, 7, 8] rfl ?_
  refine law_w292 M b8 hc (by decide) (by unfold vp_in; decide) (by decide) (fun U9 b9 => ?_)
  refine j_pick (lv' := [(11, .int 5), (12, .int 1), (0, .ref b), (1, .ref (K 0)), (2, .int (nI C)), (3, .int r), (4, .ref wa), (5, .int (nI j)), (6, .int x)]) [0, 1, 2, 3, 4, 5, 6, 7, 8] rfl ?_
  refine law_w308 M b9 hc (by decide) (by unfold vp_in; decide) (by decide) (fun U10 b10 => ?_)
  refine j_iinc (v := (5 + 1)) (lv' := [(11, .int (5 + 1)), (12, .int 1), (0, .ref b), (1, .ref (K 0)), (2, .int (nI C)), (3, .int r), (4, .ref wa), (5, .int (nI j)), (6, .int x)]) M dL_law_319 rfl rfl (by decide) rfl ?_
  refine j_goto (tgt := 233) M dL_law_322 (by decide) ?_
  refine j_eq (lv2 := [(11, .int 6), (12, .int 1), (0, .ref b), (1, .ref (K 0)), (2, .int (nI C)), (3, .int r), (4, .ref wa), (5, .int (nI j)), (6, .int x)]) (by rw [show (5 + 1 : Int32) = 6 from by decide]) rfl rfl ?_
  refine j_iload M dL_law_233 rfl ?_
  refine j_bipush (v := 15) M dL_law_235 (by decide) ?_
  refine j_icmp_ge (tgt := 325) M dL_law_237 (by decide) (fun z => absurd z (by decide)) (fun _ => ?_)
  refine j_iload M dL_law_240 rfl ?_
  refine j_iconst (v := 1) M dL_law_242 (by decide) ?_
  refine j_icmp_eq (tgt := 280) M dL_law_243 (by decide) (fun z => absurd z (by decide)) (fun _ => ?_)
  refine j_iload M dL_law_246 rfl ?_
  refine j_iconst (v := 3) M dL_law_248 (by decide) ?_
  refine j_icmp_lt (tgt := 259) M dL_law_249 (by decide) (fun z => absurd z (by decide)) (fun _ => ?_)
  refine j_iload M dL_law_252 rfl ?_
  refine j_bipush (v := 6) M dL_law_254 (by decide) ?_
  refine j_icmp_lt (tgt := 280) M dL_law_256 (by decide) (fun z => absurd z (by decide)) (fun _ => ?_)
  refine j_iload M dL_law_259 rfl ?_
  refine j_bipush (v := 9) M dL_law_261 (by decide) ?_
  refine j_icmp_lt (tgt := 273) M dL_law_263 (by decide) (fun _ => ?_) (fun z => absurd (by decide) z)
  refine j_iload M dL_law_273 rfl ?_
  refine j_bipush (v := 14) M dL_law_275 (by decide) ?_
  refine j_icmp_ne (tgt := 284) M dL_law_277 (by decide) (fun _ => ?_) (fun z => absurd z (by decide))
  refine j_iconst (v := 0) M dL_law_284 (by decide) ?_
  refine j_istore (lv' := [(12, .int 0), (11, .int 6), (0, .ref b), (1, .ref (K 0)), (2, .int (nI C)), (3, .int r), (4, .ref wa), (5, .int (nI j)), (6, .int x)]) M dL_law_285 (by decide) rfl ?_
  refine j_iload M dL_law_287 rfl ?_
  refine j_if_eq (tgt := 308) M dL_law_289 (by decide) (fun _ => ?_) (fun z => absurd (by decide) z)
  refine j_pick (lv' := [(11, .int 6), (12, .int 0), (0, .ref b), (1, .ref (K 0)), (2, .int (nI C)), (3, .int r), (4, .ref wa), (5, .int (nI j)), (6, .int x)]) [1, 0, 2, 3, 4, 5, 6, 7, 8] rfl ?_
  refine law_w308 M b10 hc (by decide) (by unfold vp_in; decide) (by decide) (fun U11 b11 => ?_)
  refine j_iinc (v := (6 + 1)) (lv' := [(11, .int (6 + 1)), (12, .int 0), (0, .ref b), (1, .ref (K 0)), (2, .int (nI C)), (3, .int r), (4, .ref wa), (5, .int (nI j)), (6, .int x)]) M dL_law_319 rfl rfl (by decide) rfl ?_
  refine j_goto (tgt := 233) M dL_law_322 (by decide) ?_
  refine j_eq (lv2 := [(11, .int 7), (12, .int 0), (0, .ref b), (1, .ref (K 0)), (2, .int (nI C)), (3, .int r), (4, .ref wa), (5, .int (nI j)), (6, .int x)]) (by rw [show (6 + 1 : Int32) = 7 from by decide]) rfl rfl ?_
  refine j_iload M dL_law_233 rfl ?_
  refine j_bipush (v := 15) M dL_law_235 (by decide) ?_
  refine j_icmp_ge (tgt := 325) M dL_law_237 (by decide) (fun z => absurd z (by decide)) (fun _ => ?_)
  refine j_iload M dL_law_240 rfl ?_
  refine j_iconst (v := 1) M dL_law_242 (by decide) ?_
  refine j_icmp_eq (tgt := 280) M dL_law_243 (by decide) (fun z => absurd z (by decide)) (fun _ => ?_)
  refine j_iload M dL_law_246 rfl ?_
  refine j_iconst (v := 3) M dL_law_248 (by decide) ?_
  refine j_icmp_lt (tgt := 259) M dL_law_249 (by decide) (fun z => absurd z (by decide)) (fun _ => ?_)
  refine j_iload M dL_law_252 rfl ?_
  refine j_bipush (v := 6) M dL_law_254 (by decide) ?_
  refine j_icmp_lt (tgt := 280) M dL_law_256 (by decide) (fun z => absurd z (by decide)) (fun _ => ?_)
  refine j_iload M dL_law_259 rfl ?_
  refine j_bipush (v := 9) M dL_law_261 (by decide) ?_
  refine j_icmp_lt (tgt := 273) M dL_law_263 (by decide) (fun _ => ?_) (fun z => absurd (by decide) z)
  refine j_iload M dL_law_273 rfl ?_
  refine j_bipush (v := 14) M dL_law_275 (by decide) ?_
  refine j_icmp_ne (tgt := 284) M dL_law_277 (by decide) (fun _ => ?_) (fun z => absurd z (by decide))
  refine j_iconst (v := 0) M dL_law_284 (by decide) ?_
  refine j_istore (lv' := [(12, .int 0), (11, .int 7), (0, .ref b), (1, .ref (K 0)), (2, .int (nI C)), (3, .int r), (4, .ref wa), (5, .int (nI j)), (6, .int x)]) M dL_law_285 (by decide) rfl ?_
  refine j_iload M dL_law_287 rfl ?_
  refine j_if_eq (tgt := 308) M dL_law_289 (by decide) (fun _ => ?_) (fun z => absurd (by decide) z)
  refine j_pick (lv' := [(11, .int 7), (12, .int 0), (0, .ref b), (1, .ref (K 0)), (2, .int (nI C)), (3, .int r), (4, .ref wa), (5, .int (nI j)), (6, .int x)]) [1, 0, 2, 3, 4, 5, 6, 7, 8] rfl ?_
  refine law_w308 M b11 hc (by decide) (by unfold vp_in; decide) (by decide) (fun U12 b12 => ?_)
  refine j_iinc (v := (7 + 1)) (lv' := [(11, .int (7 + 1)), (12, .int 0), (0, .ref b), (1, .ref (K 0)), (2, .int (nI C)), (3, .int r), (4, .ref wa), (5, .int (nI j)), (6, .int x)]) M dL_law_319 rfl rfl (by decide) rfl ?_
  refine j_goto (tgt := 233) M dL_law_322 (by decide) ?_
  refine j_eq (lv2 := [(11, .int 8), (12, .int 0), (0, .ref b), (1, .ref (K 0)), (2, .int (nI C)), (3, .int r), (4, .ref wa), (5, .int (nI j)), (6, .int x)]) (by rw [show (7 + 1 : Int32) = 8 from by decide]) rfl rfl ?_
  refine j_iload M dL_law_233 rfl ?_
  refine j_bipush (v := 15) M dL_law_235 (by decide) ?_
  refine j_icmp_ge (tgt := 325) M dL_law_237 (by decide) (fun z => absurd z (by decide)) (fun _ => ?_)
  refine j_iload M dL_law_240 rfl ?_
  refine j_iconst (v := 1) M dL_law_242 (by decide) ?_
  refine j_icmp_eq (tgt := 280) M dL_law_243 (by decide) (fun z => absurd z (by decide)) (fun _ => ?_)
  refine j_iload M dL_law_246 rfl ?_
  refine j_iconst (v := 3) M dL_law_248 (by decide) ?_
  refine j_icmp_lt (tgt := 259) M dL_law_249 (by decide) (fun z => absurd z (by decide)) (fun _ => ?_)
  refine j_iload M dL_law_252 rfl ?_
  refine j_bipush (v := 6) M dL_law_254 (by decide) ?_
  refine j_icmp_lt (tgt := 280) M dL_law_256 (by decide) (fun z => absurd z (by decide)) (fun _ => ?_)
  refine j_iload M dL_law_259 rfl ?_
  refine j_bipush (v := 9) M dL_law_261 (by decide) ?_
  refine j_icmp_lt (tgt := 273) M dL_law_263 (by decide) (fun _ => ?_) (fun z => absurd (by decide) z)
  refine j_iload M dL_law_273 rfl ?_
  refine j_bipush (v := 14) M dL_law_275 (by decide) ?_
  refine j_icmp_ne (tgt := 284) M dL_law_277 (by decide) (fun _ => ?_) (fun z => absurd z (by decide))
  refine j_iconst (v := 0) M dL_law_284 (by decide) ?_
  refine j_istore (lv' := [(12, .int 0), (11, .int 8), (0, .ref b), (1, .ref (K 0)), (2, .int (nI C)), (3, .int r), (4, .ref wa), (5, .int (nI j)), (6, .int x)]) M dL_law_285 (by decide) rfl ?_
  refine j_iload M dL_law_287 rfl ?_
  refine j_if_eq (tgt := 308) M dL_law_289 (by decide) (fun _ => ?_) (fun z => absurd (by decide) z)
  refine j_pick (lv' := [(11, .int 8), (12, .int 0), (0, .ref b), (1, .ref (K 0)), (2, .int (nI C)), (3, .int r), (4, .ref wa), (5, .int (nI j)), (6, .int x)]) [1, 0, 2, 3, 4, 5, 6, 7, 8] rfl ?_
  refine law_w308 M b12 hc (by decide) (by unfold vp_in; decide) (by decide) (fun U13 b13 => ?_)
  refine j_iinc (v := (8 + 1)) (lv' := [(11, .int (8 + 1)), (12, .int 0), (0, .ref b), (1, .ref (K 0)), (2, .int (nI C)), (3, .int r), (4, .ref wa), (5, .int (nI j)), (6, .int x)]) M dL_law_319 rfl rfl (by decide) rfl ?_
  refine j_goto (tgt := 233) M dL_law_322 (by decide) ?_
  refine j_eq (lv2 := [(11, .int 9), (12, .int 0), (0, .ref b), (1, .ref (K 0)), (2, .int (nI C)), (3, .int r), (4, .ref wa), (5, .int (nI j)), (6, .int x)]) (by rw [show (8 + 1 : Int32) = 9 from by decide]) rfl rfl ?_
  refine j_iload M dL_law_233 rfl ?_
  refine j_bipush (v := 15) M dL_law_235 (by decide) ?_
  refine j_icmp_ge (tgt := 325) M dL_law_237 (by decide) (fun z => absurd z (by decide)) (fun _ => ?_)
  refine j_iload M dL_law_240 rfl ?_
  refine j_iconst (v := 1) M dL_law_242 (by decide) ?_
  refine j_icmp_eq (tgt := 280) M dL_law_243 (by decide) (fun z => absurd z (by decide)) (fun _ => ?_)
  refine j_iload M dL_law_246 rfl ?_
  refine j_iconst (v := 3) M dL_law_248 (by decide) ?_
  refine j_icmp_lt (tgt := 259) M dL_law_249 (by decide) (fun z => absurd z (by decide)) (fun _ => ?_)
  refine j_iload M dL_law_252 rfl ?_
  refine j_bipush (v := 6) M dL_law_254 (by decide) ?_
  refine j_icmp_lt (tgt := 280) M dL_law_256 (by decide) (fun z => absurd z (by decide)) (fun _ => ?_)
  refine j_iload M dL_law_259 rfl ?_
  refine j_bipush (v := 9) M dL_law_261 (by decide) ?_
  refine j_icmp_lt (tgt := 273) M dL_law_263 (by decide) (fun z => absurd z (by decide)) (fun _ => ?_)
  refine j_iload M dL_law_266 rfl ?_
  refine j_bipush (v := 12) M dL_law_268 (by decide) ?_
  refine j_icmp_lt (tgt := 280) M dL_law_270 (by decide) (fun _ => ?_) (fun z => absurd (by decide) z)
  refine j_iconst (v := 1) M dL_law_280 (by decide) ?_
  refine j_goto (tgt := 285) M dL_law_281 (by decide) ?_
  refine j_istore (lv' := [(12, .int 1), (11, .int 9), (0, .ref b), (1, .ref (K 0)), (2, .int (nI C)), (3, .int r), (4, .ref wa), (5, .int (nI j)), (6, .int x)]) M dL_law_285 (by decide) rfl ?_
  refine j_iload M dL_law_287 rfl ?_
  refine j_if_eq (tgt := 308) M dL_law_289 (by decide) (fun z => absurd z (by decide)) (fun _ => ?_)
  refine j_pick (lv' := [(11, .int 9), (12, .int 1), (0, .ref b), (1, .ref (K 0)), (2, .int (nI C)), (3, .int r), (4, .ref wa), (5, .int (nI j)), (6, .int x)]) [1, 0, 2, 3, 4, 5, 6, 7, 8] rfl ?_
  refine law_w292 M b13 hc (by decide) (by unfold vp_in; decide) (by decide) (fun U14 b14 => ?_)
  refine j_pick (lv' := [(11, .int 9), (12, .int 1), (0, .ref b), (1, .ref (K 0)), (2, .int (nI C)), (3, .int r), (4, .ref wa), (5, .int (nI j)), (6, .int x)]) [0, 1, 2, 3, 4, 5, 6, 7, 8] rfl ?_
  refine law_w308 M b14 hc (by decide) (by unfold vp_in; decide) (by decide) (fun U15 b15 => ?_)
  refine j_iinc (v := (9 + 1)) (lv' := [(11, .int (9 + 1)), (12, .int 1), (0, .ref b), (1, .ref (K 0)), (2, .int (nI C)), (3, .int r), (4, .ref wa), (5, .int (nI j)), (6, .int x)]) M dL_law_319 rfl rfl (by decide) rfl ?_
  refine j_goto (tgt := 233) M dL_law_322 (by decide) ?_
  refine j_eq (lv2 := [(11, .int 10), (12, .int 1), (0, .ref b), (1, .ref (K 0)), (2, .int (nI C)), (3, .int r), (4, .ref wa), (5, .int (nI j)), (6, .int x)]) (by rw [show (9 + 1 : Int32) = 10 from by decide]) rfl rfl ?_
  refine j_iload M dL_law_233 rfl ?_
  refine j_bipush (v := 15) M dL_law_235 (by decide) ?_
  refine j_icmp_ge (tgt := 325) M dL_law_237 (by decide) (fun z => absurd z (by decide)) (fun _ => ?_)
  refine j_iload M dL_law_240 rfl ?_
  refine j_iconst (v := 1) M dL_law_242 (by decide) ?_
  refine j_icmp_eq (tgt := 280) M dL_law_243 (by decide) (fun z => absurd z (by decide)) (fun _ => ?_)
  refine j_iload M dL_law_246 rfl ?_
  refine j_iconst (v := 3) M dL_law_248 (by decide) ?_
  refine j_icmp_lt (tgt := 259) M dL_law_249 (by decide) (fun z => absurd z (by decide)) (fun _ => ?_)
  refine j_iload M dL_law_252 rfl ?_
  refine j_bipush (v := 6) M dL_law_254 (by decide) ?_
  refine j_icmp_lt (tgt := 280) M dL_law_256 (by decide) (fun z => absurd z (by decide)) (fun _ => ?_)
  refine j_iload M dL_law_259 rfl ?_
  refine j_bipush (v := 9) M dL_law_261 (by decide) ?_
  refine j_icmp_lt (tgt := 273) M dL_law_263 (by decide) (fun z => absurd z (by decide)) (fun _ => ?_)
  refine j_iload M dL_law_266 rfl ?_
  refine j_bipush (v := 12) M dL_law_268 (by decide) ?_
  refine j_icmp_lt (tgt := 280) M dL_law_270 (by decide) (fun _ => ?_) (fun z => absurd (by decide) z)
  refine j_iconst (v := 1) M dL_law_280 (by decide) ?_
  refine j_goto (tgt := 285) M dL_law_281 (by decide) ?_
  refine j_istore (lv' := [(12, .int 1), (11, .int 10), (0, .ref b), (1, .ref (K 0)), (2, .int (nI C)), (3, .int r), (4, .ref wa), (5, .int (nI j)), (6, .int x)]) M dL_law_285 (by decide) rfl ?_
  refine j_iload M dL_law_287 rfl ?_
  refine j_if_eq (tgt := 308) M dL_law_289 (by decide) (fun z => absurd z (by decide)) (fun _ => ?_)
  refine j_pick (lv' := [(11, .int 10), (12, .int 1), (0, .ref b), (1, .ref (K 0)), (2, .int (nI C)), (3, .int r), (4, .ref wa), (5, .int (nI j)), (6, .int x)]) [1, 0, 2, 3, 4, 5, 6, 7, 8] rfl ?_
  refine law_w292 M b15 hc (by decide) (by unfold vp_in; decide) (by decide) (fun U16 b16 => ?_)
  refine j_pick (lv' := [(11, .int 10), (12, .int 1), (0, .ref b), (1, .ref (K 0)), (2, .int (nI C)), (3, .int r), (4, .ref wa), (5, .int (nI j)), (6, .int x)]) [0, 1, 2, 3, 4, 5, 6, 7, 8] rfl ?_
  refine law_w308 M b16 hc (by decide) (by unfold vp_in; decide) (by decide) (fun U17 b17 => ?_)
  refine j_iinc (v := (10 + 1)) (lv' := [(11, .int (10 + 1)), (12, .int 1), (0, .ref b), (1, .ref (K 0)), (2, .int (nI C)), (3, .int r), (4, .ref wa), (5, .int (nI j)), (6, .int x)]) M dL_law_319 rfl rfl (by decide) rfl ?_
  refine j_goto (tgt := 233) M dL_law_322 (by decide) ?_
  refine j_eq (lv2 := [(11, .int 11), (12, .int 1), (0, .ref b), (1, .ref (K 0)), (2, .int (nI C)), (3, .int r), (4, .ref wa), (5, .int (nI j)), (6, .int x)]) (by rw [show (10 + 1 : Int32) = 11 from by decide]) rfl rfl ?_
  refine j_iload M dL_law_233 rfl ?_
  refine j_bipush (v := 15) M dL_law_235 (by decide) ?_
  refine j_icmp_ge (tgt := 325) M dL_law_237 (by decide) (fun z => absurd z (by decide)) (fun _ => ?_)
  refine j_iload M dL_law_240 rfl ?_
  refine j_iconst (v := 1) M dL_law_242 (by decide) ?_
  refine j_icmp_eq (tgt := 280) M dL_law_243 (by decide) (fun z => absurd z (by decide)) (fun _ => ?_)
  refine j_iload M dL_law_246 rfl ?_
  refine j_iconst (v := 3) M dL_law_248 (by decide) ?_
  refine j_icmp_lt (tgt := 259) M dL_law_249 (by decide) (fun z => absurd z (by decide)) (fun _ => ?_)
  refine j_iload M dL_law_252 rfl ?_
  refine j_bipush (v := 6) M dL_law_254 (by decide) ?_
  refine j_icmp_lt (tgt := 280) M dL_law_256 (by decide) (fun z => absurd z (by decide)) (fun _ => ?_)
  refine j_iload M dL_law_259 rfl ?_
  refine j_bipush (v := 9) M dL_law_261 (by decide) ?_
  refine j_icmp_lt (tgt := 273) M dL_law_263 (by decide) (fun z => absurd z (by decide)) (fun _ => ?_)
  refine j_iload M dL_law_266 rfl ?_
  refine j_bipush (v := 12) M dL_law_268 (by decide) ?_
  refine j_icmp_lt (tgt := 280) M dL_law_270 (by decide) (fun _ => ?_) (fun z => absurd (by decide) z)
  refine j_iconst (v := 1) M dL_law_280 (by decide) ?_
  refine j_goto (tgt := 285) M dL_law_281 (by decide) ?_
  refine j_istore (lv' := [(12, .int 1), (11, .int 11), (0, .ref b), (1, .ref (K 0)), (2, .int (nI C)), (3, .int r), (4, .ref wa), (5, .int (nI j)), (6, .int x)]) M dL_law_285 (by decide) rfl ?_
  refine j_iload M dL_law_287 rfl ?_
  refine j_if_eq (tgt := 308) M dL_law_289 (by decide) (fun z => absurd z (by decide)) (fun _ => ?_)
  refine j_pick (lv' := [(11, .int 11), (12, .int 1), (0, .ref b), (1, .ref (K 0)), (2, .int (nI C)), (3, .int r), (4, .ref wa), (5, .int (nI j)), (6, .int x)]) [1, 0, 2, 3, 4, 5, 6, 7, 8] rfl ?_
  refine law_w292 M b17 hc (by decide) (by unfold vp_in; decide) (by decide) (fun U18 b18 => ?_)
  refine j_pick (lv' := [(11, .int 11), (12, .int 1), (0, .ref b), (1, .ref (K 0)), (2, .int (nI C)), (3, .int r), (4, .ref wa), (5, .int (nI j)), (6, .int x)]) [0, 1, 2, 3, 4, 5, 6, 7, 8] rfl ?_
  refine law_w308 M b18 hc (by decide) (by unfold vp_in; decide) (by decide) (fun U19 b19 => ?_)
  refine j_iinc (v := (11 + 1)) (lv' := [(11, .int (11 + 1)), (12, .int 1), (0, .ref b), (1, .ref (K 0)), (2, .int (nI C)), (3, .int r), (4, .ref wa), (5, .int (nI j)), (6, .int x)]) M dL_law_319 rfl rfl (by decide) rfl ?_
  refine j_goto (tgt := 233) M dL_law_322 (by decide) ?_
  refine j_eq (lv2 := [(11, .int 12), (12, .int 1), (0, .ref b), (1, .ref (K 0)), (2, .int (nI C)), (3, .int r), (4, .ref wa), (5, .int (nI j)), (6, .int x)]) (by rw [show (11 + 1 : Int32) = 12 from by decide]) rfl rfl ?_
  refine j_iload M dL_law_233 rfl ?_
  refine j_bipush (v := 15) M dL_law_235 (by decide) ?_
  refine j_icmp_ge (tgt := 325) M dL_law_237 (by decide) (fun z => absurd z (by decide)) (fun _ => ?_)
  refine j_iload M dL_law_240 rfl ?_
  refine j_iconst (v := 1) M dL_law_242 (by decide) ?_
  refine j_icmp_eq (tgt := 280) M dL_law_243 (by decide) (fun z => absurd z (by decide)) (fun _ => ?_)
  refine j_iload M dL_law_246 rfl ?_
  refine j_iconst (v := 3) M dL_law_248 (by decide) ?_
  refine j_icmp_lt (tgt := 259) M dL_law_249 (by decide) (fun z => absurd z (by decide)) (fun _ => ?_)
  refine j_iload M dL_law_252 rfl ?_
  refine j_bipush (v := 6) M dL_law_254 (by decide) ?_
  refine j_icmp_lt (tgt := 280) M dL_law_256 (by decide) (fun z => absurd z (by decide)) (fun _ => ?_)
  refine j_iload M dL_law_259 rfl ?_
  refine j_bipush (v := 9) M dL_law_261 (by decide) ?_
  refine j_icmp_lt (tgt := 273) M dL_law_263 (by decide) (fun z => absurd z (by decide)) (fun _ => ?_)
  refine j_iload M dL_law_266 rfl ?_
  refine j_bipush (v := 12) M dL_law_268 (by decide) ?_
  refine j_icmp_lt (tgt := 280) M dL_law_270 (by decide) (fun z => absurd z (by decide)) (fun _ => ?_)
  refine j_iload M dL_law_273 rfl ?_
  refine j_bipush (v := 14) M dL_law_275 (by decide) ?_
  refine j_icmp_ne (tgt := 284) M dL_law_277 (by decide) (fun _ => ?_) (fun z => absurd z (by decide))
  refine j_iconst (v := 0) M dL_law_284 (by decide) ?_
  refine j_istore (lv' := [(12, .int 0), (11, .int 12), (0, .ref b), (1, .ref (K 0)), (2, .int (nI C)), (3, .int r), (4, .ref wa), (5, .int (nI j)), (6, .int x)]) M dL_law_285 (by decide) rfl ?_
  refine j_iload M dL_law_287 rfl ?_
  refine j_if_eq (tgt := 308) M dL_law_289 (by decide) (fun _ => ?_) (fun z => absurd (by decide) z)
  refine j_pick (lv' := [(11, .int 12), (12, .int 0), (0, .ref b), (1, .ref (K 0)), (2, .int (nI C)), (3, .int r), (4, .ref wa), (5, .int (nI j)), (6, .int x)]) [1, 0, 2, 3, 4, 5, 6, 7, 8] rfl ?_
  refine law_w308 M b19 hc (by decide) (by unfold vp_in; decide) (by decide) (fun U20 b20 => ?_)
  refine j_iinc (v := (12 + 1)) (lv' := [(11, .int (12 + 1)), (12, .int 0), (0, .ref b), (1, .ref (K 0)), (2, .int (nI C)), (3, .int r), (4, .ref wa), (5, .int (nI j)), (6, .int x)]) M dL_law_319 rfl rfl (by decide) rfl ?_
  refine j_goto (tgt := 233) M dL_law_322 (by decide) ?_
  refine j_eq (lv2 := [(11, .int 13), (12, .int 0), (0, .ref b), (1, .ref (K 0)), (2, .int (nI C)), (3, .int r), (4, .ref wa), (5, .int (nI j)), (6, .int x)]) (by rw [show (12 + 1 : Int32) = 13 from by decide]) rfl rfl ?_
  refine j_iload M dL_law_233 rfl ?_
  refine j_bipush (v := 15) M dL_law_235 (by decide) ?_
  refine j_icmp_ge (tgt := 325) M dL_law_237 (by decide) (fun z => absurd z (by decide)) (fun _ => ?_)
  refine j_iload M dL_law_240 rfl ?_
  refine j_iconst (v := 1) M dL_law_242 (by decide) ?_
  refine j_icmp_eq (tgt := 280) M dL_law_243 (by decide) (fun z => absurd z (by decide)) (fun _ => ?_)
  refine j_iload M dL_law_246 rfl ?_
  refine j_iconst (v := 3) M dL_law_248 (by decide) ?_
  refine j_icmp_lt (tgt := 259) M dL_law_249 (by decide) (fun z => absurd z (by decide)) (fun _ => ?_)
  refine j_iload M dL_law_252 rfl ?_
  refine j_bipush (v := 6) M dL_law_254 (by decide) ?_
  refine j_icmp_lt (tgt := 280) M dL_law_256 (by decide) (fun z => absurd z (by decide)) (fun _ => ?_)
  refine j_iload M dL_law_259 rfl ?_
  refine j_bipush (v := 9) M dL_law_261 (by decide) ?_
  refine j_icmp_lt (tgt := 273) M dL_law_263 (by decide) (fun z => absurd z (by decide)) (fun _ => ?_)
  refine j_iload M dL_law_266 rfl ?_
  refine j_bipush (v := 12) M dL_law_268 (by decide) ?_
  refine j_icmp_lt (tgt := 280) M dL_law_270 (by decide) (fun z => absurd z (by decide)) (fun _ => ?_)
  refine j_iload M dL_law_273 rfl ?_
  refine j_bipush (v := 14) M dL_law_275 (by decide) ?_
  refine j_icmp_ne (tgt := 284) M dL_law_277 (by decide) (fun _ => ?_) (fun z => absurd z (by decide))
  refine j_iconst (v := 0) M dL_law_284 (by decide) ?_
  refine j_istore (lv' := [(12, .int 0), (11, .int 13), (0, .ref b), (1, .ref (K 0)), (2, .int (nI C)), (3, .int r), (4, .ref wa), (5, .int (nI j)), (6, .int x)]) M dL_law_285 (by decide) rfl ?_
  refine j_iload M dL_law_287 rfl ?_
  refine j_if_eq (tgt := 308) M dL_law_289 (by decide) (fun _ => ?_) (fun z => absurd (by decide) z)
  refine j_pick (lv' := [(11, .int 13), (12, .int 0), (0, .ref b), (1, .ref (K 0)), (2, .int (nI C)), (3, .int r), (4, .ref wa), (5, .int (nI j)), (6, .int x)]) [1, 0, 2, 3, 4, 5, 6, 7, 8] rfl ?_
  refine law_w308 M b20 hc (by decide) (by unfold vp_in; decide) (by decide) (fun U21 b21 => ?_)
  refine j_iinc (v := (13 + 1)) (lv' := [(11, .int (13 + 1)), (12, .int 0), (0, .ref b), (1, .ref (K 0)), (2, .int (nI C)), (3, .int r), (4, .ref wa), (5, .int (nI j)), (6, .int x)]) M dL_law_319 rfl rfl (by decide) rfl ?_
  refine j_goto (tgt := 233) M dL_law_322 (by decide) ?_
  refine j_eq (lv2 := [(11, .int 14), (12, .int 0), (0, .ref b), (1, .ref (K 0)), (2, .int (nI C)), (3, .int r), (4, .ref wa), (5, .int (nI j)), (6, .int x)]) (by rw [show (13 + 1 : Int32) = 14 from by decide]) rfl rfl ?_
  refine j_iload M dL_law_233 rfl ?_
  refine j_bipush (v := 15) M dL_law_235 (by decide) ?_
  refine j_icmp_ge (tgt := 325) M dL_law_237 (by decide) (fun z => absurd z (by decide)) (fun _ => ?_)
  refine j_iload M dL_law_240 rfl ?_
  refine j_iconst (v := 1) M dL_law_242 (by decide) ?_
  refine j_icmp_eq (tgt := 280) M dL_law_243 (by decide) (fun z => absurd z (by decide)) (fun _ => ?_)
  refine j_iload M dL_law_246 rfl ?_
  refine j_iconst (v := 3) M dL_law_248 (by decide) ?_
  refine j_icmp_lt (tgt := 259) M dL_law_249 (by decide) (fun z => absurd z (by decide)) (fun _ => ?_)
  refine j_iload M dL_law_252 rfl ?_
  refine j_bipush (v := 6) M dL_law_254 (by decide) ?_
  refine j_icmp_lt (tgt := 280) M dL_law_256 (by decide) (fun z => absurd z (by decide)) (fun _ => ?_)
  refine j_iload M dL_law_259 rfl ?_
  refine j_bipush (v := 9) M dL_law_261 (by decide) ?_
  refine j_icmp_lt (tgt := 273) M dL_law_263 (by decide) (fun z => absurd z (by decide)) (fun _ => ?_)
  refine j_iload M dL_law_266 rfl ?_
  refine j_bipush (v := 12) M dL_law_268 (by decide) ?_
  refine j_icmp_lt (tgt := 280) M dL_law_270 (by decide) (fun z => absurd z (by decide)) (fun _ => ?_)
  refine j_iload M dL_law_273 rfl ?_
  refine j_bipush (v := 14) M dL_law_275 (by decide) ?_
  refine j_icmp_ne (tgt := 284) M dL_law_277 (by decide) (fun z => absurd (by decide) z) (fun _ => ?_)
  refine j_iconst (v := 1) M dL_law_280 (by decide) ?_
  refine j_goto (tgt := 285) M dL_law_281 (by decide) ?_
  refine j_istore (lv' := [(12, .int 1), (11, .int 14), (0, .ref b), (1, .ref (K 0)), (2, .int (nI C)), (3, .int r), (4, .ref wa), (5, .int (nI j)), (6, .int x)]) M dL_law_285 (by decide) rfl ?_
  refine j_iload M dL_law_287 rfl ?_
  refine j_if_eq (tgt := 308) M dL_law_289 (by decide) (fun z => absurd z (by decide)) (fun _ => ?_)
  refine j_pick (lv' := [(11, .int 14), (12, .int 1), (0, .ref b), (1, .ref (K 0)), (2, .int (nI C)), (3, .int r), (4, .ref wa), (5, .int (nI j)), (6, .int x)]) [1, 0, 2, 3, 4, 5, 6, 7, 8] rfl ?_
  refine law_w292 M b21 hc (by decide) (by unfold vp_in; decide) (by decide) (fun U22 b22 => ?_)
  refine j_pick (lv' := [(11, .int 14), (12, .int 1), (0, .ref b), (1, .ref (K 0)), (2, .int (nI C)), (3, .int r), (4, .ref wa), (5, .int (nI j)), (6, .int x)]) [0, 1, 2, 3, 4, 5, 6, 7, 8] rfl ?_
  refine law_w308 M b22 hc (by decide) (by unfold vp_in; decide) (by decide) (fun U23 b23 => ?_)
  refine j_iinc (v := (14 + 1)) (lv' := [(11, .int (14 + 1)), (12, .int 1), (0, .ref b), (1, .ref (K 0)), (2, .int (nI C)), (3, .int r), (4, .ref wa), (5, .int (nI j)), (6, .int x)]) M dL_law_319 rfl rfl (by decide) rfl ?_
  refine j_goto (tgt := 233) M dL_law_322 (by decide) ?_
  refine j_eq (lv2 := [(11, .int 15), (12, .int 1), (0, .ref b), (1, .ref (K 0)), (2, .int (nI C)), (3, .int r), (4, .ref wa), (5, .int (nI j)), (6, .int x)]) (by rw [show (14 + 1 : Int32) = 15 from by decide]) rfl rfl ?_
  refine j_iload M dL_law_233 rfl ?_
  refine j_bipush (v := 15) M dL_law_235 (by decide) ?_
  refine j_icmp_ge (tgt := 325) M dL_law_237 (by decide) (fun _ => ?_) (fun z => absurd (by decide) z)
  refine j_pick (lv' := [(0, .ref b), (1, .ref (K 0)), (2, .int (nI C)), (3, .int r), (4, .ref wa), (5, .int (nI j)), (6, .int x)]) [2, 3, 4, 5, 6, 7, 8] rfl ?_
  exact KX _ b23
