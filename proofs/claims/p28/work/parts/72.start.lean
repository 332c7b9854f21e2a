/-! the law: from its first instruction -/
section LST
variable {p : Program} {l : Launch} {e : Env} {s : State} {m : MethodId} {args : Array Value} {below : List Frame} {meth : Method} {c : Code} {Q : State → Prop} {E : EV} {T : PS} {a q1 q2 q3 q4 q5 q6 q7 q8 q9 q10 q11 q12 q13 q14 : Nat}
theorem NS.gw {d : Nat} (N : NS T d a q1 q2 q3 q4 q5 q6 q7 q8 q9 q10 q11 q12 q13 q14) : GW (KK a q1 q2 q3 q4 q5 q6 q7 q8 q9 q10 q11 q12 q13 q14) T := by
  have hL := N.L
  refine ⟨N.ws, ?_, ?_, ?_⟩
  · rintro b ⟨hb, hk⟩
    rw [hL] at hb
    simp only [List.mem_cons, List.not_mem_nil, or_false] at hb
    rcases hb with rfl | rfl | rfl | rfl | rfl | rfl | rfl | rfl | rfl | rfl | rfl | rfl | rfl | rfl | rfl
    · exact absurd (N.k_a.symm.trans hk) (by decide)
    · exact absurd (N.k_q1.symm.trans hk) (by decide)
    · exact absurd (N.k_q2.symm.trans hk) (by decide)
    · exact absurd (N.k_q3.symm.trans hk) (by decide)
    · exact absurd (N.k_q4.symm.trans hk) (by decide)
    · exact absurd (N.k_q5.symm.trans hk) (by decide)
    · exact absurd (N.k_q6.symm.trans hk) (by decide)
    · exact absurd (N.k_q7.symm.trans hk) (by decide)
    · exact absurd (N.k_q8.symm.trans hk) (by decide)
    · rw [N.i9, N.i6]; decide
    · exact absurd (N.k_q10.symm.trans hk) (by decide)
    · exact absurd (N.k_q11.symm.trans hk) (by decide)
    · exact absurd (N.k_q12.symm.trans hk) (by decide)
    · exact absurd (N.k_q13.symm.trans hk) (by decide)
    · exact absurd (N.k_q14.symm.trans hk) (by decide)
  · rintro b ⟨hb, hk⟩ x hx
    rw [hL] at hb
    simp only [List.mem_cons, List.not_mem_nil, or_false] at hb
    rcases hb with rfl | rfl | rfl | rfl | rfl | rfl | rfl | rfl | rfl | rfl | rfl | rfl | rfl | rfl | rfl
    · exact absurd (N.k_a.symm.trans hk) (by decide)
    · exact absurd (N.k_q1.symm.trans hk) (by decide)
    · exact absurd (N.k_q2.symm.trans hk) (by decide)
    · exact absurd (N.k_q3.symm.trans hk) (by decide)
    · exact absurd (N.k_q4.symm.trans hk) (by decide)
    · exact absurd (N.k_q5.symm.trans hk) (by decide)
    · exact absurd (N.k_q6.symm.trans hk) (by decide)
    · exact absurd (N.k_q7.symm.trans hk) (by decide)
    · exact absurd (N.k_q8.symm.trans hk) (by decide)
    · rw [N.m14] at hx; cases hx
    · exact absurd (N.k_q10.symm.trans hk) (by decide)
    · exact absurd (N.k_q11.symm.trans hk) (by decide)
    · exact absurd (N.k_q12.symm.trans hk) (by decide)
    · exact absurd (N.k_q13.symm.trans hk) (by decide)
    · exact absurd (N.k_q14.symm.trans hk) (by decide)
  · rintro b ⟨hb, hk⟩
    rw [hL] at hb
    simp only [List.mem_cons, List.not_mem_nil, or_false] at hb
    rcases hb with rfl | rfl | rfl | rfl | rfl | rfl | rfl | rfl | rfl | rfl | rfl | rfl | rfl | rfl | rfl
    · exact absurd (N.k_a.symm.trans hk) (by decide)
    · exact absurd (N.k_q1.symm.trans hk) (by decide)
    · exact absurd (N.k_q2.symm.trans hk) (by decide)
    · exact absurd (N.k_q3.symm.trans hk) (by decide)
    · exact absurd (N.k_q4.symm.trans hk) (by decide)
    · exact absurd (N.k_q5.symm.trans hk) (by decide)
    · exact absurd (N.k_q6.symm.trans hk) (by decide)
    · exact absurd (N.k_q7.symm.trans hk) (by decide)
    · exact absurd (N.k_q8.symm.trans hk) (by decide)
    · exact absurd (N.k_q9.symm.trans hk) (by decide)
    · exact absurd (N.k_q10.symm.trans hk) (by decide)
    · exact absurd (N.k_q11.symm.trans hk) (by decide)
    · exact absurd (N.k_q12.symm.trans hk) (by decide)
    · exact absurd (N.k_q13.symm.trans hk) (by decide)
    · exact absurd (N.k_q14.symm.trans hk) (by decide)
theorem first_j {K : Nat → Nat} {S : PS} {w1 w2 : Int32} {C wa : Nat} (hT : IV E K S 0) (hf : FR K S wa 15) (hc : m_cells K S = nI C) (h39 : sI S 39 (K 1) = 0) (h40 : sI S 40 (K 1) = 0) (hw : sA S wa = fun _ => 0) : TL E K wa C 0 0 S := by
  refine ⟨hT, hf, ?_, hc, by rw [h39, h40]; decide⟩
  have z0 : ∀ n, n ≤ 14 → (0 : Int32) ≤ nI n := fun n hn => (nI_leI (a := 0) (by decide) (by omega)).mpr (Nat.zero_le _)
  have n12 := hT.g.1.l12.2.1
  unfold WR
  rw [hw, h39, h40, hT.ti.2.2.2]
  have n4 := hT.n4
  have n8 := hT.n8
  refine ⟨⟨Int32.le_refl _, z0 _ (by omega), z0 _ (by omega), z0 _ (by omega)⟩, ?_, Int32.le_refl _, ?_, Int32.le_refl _⟩
  · show (0 : Int32) ≤ m_nearMisses K S
    rw [w_near, Int32.le_iff_toInt_le]
    exact (nS_at hT _ (Nat.le_refl _)).1
  · show (0 : Int32) ≤ sI S 41 (K 1)
    rw [Int32.le_iff_toInt_le]
    exact hT.ti.2.2.1.1
set_option maxHeartbeats 1000000 in
set_option maxRecDepth 100000 in
theorem law_start (M : MC E p s m args meth c cL_law RL 13 (some .boolean)) (hlt : l.stackTraces = false) (hn : NC3 s) {b L : Nat} {xs : Nat → Int32} (hX : XS E b L xs s) (hL : L ≤ 260) {A B : Nat} (hA : A ≤ room_1.cells) (hB : B ≤ room_1.slots) (hA2 : 8000 ≤ A) (hB2 : 60000 ≤ B)
    (KX : ∀ U : PS, J p l e room_1 s m args below meth c Q E 13 363 [] [] U A B) {S0 : PS} (hS0 : sL S0 = []) : J p l e room_1 s m args below meth c Q E 13 0 [(0, .ref b)] [] S0 0 0 := by
  refine j_new (k := 7) M rfl inU_X7 tyX7 tyX7_ok wL_L_9 wX_X7 wN_X7 (fun j hj => match j, hj with | 0, _ => rfl | 1, _ => rfl | 2, _ => rfl | _ + 3, h => absurd h (by omega)) (fun q b => pNw_7 E _ q b) ⟨Nat.le_of_ble_eq_true rfl, Nat.le_of_ble_eq_true rfl⟩ dL_law_0 (fun a ha => ?_)
  refine j_gen (fun S1 e1 => ?_)
  have hS1 : sL S1 = [a] := by rw [e1]; show sL S0 ++ [a] = [a]; rw [hS0]; rfl
  have fa : InK S1 a 7 := by rw [e1]; exact ink_n
  clear e1
  refine j_dup M dL_law_3 rfl ?_
  refine j_callI (As := []) M cf_X7_init wM_L_11 (ci_Slewyard (S := S1) fa) rfl ⟨Nat.le_of_ble_eq_true rfl, Nat.le_of_ble_eq_true rfl⟩ (Nat.le_of_ble_eq_true rfl) ⟨Nat.le_of_ble_eq_true rfl, Nat.le_of_ble_eq_true rfl⟩ dL_law_4 rfl (fun v u hu => ?_)
  obtain ⟨rfl, q1, hq1, q2, hq2, q3, hq3, q4, hq4, q5, hq5, q6, hq6, q7, hq7, q8, hq8, q9, hq9, q10, hq10, q11, hq11, q12, hq12, q13, hq13, q14, hq14, hu⟩ := hu
  refine j_df M (fun hd hnd => ?_)
  have N := ns_of (d := eDF E) hS1 fa hq1 hq2 hq3 hq4 hq5 hq6 hq7 hq8 hq9 hq10 hq11 hq12 hq13 hq14
  rw [← hu] at N
  have g := N.gw
  have lw := N.lw hnd hd
  obtain ⟨kd, d1, d2, d3, d4, d5, d6⟩ := kd_of N hnd
  have i50 : sI u 50 (KK a q1 q2 q3 q4 q5 q6 q7 q8 q9 q10 q11 q12 q13 q14 0) = 0 := N.i50
  have i31 : sI u 31 (KK a q1 q2 q3 q4 q5 q6 q7 q8 q9 q10 q11 q12 q13 q14 5) = 0 := N.i31
  have h196 : sN u (KK a q1 q2 q3 q4 q5 q6 q7 q8 q9 q10 q11 q12 q13 q14 6) = 196 := N.n_q3
  have D1 : KK a q1 q2 q3 q4 q5 q6 q7 q8 q9 q10 q11 q12 q13 q14 11 ≠ KK a q1 q2 q3 q4 q5 q6 q7 q8 q9 q10 q11 q12 q13 q14 12 := d1
  have D2 : KK a q1 q2 q3 q4 q5 q6 q7 q8 q9 q10 q11 q12 q13 q14 11 ≠ KK a q1 q2 q3 q4 q5 q6 q7 q8 q9 q10 q11 q12 q13 q14 13 := d2
  have D3 : KK a q1 q2 q3 q4 q5 q6 q7 q8 q9 q10 q11 q12 q13 q14 11 ≠ KK a q1 q2 q3 q4 q5 q6 q7 q8 q9 q10 q11 q12 q13 q14 14 := d3
  have D4 : KK a q1 q2 q3 q4 q5 q6 q7 q8 q9 q10 q11 q12 q13 q14 12 ≠ KK a q1 q2 q3 q4 q5 q6 q7 q8 q9 q10 q11 q12 q13 q14 13 := d4
  have D5 : KK a q1 q2 q3 q4 q5 q6 q7 q8 q9 q10 q11 q12 q13 q14 12 ≠ KK a q1 q2 q3 q4 q5 q6 q7 q8 q9 q10 q11 q12 q13 q14 14 := d5
  have D6 : KK a q1 q2 q3 q4 q5 q6 q7 q8 q9 q10 q11 q12 q13 q14 13 ≠ KK a q1 q2 q3 q4 q5 q6 q7 q8 q9 q10 q11 q12 q13 q14 14 := d6
  clear d1 d2 d3 d4 d5 d6
  refine j_astore_n (lv' := [(1, .ref (KK a q1 q2 q3 q4 q5 q6 q7 q8 q9 q10 q11 q12 q13 q14 0)), (0, .ref b)]) M dL_law_7 rfl (by decide) rfl ?_
  clear hu N hnd hd
  generalize KK a q1 q2 q3 q4 q5 q6 q7 q8 q9 q10 q11 q12 q13 q14 = K at g lw kd D1 D2 D3 D4 D5 D6 i50 i31 h196 ⊢
  refine j_widen (k := 20) (n := 600) (by omega) (by omega) ?_
  refine j_aload_n M dL_law_8 rfl ?_
  refine j_bipush (v := 7) M dL_law_9 (by decide) ?_
  refine j_aload_n M dL_law_11 rfl ?_
  refine j_iconst (v := 1) M dL_law_12 (by decide) ?_
  refine j_callSC (n := 2) (As := [.ref b, .int (nI 1)]) M cf_L_cell wM_L_12 (c_cell hL (by decide)) hX.ok rfl ⟨Nat.le_of_ble_eq_true rfl, Nat.le_of_ble_eq_true rfl⟩ (Nat.le_of_ble_eq_true rfl) ⟨Nat.le_of_ble_eq_true rfl, Nat.le_of_ble_eq_true rfl⟩ dL_law_13 rfl (fun v u1 hv => ?_)
  obtain ⟨⟨x1, rfl⟩, hu1⟩ := hv
  rw [hu1]
  clear hu1
  refine j_bipush (v := 8) M dL_law_16 (by decide) ?_
  refine j_callS1 (As := [.int x1, .int 8]) (x := .int (m_below K u x1 8)) M cf_L_below wM_L_18 (c_below g.1 x1 8 (by decide)) rfl ⟨Nat.le_of_ble_eq_true rfl, Nat.le_of_ble_eq_true rfl⟩ (Nat.le_of_ble_eq_true rfl) ⟨Nat.le_of_ble_eq_true rfl, Nat.le_of_ble_eq_true rfl⟩ dL_law_18 rfl ?_
  refine j_iadd M dL_law_21 ?_
  refine j_bipush (v := 7) M dL_law_22 (by decide) ?_
  refine j_aload_n M dL_law_24 rfl ?_
  refine j_iconst (v := 2) M dL_law_25 (by decide) ?_
  refine j_callSC (n := 2) (As := [.ref b, .int (nI 2)]) M cf_L_cell wM_L_12 (c_cell hL (by decide)) hX.ok rfl ⟨Nat.le_of_ble_eq_true rfl, Nat.le_of_ble_eq_true rfl⟩ (Nat.le_of_ble_eq_true rfl) ⟨Nat.le_of_ble_eq_true rfl, Nat.le_of_ble_eq_true rfl⟩ dL_law_26 rfl (fun v u1 hv => ?_)
  obtain ⟨⟨x2, rfl⟩, hu1⟩ := hv
  rw [hu1]
  clear hu1
  refine j_bipush (v := 8) M dL_law_29 (by decide) ?_
  refine j_callS1 (As := [.int x2, .int 8]) (x := .int (m_below K u x2 8)) M cf_L_below wM_L_18 (c_below g.1 x2 8 (by decide)) rfl ⟨Nat.le_of_ble_eq_true rfl, Nat.le_of_ble_eq_true rfl⟩ (Nat.le_of_ble_eq_true rfl) ⟨Nat.le_of_ble_eq_true rfl, Nat.le_of_ble_eq_true rfl⟩ dL_law_31 rfl ?_
  refine j_iadd M dL_law_34 ?_
  obtain ⟨r1, hr1, er1⟩ := below_in (K := K) (S := u) (v := x1) (n := 8) (by decide) (by decide)
  obtain ⟨r2, hr2, er2⟩ := below_in (K := K) (S := u) (v := x2) (n := 8) (by decide) (by decide)
  refine j_eq (st2 := [.int (nI (7 + r2)), .int (nI (7 + r1)), .ref (K 0)]) rfl (by rw [show (8 : Int32) = nI 8 from rfl, er1, er2, show (7 : Int32) = nI 7 from rfl, nI_add, nI_add]) rfl ?_
  obtain ⟨ec, t1, t2⟩ := cells77 hr1 hr2
  refine j_callV (As := [.int (nI (7 + r1)), .int (nI (7 + r2))]) M cf_X7_yard wM_L_22 (c_yard g.1 g.2.1 g.2.2 (nI (7 + r1)) (nI (7 + r2)) lw (okw_nI (a := 6) (b := 14) (by omega) (by omega) (by decide)) (okw_nI (a := 6) (b := 14) (by omega) (by omega) (by decide))) g.1.k0.1 (pAt_7 E _ g.1.k0.2) rfl rfl ⟨Nat.le_of_ble_eq_true rfl, Nat.le_of_ble_eq_true rfl⟩ (Nat.le_of_ble_eq_true rfl) ⟨Nat.le_of_ble_eq_true rfl, Nat.le_of_ble_eq_true rfl⟩ dL_law_35 rfl (fun v U hv => ?_)
  obtain ⟨rfl, hl, gU, lU⟩ := hv
  obtain ⟨hI, hC, h39, h40⟩ := iv_first0 kd D1 D2 D3 D5 D4 D6 h196 i50 i31 (by rw [t1]; omega) (by rw [t2]; omega) hl gU lU
  rw [ec] at hC
  have b1 : 0 < (7 + r1) * (7 + r2) := Nat.mul_pos (by omega) (by omega)
  have b2 : (7 + r1) * (7 + r2) ≤ 14 * 14 := Nat.mul_le_mul (by omega) (by omega)
  generalize (7 + r1) * (7 + r2) = C at hC b1 b2
  refine j_pop M dL_law_38 rfl ?_
  refine j_aload_n M dL_law_39 rfl ?_
  refine j_iconst (v := 0) M dL_law_40 (by decide) ?_
  refine j_callV1 (As := [.int 0]) (x := .int (m_cells K U)) M cf_X7_many wM_L_25 (cm_0 (S := U) gU.1 gU.2.1 gU.2.2) gU.1.k0.1 (pAt_7 E _ gU.1.k0.2) rfl rfl ⟨Nat.le_of_ble_eq_true rfl, Nat.le_of_ble_eq_true rfl⟩ (Nat.le_of_ble_eq_true rfl) ⟨Nat.le_of_ble_eq_true rfl, Nat.le_of_ble_eq_true rfl⟩ dL_law_41 rfl ?_
  refine j_eq (st2 := [.int (nI C)]) rfl (by rw [hC]; rfl) rfl ?_
  refine j_istore_n (lv' := [(2, .int (nI C)), (1, .ref (K 0)), (0, .ref b)]) M dL_law_44 rfl (by decide) rfl ?_
  refine j_iconst (v := 0) M dL_law_45 (by decide) ?_
  refine j_istore_n (lv' := [(3, .int 0), (2, .int (nI C)), (1, .ref (K 0)), (0, .ref b)]) M dL_law_46 rfl (by decide) rfl ?_
  refine j_bipush (v := 15) M dL_law_47 (by decide) ?_
  refine j_newi M (n := 15) (by decide) (by decide) ⟨by omega, by rw [show (15 : Int32).toNatClampNeg = 15 from by decide]; omega⟩ dL_law_49 (fun wa hwa => ?_)
  rw [show (15 : Int32).toNatClampNeg = 15 from by decide]
  refine j_widen (k := 21) (n := 615) (by omega) (by omega) ?_
  refine j_df M (fun hd _ => ?_)
  have k1 := iv_nwA (r := fun _ => 0) hI hwa hd
  have iw := ink_new (T := U) (q := wa) (n := 15) (v := fun _ => 0)
  have hne : ∀ {x}, InK U x 9 → wa ≠ x := fun hx => Ne.symm (nel hx.1 hwa)
  have fw : FR K (nwA U wa 15 (fun _ => 0)) wa 15 := ⟨iw.1, iw.2, hne gU.1.k6, hne gU.1.k7, hne gU.1.k8, hne gU.1.k9, hne gU.1.k10⟩
  have tl := first_j (w1 := 0) (w2 := 0) k1.1 fw (k1.2.1.2.2.2.trans hC) h39 h40 (va_up_self _ _ _)
  refine j_astore (lv' := [(4, .ref wa), (3, .int 0), (2, .int (nI C)), (1, .ref (K 0)), (0, .ref b)]) M dL_law_51 (by decide) rfl ?_
  refine j_iconst (v := 0) M dL_law_53 (by decide) ?_
  refine j_istore (lv' := [(5, .int 0), (4, .ref wa), (3, .int 0), (2, .int (nI C)), (1, .ref (K 0)), (0, .ref b)]) M dL_law_54 (by decide) rfl ?_
  refine j_pick (lv' := [(0, .ref b), (1, .ref (K 0)), (2, .int (nI C)), (3, .int 0), (4, .ref wa), (5, .int (nI 0))]) [5, 4, 3, 2, 1, 0] rfl ?_
  exact law_loop M hlt hn hX hL b1 b2 hA hB KX 70 0 0 _ 21 615 rfl tl (by omega) (by omega)
end LST
