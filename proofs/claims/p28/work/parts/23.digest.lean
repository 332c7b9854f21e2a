theorem gq_reasonAgainst {K : Nat → Nat} {S : PS} (hW : WS K S) (hA : AW S) (hM : WM S) {a : Nat} (haL : a ∈ sL S) (haK : sK S a = 0) (x : Int32) : GW K (m_reasonAgainst K S a x).2 ∧ QS K S (m_reasonAgainst K S a x).2 := ⟨(g_reasonAgainst hW hA hM haL haK x).1, q_reasonAgainst a x⟩
theorem gq_would {K : Nat → Nat} {S : PS} (hW : WS K S) (hA : AW S) (hM : WM S) {k : Nat} (hk : k < sZ S (K 13)) (x : Int32) : GW K (m_would K S k x).2 ∧ QS K S (m_would K S k x).2 := by
  have he := LSt.el hW.l13 hk
  unfold m_would
  split
  · exact gq_reasonAgainst hW hA hM he.1 he.2 x
  · exact ⟨⟨hW, hA, hM⟩, QS.rf⟩
theorem gq_field {K : Nat → Nat} {S : PS} (hW : WS K S) (hA : AW S) (hM : WM S) {k : Nat} (hk : k < sZ S (K 13)) : GW K (m_field K S k).2 ∧ QS K S (m_field K S k).2 := by
  have he := LSt.el hW.l13 hk
  simp only [m_field]
  exact gq_explore hW hA hM he.1 he.2
theorem gq_way {K : Nat → Nat} {S : PS} (hW : WS K S) (hA : AW S) (hM : WM S) {k : Nat} (hk : k < sZ S (K 13)) (w : Int32) : GW K (m_way K S k w).2 ∧ QS K S (m_way K S k w).2 := by
  have he := LSt.el hW.l13 hk
  simp only [m_way]
  exact gq_explore hW hA hM he.1 he.2
theorem gq_swing {K : Nat → Nat} {S : PS} (hW : WS K S) (hA : AW S) (hM : WM S) {k : Nat} (hk : k < sZ S (K 13)) (b : Int32) : GW K (m_swing K S k b).2 ∧ QS K S (m_swing K S k b).2 := by
  have he := LSt.el hW.l13 hk
  unfold m_swing
  split
  · exact gq_swings hW hA hM he.1 he.2 _
  · exact gq_swings hW hA hM he.1 he.2 _
theorem gq_order {K : Nat → Nat} {S : PS} (hW : WS K S) (hA : AW S) (hM : WM S) (x : Int32) : GW K (m_order K S x).2 ∧ QS K S (m_order K S x).2 := by
  unfold m_order
  repeat' split
  all_goals exact gq_takeDown hW hA hM
theorem gq_many {K : Nat → Nat} {S : PS} (hW : WS K S) (hA : AW S) (hM : WM S) (x : Int32) : GW K (m_many K S x).2 ∧ QS K S (m_many K S x).2 := by
  have h0 : GW K S ∧ QS K S S := ⟨⟨hW, hA, hM⟩, QS.rf⟩
  have h1 := gq_takeDown hW hA hM
  have hm : (m_many K S x).2 = S ∨ (m_many K S x).2 = (m_takeDown K S).2 := by
    unfold m_many
    by_cases c0 : x = 0
    · rw [if_pos c0]; exact Or.inl rfl
    rw [if_neg c0]
    by_cases c1 : x = 1
    · rw [if_pos c1]; exact Or.inl rfl
    rw [if_neg c1]
    by_cases c2 : x = 2
    · rw [if_pos c2]; exact Or.inl rfl
    rw [if_neg c2]
    by_cases c3 : x = 3
    · rw [if_pos c3]; exact Or.inl rfl
    rw [if_neg c3]
    by_cases c4 : x = 4
    · rw [if_pos c4]; exact Or.inl rfl
    rw [if_neg c4]
    by_cases c5 : x = 5
    · rw [if_pos c5]; exact Or.inl rfl
    rw [if_neg c5]
    by_cases c6 : x = 6
    · rw [if_pos c6]; exact Or.inl rfl
    rw [if_neg c6]
    by_cases c7 : x = 7
    · rw [if_pos c7]; exact Or.inl rfl
    rw [if_neg c7]
    by_cases c8 : x = 8
    · rw [if_pos c8]; exact Or.inl rfl
    rw [if_neg c8]
    by_cases c9 : x = 9
    · rw [if_pos c9]; exact Or.inl rfl
    rw [if_neg c9]
    by_cases c10 : x = 10
    · rw [if_pos c10]; exact Or.inl rfl
    rw [if_neg c10]
    by_cases c11 : x = 11
    · rw [if_pos c11]; exact Or.inl rfl
    rw [if_neg c11]
    by_cases c12 : x = 12
    · rw [if_pos c12]; exact Or.inl rfl
    rw [if_neg c12]
    by_cases c13 : x = 13
    · rw [if_pos c13]; exact Or.inr rfl
    rw [if_neg c13]
    exact Or.inl rfl
  rcases hm with e | e <;> rw [e]
  · exact h0
  · exact h1
def OBS (K : Nat → Nat) (S : PS) : Prop := ∀ T, GW K T → QS K S T →
  (∀ x, (m_many K T x).1 = (m_many K S x).1) ∧ (∀ c x, m_ofCell K T c x = m_ofCell K S c x) ∧ (∀ k x, k < sZ S (K 13) → m_ofCrane K T k x = m_ofCrane K S k x) ∧
  (∀ k x, k < sZ S (K 13) → (m_would K T k x).1 = (m_would K S k x).1) ∧ (∀ k, k < sZ S (K 13) → (m_field K T k).1 = (m_field K S k).1) ∧ (∀ k b, k < sZ S (K 13) → (m_swing K T k b).1 = (m_swing K S k b).1) ∧
  (∀ k x, k < sZ S (K 14) → m_ofLoad K T k x = m_ofLoad K S k x) ∧ m_isSound K T = m_isSound K S ∧ m_cells K T = m_cells K S
theorem hasCell_ok {K : Nat → Nat} {T : PS} {N j : Nat} (hc : m_cells K T = nI N) (hN : N < 2 ^ 31) (hj : j < N) : ¬ m_hasCell K T (nI j) = 0 := by
  unfold m_hasCell
  rw [if_neg (nI_pos (by omega)), hc, if_neg (nI_ge hj hN)]
  decide
def dF (V : Nat → Int32) : Nat → Nat → Int64 → Int64
  | 0, _, n => n
  | r + 1, j, n => dF V r (j + 1) (n * 31 + (V j).toInt64)
def dG (F : Nat → Int64 → Int64) : Nat → Nat → Int64 → Int64
  | 0, _, n => n
  | r + 1, j, n => dG F r (j + 1) (F j n)
def d_cell (K : Nat → Nat) (S : PS) (i : Nat) (n : Int64) : Int64 := dF (fun j => m_ofCell K S (nI i) (nI j)) 5 0 n
def d_load (K : Nat → Nat) (S : PS) (i : Nat) (n : Int64) : Int64 := dF (fun j => m_ofLoad K S i (nI j)) 4 0 n
def d_crane (K : Nat → Nat) (S : PS) (i : Nat) (n : Int64) : Int64 :=
  (((dF (fun j => (m_would K S i (nI j)).1) 7 0 (dF (fun j => m_ofCrane K S i (nI j)) 15 0 n)) * 31 + (m_field K S i).1.toInt64) * 31 + (m_swing K S i 0).1.toInt64) * 31 + (m_swing K S i 1).1.toInt64
def d_digest (K : Nat → Nat) (S : PS) (N : Nat) : Int64 :=
  (dG (d_load K S) (sZ S (K 14)) 0 (dG (d_crane K S) (sZ S (K 13)) 0 (dG (d_cell K S) N 0 (dF (fun j => (m_many K S (nI j)).1) 15 0 8821)))) * 31 + (if m_isSound K S = 0 then (0 : Int32) else 1).toInt64
theorem cf_X7_digest : CFv yX7_digest RX7 cX7_digest 5 (some .long) 0 := ⟨wC_X7_digest, wI_X7_digest, wV_X7_X7_digest, wN_X7, by decide +kernel⟩
set_option maxHeartbeats 4000000 in
set_option maxRecDepth 100000 in
theorem c_digest {l : Launch} {E : EV} {K : Nat → Nat} {S : PS} (hW : WS K S) (hA : AW S) (hM : WM S) (hO : OBS K S) {N : Nat} (hN : N ≤ 196) (hcN : m_cells K S = nI N) : CT l yX7_digest cX7_digest 5 (some .long) 9 206 0 0 E [.ref (K 0)] S (fun v u => v = some (.long (d_digest K S N)) ∧ GW K u ∧ QS K S u) := by
  have hO0 := hO S ⟨hW, hA, hM⟩ QS.rf
  have hz13 := hW.l13.2.1
  have hz14 := hW.l14.2.1
  refine CT.of (by decide) (Nat.le_of_ble_eq_true rfl) ?_
  intro p e s m below meth c M hin
  have M : MC E p s m _ meth c cX7_digest RX7 5 (some .long) := M
  show J p l e _ s m _ below meth c _ E 5 0 [(0, .ref (K 0))] [] S 0 0
  refine j_ldc2 M wK_X7_353 dX7_digest_0 ?_
  refine j_lstore_n (lv' := [(1, .long 8821), (0, .ref (K 0))]) M dX7_digest_3 rfl (by decide) rfl ?_
  refine j_iconst (v := 0) M dX7_digest_4 (by decide) ?_
  refine j_istore_n (lv' := [(3, .int 0), (1, .long 8821), (0, .ref (K 0))]) M dX7_digest_5 rfl (by decide) rfl ?_
  have lp1 : ∀ (r1 j1 : Nat) (T1 : PS) (n1 : Int64), j1 + r1 = 15 → GW K T1 ∧ QS K S T1 → (∀ T2 : PS, GW K T2 ∧ QS K S T2 → J p l e { frames := 9, cells := 0, slots := 0, locals := 206 } s m ([.ref (K 0)] : List Value).toArray below meth c (MQ below (QC E (fun v u => v = some (.long (d_digest K S N)) ∧ GW K u ∧ QS K S u)) ([.ref (K 0)] : List Value).toArray s 0 0 (AE E)) E 5 31 [(0, .ref (K 0)), (1, .long (dF (fun j => (m_many K S (nI j)).1) r1 j1 n1))] [] T2 0 0) → J p l e { frames := 9, cells := 0, slots := 0, locals := 206 } s m ([.ref (K 0)] : List Value).toArray below meth c (MQ below (QC E (fun v u => v = some (.long (d_digest K S N)) ∧ GW K u ∧ QS K S u)) ([.ref (K 0)] : List Value).toArray s 0 0 (AE E)) E 5 6 [(0, .ref (K 0)), (1, .long n1), (3, .int (nI j1))] [] T1 0 0 := by
    intro r1
    induction r1 with
    | zero =>
      intro j1 T1 n1 hj1 hT1 Kx1
      have hO1 := hO T1 hT1.1 hT1.2
      have hz131 := hT1.2.1.z (K 13)
      have hz141 := hT1.2.1.z (K 14)
      have hc1 : m_cells K T1 = nI N := hO1.2.2.2.2.2.2.2.2.trans hcN
      refine j_iload_n M dX7_digest_6 rfl ?_
      refine j_bipush (v := 14) M dX7_digest_7 (by decide) ?_
      refine j_icmp_gt (tgt := 31) M dX7_digest_9 (by decide) (fun _ => ?_) (fun z => absurd (show nI 14 < nI j1 from nI_lt (by omega) (by omega)) z)
      refine j_pick [0, 1] rfl ?_
      exact Kx1 T1 hT1
    | succ r1 ih1 =>
      intro j1 T1 n1 hj1 hT1 Kx1
      have hO1 := hO T1 hT1.1 hT1.2
      have hz131 := hT1.2.1.z (K 13)
      have hz141 := hT1.2.1.z (K 14)
      have hc1 : m_cells K T1 = nI N := hO1.2.2.2.2.2.2.2.2.trans hcN
      refine j_iload_n M dX7_digest_6 rfl ?_
      refine j_bipush (v := 14) M dX7_digest_7 (by decide) ?_
      refine j_icmp_gt (tgt := 31) M dX7_digest_9 (by decide) (fun z => absurd z (show ¬ nI 14 < nI j1 from nI_nlt (by omega) (by omega))) (fun _ => ?_)
      refine j_lload_n M dX7_digest_12 rfl ?_
      refine j_ldc2 M wK_X7_355 dX7_digest_13 ?_
      refine j_lmul M dX7_digest_16 ?_
      refine j_aload_n M dX7_digest_17 rfl ?_
      refine j_iload_n M dX7_digest_18 rfl ?_
      refine j_callV1 (As := [.int (nI j1)]) M cf_X7_many wM_X7_357 (c_many (S := T1) hT1.1.1 hT1.1.2.1 hT1.1.2.2 (nI j1) (⟨(nI_pos (by omega)), (show ¬ nI 14 < nI j1 from nI_nlt (by omega) (by omega))⟩)) hT1.1.1.k0.1 (pAt_7 E _ hT1.1.1.k0.2) rfl rfl ⟨Nat.le_of_ble_eq_true rfl, Nat.le_of_ble_eq_true rfl⟩ (Nat.le_of_ble_eq_true rfl) ⟨Nat.zero_le _, Nat.zero_le _⟩ dX7_digest_19 rfl ?_
      have g1 := gq_many (S := T1) hT1.1.1 hT1.1.2.1 hT1.1.2.2 (nI j1)
      have zg1 := g1.2.1.z (K 13)
      have yg1 := g1.2.1.z (K 14)
      refine j_eq (st2 := [.int ((m_many K S (nI j1)).1), .long (n1 * 31)]) rfl (congrArg (fun z => [Value.int z, .long (n1 * 31)]) (show (m_many K T1 (nI j1)).1 = (m_many K S (nI j1)).1 from hO1.1 _)) rfl ?_
      refine j_i2l M dX7_digest_22 ?_
      refine j_ladd M dX7_digest_23 ?_
      refine j_lstore_n (lv' := [(1, .long ((n1 * 31) + (((m_many K S (nI j1)).1).toInt64))), (0, .ref (K 0)), (3, .int (nI j1))]) M dX7_digest_24 rfl (by decide) rfl ?_
      refine j_iinc (v := (nI (j1 + 1))) (lv' := [(3, .int (nI (j1 + 1))), (1, .long ((n1 * 31) + (((m_many K S (nI j1)).1).toInt64))), (0, .ref (K 0))]) M dX7_digest_25 rfl (nI_1 _) (by decide) rfl ?_
      refine j_goto (tgt := 6) M dX7_digest_28 (by decide) ?_
      refine j_pick [2, 1, 0] rfl ?_
      exact ih1 (j1 + 1) ((m_many K T1 (nI j1)).2) ((n1 * 31) + (((m_many K S (nI j1)).1).toInt64)) (by omega) ⟨⟨g1.1.1, g1.1.2.1, g1.1.2.2⟩, (QS.tr hT1.2 g1.2)⟩ Kx1
  refine j_pick (lv' := [(0, .ref (K 0)), (1, .long 8821), (3, .int (nI 0))]) [2, 1, 0] rfl ?_
  refine lp1 15 0 S 8821 (by omega) ⟨⟨hW, hA, hM⟩, QS.rf⟩ (fun T1z hT1z => ?_)
  have hO1z := hO T1z hT1z.1 hT1z.2
  have hz131z := hT1z.2.1.z (K 13)
  have hz141z := hT1z.2.1.z (K 14)
  refine j_iconst (v := 0) M dX7_digest_31 (by decide) ?_
  refine j_istore_n (lv' := [(3, .int 0), (0, .ref (K 0)), (1, .long (dF (fun j => (m_many K S (nI j)).1) 15 0 8821))]) M dX7_digest_32 rfl (by decide) rfl ?_
  have lp2 : ∀ (r2 j2 : Nat) (T2 : PS) (n2 : Int64), j2 + r2 = N → GW K T2 ∧ QS K S T2 → (∀ T2 : PS, GW K T2 ∧ QS K S T2 → J p l e { frames := 9, cells := 0, slots := 0, locals := 206 } s m ([.ref (K 0)] : List Value).toArray below meth c (MQ below (QC E (fun v u => v = some (.long (d_digest K S N)) ∧ GW K u ∧ QS K S u)) ([.ref (K 0)] : List Value).toArray s 0 0 (AE E)) E 5 83 [(0, .ref (K 0)), (1, .long (dG (d_cell K S) r2 j2 n2))] [] T2 0 0) → J p l e { frames := 9, cells := 0, slots := 0, locals := 206 } s m ([.ref (K 0)] : List Value).toArray below meth c (MQ below (QC E (fun v u => v = some (.long (d_digest K S N)) ∧ GW K u ∧ QS K S u)) ([.ref (K 0)] : List Value).toArray s 0 0 (AE E)) E 5 33 [(0, .ref (K 0)), (1, .long n2), (3, .int (nI j2))] [] T2 0 0 := by
    intro r2
    induction r2 with
    | zero =>
      intro j2 T2 n2 hj2 hT2 Kx2
      have hO2 := hO T2 hT2.1 hT2.2
      have hz132 := hT2.2.1.z (K 13)
      have hz142 := hT2.2.1.z (K 14)
      have hc2 : m_cells K T2 = nI N := hO2.2.2.2.2.2.2.2.2.trans hcN
      refine j_iload_n M dX7_digest_33 rfl ?_
      refine j_aload_n M dX7_digest_34 rfl ?_
      refine j_get (v := .ref (K 1)) M hT2.1.1.k0.1 (pAt_7 E _ hT2.1.1.k0.2) rfl inU_X7 0 (by decide) wF_X7_17 (fun _ h => h) (rfv hT2.1.1.r48) dX7_digest_35 ?_
      refine j_getN (v := .ref (K 2)) M hT2.1.1.k1.1 (pAt_5 E _ hT2.1.1.k1.2) rfl inU_X5 0 (by decide) nF_X7_42 (fun _ h => h) (rfv hT2.1.1.r32) dX7_digest_38 ?_
      refine j_callV1 (As := []) M cf_X1_cells wM_X7_46 (c_cells (S := T2) hT2.1.1) hT2.1.1.k2.1 (pAt_1 E _ hT2.1.1.k2.2) rfl rfl ⟨Nat.le_of_ble_eq_true rfl, Nat.le_of_ble_eq_true rfl⟩ (Nat.le_of_ble_eq_true rfl) ⟨Nat.zero_le _, Nat.zero_le _⟩ dX7_digest_41 rfl ?_
      refine j_icmp_ge (tgt := 83) M dX7_digest_44 (by decide) (fun _ => ?_) (fun z => absurd (by rw [hc2]; exact nI_le (by omega) (by omega)) z)
      refine j_pick [0, 1] rfl ?_
      exact Kx2 T2 hT2
    | succ r2 ih2 =>
      intro j2 T2 n2 hj2 hT2 Kx2
      have hO2 := hO T2 hT2.1 hT2.2
      have hz132 := hT2.2.1.z (K 13)
      have hz142 := hT2.2.1.z (K 14)
      have hc2 : m_cells K T2 = nI N := hO2.2.2.2.2.2.2.2.2.trans hcN
      refine j_iload_n M dX7_digest_33 rfl ?_
      refine j_aload_n M dX7_digest_34 rfl ?_
      refine j_get (v := .ref (K 1)) M hT2.1.1.k0.1 (pAt_7 E _ hT2.1.1.k0.2) rfl inU_X7 0 (by decide) wF_X7_17 (fun _ h => h) (rfv hT2.1.1.r48) dX7_digest_35 ?_
      refine j_getN (v := .ref (K 2)) M hT2.1.1.k1.1 (pAt_5 E _ hT2.1.1.k1.2) rfl inU_X5 0 (by decide) nF_X7_42 (fun _ h => h) (rfv hT2.1.1.r32) dX7_digest_38 ?_
      refine j_callV1 (As := []) M cf_X1_cells wM_X7_46 (c_cells (S := T2) hT2.1.1) hT2.1.1.k2.1 (pAt_1 E _ hT2.1.1.k2.2) rfl rfl ⟨Nat.le_of_ble_eq_true rfl, Nat.le_of_ble_eq_true rfl⟩ (Nat.le_of_ble_eq_true rfl) ⟨Nat.zero_le _, Nat.zero_le _⟩ dX7_digest_41 rfl ?_
      refine j_icmp_ge (tgt := 83) M dX7_digest_44 (by decide) (fun z => absurd z (by rw [hc2]; exact nI_ge (by omega) (by omega))) (fun _ => ?_)
      refine j_iconst (v := 0) M dX7_digest_47 (by decide) ?_
      refine j_istore (lv' := [(4, .int 0), (0, .ref (K 0)), (1, .long n2), (3, .int (nI j2))]) M dX7_digest_48 (by decide) rfl ?_
      have lp3 : ∀ (r3 j3 : Nat) (T3 : PS) (n3 : Int64), j3 + r3 = 5 → GW K T3 ∧ QS K S T3 → (∀ T2 : PS, GW K T2 ∧ QS K S T2 → J p l e { frames := 9, cells := 0, slots := 0, locals := 206 } s m ([.ref (K 0)] : List Value).toArray below meth c (MQ below (QC E (fun v u => v = some (.long (d_digest K S N)) ∧ GW K u ∧ QS K S u)) ([.ref (K 0)] : List Value).toArray s 0 0 (AE E)) E 5 77 [(0, .ref (K 0)), (1, .long (dF (fun j => m_ofCell K S (nI j2) (nI j)) r3 j3 n3)), (3, .int (nI j2))] [] T2 0 0) → J p l e { frames := 9, cells := 0, slots := 0, locals := 206 } s m ([.ref (K 0)] : List Value).toArray below meth c (MQ below (QC E (fun v u => v = some (.long (d_digest K S N)) ∧ GW K u ∧ QS K S u)) ([.ref (K 0)] : List Value).toArray s 0 0 (AE E)) E 5 50 [(0, .ref (K 0)), (1, .long n3), (3, .int (nI j2)), (4, .int (nI j3))] [] T3 0 0 := by
        intro r3
        induction r3 with
        | zero =>
          intro j3 T3 n3 hj3 hT3 Kx3
          have hO3 := hO T3 hT3.1 hT3.2
          have hz133 := hT3.2.1.z (K 13)
          have hz143 := hT3.2.1.z (K 14)
          have hc3 : m_cells K T3 = nI N := hO3.2.2.2.2.2.2.2.2.trans hcN
          refine j_iload M dX7_digest_50 rfl ?_
          refine j_iconst (v := 4) M dX7_digest_52 (by decide) ?_
          refine j_icmp_gt (tgt := 77) M dX7_digest_53 (by decide) (fun _ => ?_) (fun z => absurd (show nI 4 < nI j3 from nI_lt (by omega) (by omega)) z)
          refine j_pick [0, 1, 2] rfl ?_
          exact Kx3 T3 hT3
        | succ r3 ih3 =>
          intro j3 T3 n3 hj3 hT3 Kx3
          have hO3 := hO T3 hT3.1 hT3.2
          have hz133 := hT3.2.1.z (K 13)
          have hz143 := hT3.2.1.z (K 14)
          have hc3 : m_cells K T3 = nI N := hO3.2.2.2.2.2.2.2.2.trans hcN
          refine j_iload M dX7_digest_50 rfl ?_
          refine j_iconst (v := 4) M dX7_digest_52 (by decide) ?_
          refine j_icmp_gt (tgt := 77) M dX7_digest_53 (by decide) (fun z => absurd z (show ¬ nI 4 < nI j3 from nI_nlt (by omega) (by omega))) (fun _ => ?_)
          refine j_lload_n M dX7_digest_56 rfl ?_
          refine j_ldc2 M wK_X7_355 dX7_digest_57 ?_
          refine j_lmul M dX7_digest_60 ?_
          refine j_aload_n M dX7_digest_61 rfl ?_
          refine j_iload_n M dX7_digest_62 rfl ?_
          refine j_iload M dX7_digest_63 rfl ?_
          refine j_callV1 (As := [.int (nI j2), .int (nI j3)]) M cf_X7_ofCell wM_X7_360 (c_ofCell (S := T3) hT3.1.1 hT3.1.2.1 hT3.1.2.2 (nI j2) (nI j3) (hasCell_ok hc3 (by omega) (by omega)) (⟨(nI_pos (by omega)), (show ¬ nI 4 < nI j3 from nI_nlt (by omega) (by omega))⟩)) hT3.1.1.k0.1 (pAt_7 E _ hT3.1.1.k0.2) rfl rfl ⟨Nat.le_of_ble_eq_true rfl, Nat.le_of_ble_eq_true rfl⟩ (Nat.le_of_ble_eq_true rfl) ⟨Nat.zero_le _, Nat.zero_le _⟩ dX7_digest_65 rfl ?_
          refine j_eq (st2 := [.int (m_ofCell K S (nI j2) (nI j3)), .long (n3 * 31)]) rfl (congrArg (fun z => [Value.int z, .long (n3 * 31)]) (show m_ofCell K T3 (nI j2) (nI j3) = m_ofCell K S (nI j2) (nI j3) from hO3.2.1 _ _)) rfl ?_
          refine j_i2l M dX7_digest_68 ?_
          refine j_ladd M dX7_digest_69 ?_
          refine j_lstore_n (lv' := [(1, .long ((n3 * 31) + ((m_ofCell K S (nI j2) (nI j3)).toInt64))), (0, .ref (K 0)), (3, .int (nI j2)), (4, .int (nI j3))]) M dX7_digest_70 rfl (by decide) rfl ?_
          refine j_iinc (v := (nI (j3 + 1))) (lv' := [(4, .int (nI (j3 + 1))), (1, .long ((n3 * 31) + ((m_ofCell K S (nI j2) (nI j3)).toInt64))), (0, .ref (K 0)), (3, .int (nI j2))]) M dX7_digest_71 rfl (nI_1 _) (by decide) rfl ?_
          refine j_goto (tgt := 50) M dX7_digest_74 (by decide) ?_
          refine j_pick [2, 1, 3, 0] rfl ?_
          exact ih3 (j3 + 1) T3 ((n3 * 31) + ((m_ofCell K S (nI j2) (nI j3)).toInt64)) (by omega) ⟨⟨hT3.1.1, hT3.1.2.1, hT3.1.2.2⟩, hT3.2⟩ Kx3
      refine j_pick (lv' := [(0, .ref (K 0)), (1, .long n2), (3, .int (nI j2)), (4, .int (nI 0))]) [1, 2, 3, 0] rfl ?_
      refine lp3 5 0 T2 n2 (by omega) ⟨⟨hT2.1.1, hT2.1.2.1, hT2.1.2.2⟩, hT2.2⟩ (fun T3z hT3z => ?_)
      have hO3z := hO T3z hT3z.1 hT3z.2
      have hz133z := hT3z.2.1.z (K 13)
      have hz143z := hT3z.2.1.z (K 14)
      refine j_iinc (v := (nI (j2 + 1))) (lv' := [(3, .int (nI (j2 + 1))), (0, .ref (K 0)), (1, .long (dF (fun j => m_ofCell K S (nI j2) (nI j)) 5 0 n2))]) M dX7_digest_77 rfl (nI_1 _) (by decide) rfl ?_
      refine j_goto (tgt := 33) M dX7_digest_80 (by decide) ?_
      refine j_pick [1, 2, 0] rfl ?_
      exact ih2 (j2 + 1) T3z (dF (fun j => m_ofCell K S (nI j2) (nI j)) 5 0 n2) (by omega) ⟨⟨hT3z.1.1, hT3z.1.2.1, hT3z.1.2.2⟩, hT3z.2⟩ Kx2
  refine j_pick (lv' := [(0, .ref (K 0)), (1, .long (dF (fun j => (m_many K S (nI j)).1) 15 0 8821)), (3, .int (nI 0))]) [1, 2, 0] rfl ?_
  refine lp2 N 0 T1z (dF (fun j => (m_many K S (nI j)).1) 15 0 8821) (by omega) ⟨⟨hT1z.1.1, hT1z.1.2.1, hT1z.1.2.2⟩, hT1z.2⟩ (fun T2z hT2z => ?_)
  have hO2z := hO T2z hT2z.1 hT2z.2
  have hz132z := hT2z.2.1.z (K 13)
  have hz142z := hT2z.2.1.z (K 14)
  refine j_iconst (v := 0) M dX7_digest_83 (by decide) ?_
  refine j_istore_n (lv' := [(3, .int 0), (0, .ref (K 0)), (1, .long (dG (d_cell K S) N 0 (dF (fun j => (m_many K S (nI j)).1) 15 0 8821)))]) M dX7_digest_84 rfl (by decide) rfl ?_
  have lp4 : ∀ (r4 j4 : Nat) (T4 : PS) (n4 : Int64), j4 + r4 = sZ S (K 13) → GW K T4 ∧ QS K S T4 → (∀ T2 : PS, GW K T2 ∧ QS K S T2 → J p l e { frames := 9, cells := 0, slots := 0, locals := 206 } s m ([.ref (K 0)] : List Value).toArray below meth c (MQ below (QC E (fun v u => v = some (.long (d_digest K S N)) ∧ GW K u ∧ QS K S u)) ([.ref (K 0)] : List Value).toArray s 0 0 (AE E)) E 5 208 [(0, .ref (K 0)), (1, .long (dG (d_crane K S) r4 j4 n4))] [] T2 0 0) → J p l e { frames := 9, cells := 0, slots := 0, locals := 206 } s m ([.ref (K 0)] : List Value).toArray below meth c (MQ below (QC E (fun v u => v = some (.long (d_digest K S N)) ∧ GW K u ∧ QS K S u)) ([.ref (K 0)] : List Value).toArray s 0 0 (AE E)) E 5 85 [(0, .ref (K 0)), (1, .long n4), (3, .int (nI j4))] [] T4 0 0 := by
    intro r4
    induction r4 with
    | zero =>
      intro j4 T4 n4 hj4 hT4 Kx4
      have hO4 := hO T4 hT4.1 hT4.2
      have hz134 := hT4.2.1.z (K 13)
      have hz144 := hT4.2.1.z (K 14)
      have hc4 : m_cells K T4 = nI N := hO4.2.2.2.2.2.2.2.2.trans hcN
      refine j_iload_n M dX7_digest_85 rfl ?_
      refine j_aload_n M dX7_digest_86 rfl ?_
      refine j_get (v := .ref (K 1)) M hT4.1.1.k0.1 (pAt_7 E _ hT4.1.1.k0.2) rfl inU_X7 0 (by decide) wF_X7_17 (fun _ h => h) (rfv hT4.1.1.r48) dX7_digest_87 ?_
      refine j_getN (v := .ref (K 13)) M hT4.1.1.k1.1 (pAt_5 E _ hT4.1.1.k1.2) rfl inU_X5 3 (by decide) nF_X7_124 (fun _ h => h) (rfv hT4.1.1.r35) dX7_digest_90 ?_
      refine j_callV1 (As := []) (x := .int (nI (sZ T4 (K 13)))) M cf_size wM_X7_76 (c_size hT4.1.1.l13) hT4.1.1.l13.1.1 (pAt_8 E _ hT4.1.1.l13.1.2) rfl rfl ⟨Nat.le_of_ble_eq_true rfl, Nat.le_of_ble_eq_true rfl⟩ (Nat.le_of_ble_eq_true rfl) ⟨Nat.zero_le _, Nat.zero_le _⟩ dX7_digest_93 rfl ?_
      refine j_icmp_ge (tgt := 208) M dX7_digest_96 (by decide) (fun _ => ?_) (fun z => absurd (nI_le (by omega) (by omega)) z)
      refine j_pick [0, 1] rfl ?_
      exact Kx4 T4 hT4
    | succ r4 ih4 =>
      intro j4 T4 n4 hj4 hT4 Kx4
      have hO4 := hO T4 hT4.1 hT4.2
      have hz134 := hT4.2.1.z (K 13)
      have hz144 := hT4.2.1.z (K 14)
      have hc4 : m_cells K T4 = nI N := hO4.2.2.2.2.2.2.2.2.trans hcN
      refine j_iload_n M dX7_digest_85 rfl ?_
      refine j_aload_n M dX7_digest_86 rfl ?_
      refine j_get (v := .ref (K 1)) M hT4.1.1.k0.1 (pAt_7 E _ hT4.1.1.k0.2) rfl inU_X7 0 (by decide) wF_X7_17 (fun _ h => h) (rfv hT4.1.1.r48) dX7_digest_87 ?_
      refine j_getN (v := .ref (K 13)) M hT4.1.1.k1.1 (pAt_5 E _ hT4.1.1.k1.2) rfl inU_X5 3 (by decide) nF_X7_124 (fun _ h => h) (rfv hT4.1.1.r35) dX7_digest_90 ?_
      refine j_callV1 (As := []) (x := .int (nI (sZ T4 (K 13)))) M cf_size wM_X7_76 (c_size hT4.1.1.l13) hT4.1.1.l13.1.1 (pAt_8 E _ hT4.1.1.l13.1.2) rfl rfl ⟨Nat.le_of_ble_eq_true rfl, Nat.le_of_ble_eq_true rfl⟩ (Nat.le_of_ble_eq_true rfl) ⟨Nat.zero_le _, Nat.zero_le _⟩ dX7_digest_93 rfl ?_
      refine j_icmp_ge (tgt := 208) M dX7_digest_96 (by decide) (fun z => absurd z (nI_ge (by omega) (by omega))) (fun _ => ?_)
      refine j_iconst (v := 0) M dX7_digest_99 (by decide) ?_
      refine j_istore (lv' := [(4, .int 0), (0, .ref (K 0)), (1, .long n4), (3, .int (nI j4))]) M dX7_digest_100 (by decide) rfl ?_
      have lp5 : ∀ (r5 j5 : Nat) (T5 : PS) (n5 : Int64), j5 + r5 = 15 → GW K T5 ∧ QS K S T5 → (∀ T2 : PS, GW K T2 ∧ QS K S T2 → J p l e { frames := 9, cells := 0, slots := 0, locals := 206 } s m ([.ref (K 0)] : List Value).toArray below meth c (MQ below (QC E (fun v u => v = some (.long (d_digest K S N)) ∧ GW K u ∧ QS K S u)) ([.ref (K 0)] : List Value).toArray s 0 0 (AE E)) E 5 130 [(0, .ref (K 0)), (1, .long (dF (fun j => m_ofCrane K S j4 (nI j)) r5 j5 n5)), (3, .int (nI j4))] [] T2 0 0) → J p l e { frames := 9, cells := 0, slots := 0, locals := 206 } s m ([.ref (K 0)] : List Value).toArray below meth c (MQ below (QC E (fun v u => v = some (.long (d_digest K S N)) ∧ GW K u ∧ QS K S u)) ([.ref (K 0)] : List Value).toArray s 0 0 (AE E)) E 5 102 [(0, .ref (K 0)), (1, .long n5), (3, .int (nI j4)), (4, .int (nI j5))] [] T5 0 0 := by
        intro r5
        induction r5 with
        | zero =>
          intro j5 T5 n5 hj5 hT5 Kx5
          have hO5 := hO T5 hT5.1 hT5.2
          have hz135 := hT5.2.1.z (K 13)
          have hz145 := hT5.2.1.z (K 14)
          have hc5 : m_cells K T5 = nI N := hO5.2.2.2.2.2.2.2.2.trans hcN
          refine j_iload M dX7_digest_102 rfl ?_
          refine j_bipush (v := 14) M dX7_digest_104 (by decide) ?_
          refine j_icmp_gt (tgt := 130) M dX7_digest_106 (by decide) (fun _ => ?_) (fun z => absurd (show nI 14 < nI j5 from nI_lt (by omega) (by omega)) z)
          refine j_pick [0, 1, 2] rfl ?_
          exact Kx5 T5 hT5
        | succ r5 ih5 =>
          intro j5 T5 n5 hj5 hT5 Kx5
          have hO5 := hO T5 hT5.1 hT5.2
          have hz135 := hT5.2.1.z (K 13)
          have hz145 := hT5.2.1.z (K 14)
          have hc5 : m_cells K T5 = nI N := hO5.2.2.2.2.2.2.2.2.trans hcN
          refine j_iload M dX7_digest_102 rfl ?_
          refine j_bipush (v := 14) M dX7_digest_104 (by decide) ?_
          refine j_icmp_gt (tgt := 130) M dX7_digest_106 (by decide) (fun z => absurd z (show ¬ nI 14 < nI j5 from nI_nlt (by omega) (by omega))) (fun _ => ?_)
          refine j_lload_n M dX7_digest_109 rfl ?_
          refine j_ldc2 M wK_X7_355 dX7_digest_110 ?_
          refine j_lmul M dX7_digest_113 ?_
          refine j_aload_n M dX7_digest_114 rfl ?_
          refine j_iload_n M dX7_digest_115 rfl ?_
          refine j_iload M dX7_digest_116 rfl ?_
          refine j_callV1 (As := [.int (nI j4), .int (nI j5)]) M cf_X7_ofCrane wM_X7_363 (c_ofCrane (S := T5) hT5.1.1 hT5.1.2.1 hT5.1.2.2 (nI j5) (show j4 < sZ T5 (K 13) from by omega) (⟨(nI_pos (by omega)), (show ¬ nI 14 < nI j5 from nI_nlt (by omega) (by omega))⟩)) hT5.1.1.k0.1 (pAt_7 E _ hT5.1.1.k0.2) rfl rfl ⟨Nat.le_of_ble_eq_true rfl, Nat.le_of_ble_eq_true rfl⟩ (Nat.le_of_ble_eq_true rfl) ⟨Nat.zero_le _, Nat.zero_le _⟩ dX7_digest_118 rfl ?_
          refine j_eq (st2 := [.int (m_ofCrane K S j4 (nI j5)), .long (n5 * 31)]) rfl (congrArg (fun z => [Value.int z, .long (n5 * 31)]) (show m_ofCrane K T5 j4 (nI j5) = m_ofCrane K S j4 (nI j5) from hO5.2.2.1 _ _ (by omega))) rfl ?_
          refine j_i2l M dX7_digest_121 ?_
          refine j_ladd M dX7_digest_122 ?_
          refine j_lstore_n (lv' := [(1, .long ((n5 * 31) + ((m_ofCrane K S j4 (nI j5)).toInt64))), (0, .ref (K 0)), (3, .int (nI j4)), (4, .int (nI j5))]) M dX7_digest_123 rfl (by decide) rfl ?_
          refine j_iinc (v := (nI (j5 + 1))) (lv' := [(4, .int (nI (j5 + 1))), (1, .long ((n5 * 31) + ((m_ofCrane K S j4 (nI j5)).toInt64))), (0, .ref (K 0)), (3, .int (nI j4))]) M dX7_digest_124 rfl (nI_1 _) (by decide) rfl ?_
          refine j_goto (tgt := 102) M dX7_digest_127 (by decide) ?_
          refine j_pick [2, 1, 3, 0] rfl ?_
          exact ih5 (j5 + 1) T5 ((n5 * 31) + ((m_ofCrane K S j4 (nI j5)).toInt64)) (by omega) ⟨⟨hT5.1.1, hT5.1.2.1, hT5.1.2.2⟩, hT5.2⟩ Kx5
      refine j_pick (lv' := [(0, .ref (K 0)), (1, .long n4), (3, .int (nI j4)), (4, .int (nI 0))]) [1, 2, 3, 0] rfl ?_
      refine lp5 15 0 T4 n4 (by omega) ⟨⟨hT4.1.1, hT4.1.2.1, hT4.1.2.2⟩, hT4.2⟩ (fun T5z hT5z => ?_)
      have hO5z := hO T5z hT5z.1 hT5z.2
      have hz135z := hT5z.2.1.z (K 13)
      have hz145z := hT5z.2.1.z (K 14)
      refine j_iconst (v := 0) M dX7_digest_130 (by decide) ?_
      refine j_istore (lv' := [(4, .int 0), (0, .ref (K 0)), (1, .long (dF (fun j => m_ofCrane K S j4 (nI j)) 15 0 n4)), (3, .int (nI j4))]) M dX7_digest_131 (by decide) rfl ?_
      have lp6 : ∀ (r6 j6 : Nat) (T6 : PS) (n6 : Int64), j6 + r6 = 7 → GW K T6 ∧ QS K S T6 → (∀ T2 : PS, GW K T2 ∧ QS K S T2 → J p l e { frames := 9, cells := 0, slots := 0, locals := 206 } s m ([.ref (K 0)] : List Value).toArray below meth c (MQ below (QC E (fun v u => v = some (.long (d_digest K S N)) ∧ GW K u ∧ QS K S u)) ([.ref (K 0)] : List Value).toArray s 0 0 (AE E)) E 5 161 [(0, .ref (K 0)), (1, .long (dF (fun j => (m_would K S j4 (nI j)).1) r6 j6 n6)), (3, .int (nI j4))] [] T2 0 0) → J p l e { frames := 9, cells := 0, slots := 0, locals := 206 } s m ([.ref (K 0)] : List Value).toArray below meth c (MQ below (QC E (fun v u => v = some (.long (d_digest K S N)) ∧ GW K u ∧ QS K S u)) ([.ref (K 0)] : List Value).toArray s 0 0 (AE E)) E 5 133 [(0, .ref (K 0)), (1, .long n6), (3, .int (nI j4)), (4, .int (nI j6))] [] T6 0 0 := by
        intro r6
        induction r6 with
        | zero =>
          intro j6 T6 n6 hj6 hT6 Kx6
          have hO6 := hO T6 hT6.1 hT6.2
          have hz136 := hT6.2.1.z (K 13)
          have hz146 := hT6.2.1.z (K 14)
          have hc6 : m_cells K T6 = nI N := hO6.2.2.2.2.2.2.2.2.trans hcN
          refine j_iload M dX7_digest_133 rfl ?_
          refine j_bipush (v := 6) M dX7_digest_135 (by decide) ?_
          refine j_icmp_gt (tgt := 161) M dX7_digest_137 (by decide) (fun _ => ?_) (fun z => absurd (show nI 6 < nI j6 from nI_lt (by omega) (by omega)) z)
          refine j_pick [0, 1, 2] rfl ?_
          exact Kx6 T6 hT6
        | succ r6 ih6 =>
          intro j6 T6 n6 hj6 hT6 Kx6
          have hO6 := hO T6 hT6.1 hT6.2
          have hz136 := hT6.2.1.z (K 13)
          have hz146 := hT6.2.1.z (K 14)
          have hc6 : m_cells K T6 = nI N := hO6.2.2.2.2.2.2.2.2.trans hcN
          refine j_iload M dX7_digest_133 rfl ?_
          refine j_bipush (v := 6) M dX7_digest_135 (by decide) ?_
          refine j_icmp_gt (tgt := 161) M dX7_digest_137 (by decide) (fun z => absurd z (show ¬ nI 6 < nI j6 from nI_nlt (by omega) (by omega))) (fun _ => ?_)
          refine j_lload_n M dX7_digest_140 rfl ?_
          refine j_ldc2 M wK_X7_355 dX7_digest_141 ?_
          refine j_lmul M dX7_digest_144 ?_
          refine j_aload_n M dX7_digest_145 rfl ?_
          refine j_iload_n M dX7_digest_146 rfl ?_
          refine j_iload M dX7_digest_147 rfl ?_
          refine j_callV1 (As := [.int (nI j4), .int (nI j6)]) M cf_X7_would wM_X7_366 (c_would (S := T6) hT6.1.1 hT6.1.2.1 hT6.1.2.2 (nI j6) (show j4 < sZ T6 (K 13) from by omega) (⟨(nI_pos (by omega)), (show ¬ nI 6 < nI j6 from nI_nlt (by omega) (by omega))⟩)) hT6.1.1.k0.1 (pAt_7 E _ hT6.1.1.k0.2) rfl rfl ⟨Nat.le_of_ble_eq_true rfl, Nat.le_of_ble_eq_true rfl⟩ (Nat.le_of_ble_eq_true rfl) ⟨Nat.zero_le _, Nat.zero_le _⟩ dX7_digest_149 rfl ?_
          have g2 := gq_would (S := T6) hT6.1.1 hT6.1.2.1 hT6.1.2.2 (show j4 < sZ T6 (K 13) from by omega) (nI j6)
          have zg2 := g2.2.1.z (K 13)
          have yg2 := g2.2.1.z (K 14)
          refine j_eq (st2 := [.int ((m_would K S j4 (nI j6)).1), .long (n6 * 31)]) rfl (congrArg (fun z => [Value.int z, .long (n6 * 31)]) (show (m_would K T6 j4 (nI j6)).1 = (m_would K S j4 (nI j6)).1 from hO6.2.2.2.1 _ _ (by omega))) rfl ?_
          refine j_i2l M dX7_digest_152 ?_
          refine j_ladd M dX7_digest_153 ?_
          refine j_lstore_n (lv' := [(1, .long ((n6 * 31) + (((m_would K S j4 (nI j6)).1).toInt64))), (0, .ref (K 0)), (3, .int (nI j4)), (4, .int (nI j6))]) M dX7_digest_154 rfl (by decide) rfl ?_
          refine j_iinc (v := (nI (j6 + 1))) (lv' := [(4, .int (nI (j6 + 1))), (1, .long ((n6 * 31) + (((m_would K S j4 (nI j6)).1).toInt64))), (0, .ref (K 0)), (3, .int (nI j4))]) M dX7_digest_155 rfl (nI_1 _) (by decide) rfl ?_
          refine j_goto (tgt := 133) M dX7_digest_158 (by decide) ?_
          refine j_pick [2, 1, 3, 0] rfl ?_
          exact ih6 (j6 + 1) ((m_would K T6 j4 (nI j6)).2) ((n6 * 31) + (((m_would K S j4 (nI j6)).1).toInt64)) (by omega) ⟨⟨g2.1.1, g2.1.2.1, g2.1.2.2⟩, (QS.tr hT6.2 g2.2)⟩ Kx6
      refine j_pick (lv' := [(0, .ref (K 0)), (1, .long (dF (fun j => m_ofCrane K S j4 (nI j)) 15 0 n4)), (3, .int (nI j4)), (4, .int (nI 0))]) [1, 2, 3, 0] rfl ?_
      refine lp6 7 0 T5z (dF (fun j => m_ofCrane K S j4 (nI j)) 15 0 n4) (by omega) ⟨⟨hT5z.1.1, hT5z.1.2.1, hT5z.1.2.2⟩, hT5z.2⟩ (fun T6z hT6z => ?_)
      have hO6z := hO T6z hT6z.1 hT6z.2
      have hz136z := hT6z.2.1.z (K 13)
      have hz146z := hT6z.2.1.z (K 14)
      refine j_lload_n M dX7_digest_161 rfl ?_
      refine j_ldc2 M wK_X7_355 dX7_digest_162 ?_
      refine j_lmul M dX7_digest_165 ?_
      refine j_aload_n M dX7_digest_166 rfl ?_
      refine j_iload_n M dX7_digest_167 rfl ?_
      refine j_callV1 (As := [.int (nI j4)]) M cf_X7_field wM_X7_369 (c_field (S := T6z) hT6z.1.1 hT6z.1.2.1 hT6z.1.2.2 (show j4 < sZ T6z (K 13) from by omega)) hT6z.1.1.k0.1 (pAt_7 E _ hT6z.1.1.k0.2) rfl rfl ⟨Nat.le_of_ble_eq_true rfl, Nat.le_of_ble_eq_true rfl⟩ (Nat.le_of_ble_eq_true rfl) ⟨Nat.zero_le _, Nat.zero_le _⟩ dX7_digest_168 rfl ?_
      have g3 := gq_field (S := T6z) hT6z.1.1 hT6z.1.2.1 hT6z.1.2.2 (show j4 < sZ T6z (K 13) from by omega)
      have zg3 := g3.2.1.z (K 13)
      have yg3 := g3.2.1.z (K 14)
      refine j_eq (st2 := [.int ((m_field K S j4).1), .long ((dF (fun j => (m_would K S j4 (nI j)).1) 7 0 (dF (fun j => m_ofCrane K S j4 (nI j)) 15 0 n4)) * 31)]) rfl (congrArg (fun z => [Value.int z, .long ((dF (fun j => (m_would K S j4 (nI j)).1) 7 0 (dF (fun j => m_ofCrane K S j4 (nI j)) 15 0 n4)) * 31)]) (show (m_field K T6z j4).1 = (m_field K S j4).1 from (hO T6z ⟨hT6z.1.1, hT6z.1.2.1, hT6z.1.2.2⟩ hT6z.2).2.2.2.2.1 _ (by omega))) rfl ?_
      refine j_i2l M dX7_digest_171 ?_
      refine j_ladd M dX7_digest_172 ?_
      refine j_lstore_n (lv' := [(1, .long (((dF (fun j => (m_would K S j4 (nI j)).1) 7 0 (dF (fun j => m_ofCrane K S j4 (nI j)) 15 0 n4)) * 31) + (((m_field K S j4).1).toInt64))), (0, .ref (K 0)), (3, .int (nI j4))]) M dX7_digest_173 rfl (by decide) rfl ?_
      refine j_lload_n M dX7_digest_174 rfl ?_
      refine j_ldc2 M wK_X7_355 dX7_digest_175 ?_
      refine j_lmul M dX7_digest_178 ?_
      refine j_aload_n M dX7_digest_179 rfl ?_
      refine j_iload_n M dX7_digest_180 rfl ?_
      refine j_iconst (v := 0) M dX7_digest_181 (by decide) ?_
      refine j_callV1 (As := [.int (nI j4), .int 0]) M cf_X7_swing wM_X7_372 (c_swing (S := (m_field K T6z j4).2) g3.1.1 g3.1.2.1 g3.1.2.2 0 (show j4 < sZ ((m_field K T6z j4).2) (K 13) from by omega)) g3.1.1.k0.1 (pAt_7 E _ g3.1.1.k0.2) rfl rfl ⟨Nat.le_of_ble_eq_true rfl, Nat.le_of_ble_eq_true rfl⟩ (Nat.le_of_ble_eq_true rfl) ⟨Nat.zero_le _, Nat.zero_le _⟩ dX7_digest_182 rfl ?_
      have g4 := gq_swing (S := (m_field K T6z j4).2) g3.1.1 g3.1.2.1 g3.1.2.2 (show j4 < sZ ((m_field K T6z j4).2) (K 13) from by omega) 0
      have zg4 := g4.2.1.z (K 13)
      have yg4 := g4.2.1.z (K 14)
      refine j_eq (st2 := [.int ((m_swing K S j4 0).1), .long ((((dF (fun j => (m_would K S j4 (nI j)).1) 7 0 (dF (fun j => m_ofCrane K S j4 (nI j)) 15 0 n4)) * 31) + (((m_field K S j4).1).toInt64)) * 31)]) rfl (congrArg (fun z => [Value.int z, .long ((((dF (fun j => (m_would K S j4 (nI j)).1) 7 0 (dF (fun j => m_ofCrane K S j4 (nI j)) 15 0 n4)) * 31) + (((m_field K S j4).1).toInt64)) * 31)]) (show (m_swing K ((m_field K T6z j4).2) j4 0).1 = (m_swing K S j4 0).1 from (hO ((m_field K T6z j4).2) ⟨g3.1.1, g3.1.2.1, g3.1.2.2⟩ (QS.tr hT6z.2 g3.2)).2.2.2.2.2.1 _ _ (by omega))) rfl ?_
      refine j_i2l M dX7_digest_185 ?_
      refine j_ladd M dX7_digest_186 ?_
      refine j_lstore_n (lv' := [(1, .long (((((dF (fun j => (m_would K S j4 (nI j)).1) 7 0 (dF (fun j => m_ofCrane K S j4 (nI j)) 15 0 n4)) * 31) + (((m_field K S j4).1).toInt64)) * 31) + (((m_swing K S j4 0).1).toInt64))), (0, .ref (K 0)), (3, .int (nI j4))]) M dX7_digest_187 rfl (by decide) rfl ?_
      refine j_lload_n M dX7_digest_188 rfl ?_
      refine j_ldc2 M wK_X7_355 dX7_digest_189 ?_
      refine j_lmul M dX7_digest_192 ?_
      refine j_aload_n M dX7_digest_193 rfl ?_
      refine j_iload_n M dX7_digest_194 rfl ?_
      refine j_iconst (v := 1) M dX7_digest_195 (by decide) ?_
      refine j_callV1 (As := [.int (nI j4), .int 1]) M cf_X7_swing wM_X7_372 (c_swing (S := (m_swing K ((m_field K T6z j4).2) j4 0).2) g4.1.1 g4.1.2.1 g4.1.2.2 1 (show j4 < sZ ((m_swing K ((m_field K T6z j4).2) j4 0).2) (K 13) from by omega)) g4.1.1.k0.1 (pAt_7 E _ g4.1.1.k0.2) rfl rfl ⟨Nat.le_of_ble_eq_true rfl, Nat.le_of_ble_eq_true rfl⟩ (Nat.le_of_ble_eq_true rfl) ⟨Nat.zero_le _, Nat.zero_le _⟩ dX7_digest_196 rfl ?_
      have g5 := gq_swing (S := (m_swing K ((m_field K T6z j4).2) j4 0).2) g4.1.1 g4.1.2.1 g4.1.2.2 (show j4 < sZ ((m_swing K ((m_field K T6z j4).2) j4 0).2) (K 13) from by omega) 1
      have zg5 := g5.2.1.z (K 13)
      have yg5 := g5.2.1.z (K 14)
      refine j_eq (st2 := [.int ((m_swing K S j4 1).1), .long ((((((dF (fun j => (m_would K S j4 (nI j)).1) 7 0 (dF (fun j => m_ofCrane K S j4 (nI j)) 15 0 n4)) * 31) + (((m_field K S j4).1).toInt64)) * 31) + (((m_swing K S j4 0).1).toInt64)) * 31)]) rfl (congrArg (fun z => [Value.int z, .long ((((((dF (fun j => (m_would K S j4 (nI j)).1) 7 0 (dF (fun j => m_ofCrane K S j4 (nI j)) 15 0 n4)) * 31) + (((m_field K S j4).1).toInt64)) * 31) + (((m_swing K S j4 0).1).toInt64)) * 31)]) (show (m_swing K ((m_swing K ((m_field K T6z j4).2) j4 0).2) j4 1).1 = (m_swing K S j4 1).1 from (hO ((m_swing K ((m_field K T6z j4).2) j4 0).2) ⟨g4.1.1, g4.1.2.1, g4.1.2.2⟩ (QS.tr (QS.tr hT6z.2 g3.2) g4.2)).2.2.2.2.2.1 _ _ (by omega))) rfl ?_
      refine j_i2l M dX7_digest_199 ?_
      refine j_ladd M dX7_digest_200 ?_
      refine j_lstore_n (lv' := [(1, .long (((((((dF (fun j => (m_would K S j4 (nI j)).1) 7 0 (dF (fun j => m_ofCrane K S j4 (nI j)) 15 0 n4)) * 31) + (((m_field K S j4).1).toInt64)) * 31) + (((m_swing K S j4 0).1).toInt64)) * 31) + (((m_swing K S j4 1).1).toInt64))), (0, .ref (K 0)), (3, .int (nI j4))]) M dX7_digest_201 rfl (by decide) rfl ?_
      refine j_iinc (v := (nI (j4 + 1))) (lv' := [(3, .int (nI (j4 + 1))), (1, .long (((((((dF (fun j => (m_would K S j4 (nI j)).1) 7 0 (dF (fun j => m_ofCrane K S j4 (nI j)) 15 0 n4)) * 31) + (((m_field K S j4).1).toInt64)) * 31) + (((m_swing K S j4 0).1).toInt64)) * 31) + (((m_swing K S j4 1).1).toInt64))), (0, .ref (K 0))]) M dX7_digest_202 rfl (nI_1 _) (by decide) rfl ?_
      refine j_goto (tgt := 85) M dX7_digest_205 (by decide) ?_
      refine j_pick [2, 1, 0] rfl ?_
      exact ih4 (j4 + 1) ((m_swing K ((m_swing K ((m_field K T6z j4).2) j4 0).2) j4 1).2) (((((((dF (fun j => (m_would K S j4 (nI j)).1) 7 0 (dF (fun j => m_ofCrane K S j4 (nI j)) 15 0 n4)) * 31) + (((m_field K S j4).1).toInt64)) * 31) + (((m_swing K S j4 0).1).toInt64)) * 31) + (((m_swing K S j4 1).1).toInt64)) (by omega) ⟨⟨g5.1.1, g5.1.2.1, g5.1.2.2⟩, (QS.tr (QS.tr (QS.tr hT6z.2 g3.2) g4.2) g5.2)⟩ Kx4
  refine j_pick (lv' := [(0, .ref (K 0)), (1, .long (dG (d_cell K S) N 0 (dF (fun j => (m_many K S (nI j)).1) 15 0 8821))), (3, .int (nI 0))]) [1, 2, 0] rfl ?_
  refine lp4 (sZ S (K 13)) 0 T2z (dG (d_cell K S) N 0 (dF (fun j => (m_many K S (nI j)).1) 15 0 8821)) (by omega) ⟨⟨hT2z.1.1, hT2z.1.2.1, hT2z.1.2.2⟩, hT2z.2⟩ (fun T4z hT4z => ?_)
  have hO4z := hO T4z hT4z.1 hT4z.2
  have hz134z := hT4z.2.1.z (K 13)
  have hz144z := hT4z.2.1.z (K 14)
  refine j_iconst (v := 0) M dX7_digest_208 (by decide) ?_
  refine j_istore_n (lv' := [(3, .int 0), (0, .ref (K 0)), (1, .long (dG (d_crane K S) (sZ S (K 13)) 0 (dG (d_cell K S) N 0 (dF (fun j => (m_many K S (nI j)).1) 15 0 8821))))]) M dX7_digest_209 rfl (by decide) rfl ?_
  have lp7 : ∀ (r7 j7 : Nat) (T7 : PS) (n7 : Int64), j7 + r7 = sZ S (K 14) → GW K T7 ∧ QS K S T7 → (∀ T2 : PS, GW K T2 ∧ QS K S T2 → J p l e { frames := 9, cells := 0, slots := 0, locals := 206 } s m ([.ref (K 0)] : List Value).toArray below meth c (MQ below (QC E (fun v u => v = some (.long (d_digest K S N)) ∧ GW K u ∧ QS K S u)) ([.ref (K 0)] : List Value).toArray s 0 0 (AE E)) E 5 260 [(0, .ref (K 0)), (1, .long (dG (d_load K S) r7 j7 n7))] [] T2 0 0) → J p l e { frames := 9, cells := 0, slots := 0, locals := 206 } s m ([.ref (K 0)] : List Value).toArray below meth c (MQ below (QC E (fun v u => v = some (.long (d_digest K S N)) ∧ GW K u ∧ QS K S u)) ([.ref (K 0)] : List Value).toArray s 0 0 (AE E)) E 5 210 [(0, .ref (K 0)), (1, .long n7), (3, .int (nI j7))] [] T7 0 0 := by
    intro r7
    induction r7 with
    | zero =>
      intro j7 T7 n7 hj7 hT7 Kx7
      have hO7 := hO T7 hT7.1 hT7.2
      have hz137 := hT7.2.1.z (K 13)
      have hz147 := hT7.2.1.z (K 14)
      have hc7 : m_cells K T7 = nI N := hO7.2.2.2.2.2.2.2.2.trans hcN
      refine j_iload_n M dX7_digest_210 rfl ?_
      refine j_aload_n M dX7_digest_211 rfl ?_
      refine j_get (v := .ref (K 1)) M hT7.1.1.k0.1 (pAt_7 E _ hT7.1.1.k0.2) rfl inU_X7 0 (by decide) wF_X7_17 (fun _ h => h) (rfv hT7.1.1.r48) dX7_digest_212 ?_
      refine j_getN (v := .ref (K 14)) M hT7.1.1.k1.1 (pAt_5 E _ hT7.1.1.k1.2) rfl inU_X5 4 (by decide) nF_X7_113 (fun _ h => h) (rfv hT7.1.1.r36) dX7_digest_215 ?_
      refine j_callV1 (As := []) (x := .int (nI (sZ T7 (K 14)))) M cf_size wM_X7_76 (c_size hT7.1.1.l14) hT7.1.1.l14.1.1 (pAt_8 E _ hT7.1.1.l14.1.2) rfl rfl ⟨Nat.le_of_ble_eq_true rfl, Nat.le_of_ble_eq_true rfl⟩ (Nat.le_of_ble_eq_true rfl) ⟨Nat.zero_le _, Nat.zero_le _⟩ dX7_digest_218 rfl ?_
      refine j_icmp_ge (tgt := 260) M dX7_digest_221 (by decide) (fun _ => ?_) (fun z => absurd (nI_le (by omega) (by omega)) z)
      refine j_pick [0, 1] rfl ?_
      exact Kx7 T7 hT7
    | succ r7 ih7 =>
      intro j7 T7 n7 hj7 hT7 Kx7
      have hO7 := hO T7 hT7.1 hT7.2
      have hz137 := hT7.2.1.z (K 13)
      have hz147 := hT7.2.1.z (K 14)
      have hc7 : m_cells K T7 = nI N := hO7.2.2.2.2.2.2.2.2.trans hcN
      refine j_iload_n M dX7_digest_210 rfl ?_
      refine j_aload_n M dX7_digest_211 rfl ?_
      refine j_get (v := .ref (K 1)) M hT7.1.1.k0.1 (pAt_7 E _ hT7.1.1.k0.2) rfl inU_X7 0 (by decide) wF_X7_17 (fun _ h => h) (rfv hT7.1.1.r48) dX7_digest_212 ?_
      refine j_getN (v := .ref (K 14)) M hT7.1.1.k1.1 (pAt_5 E _ hT7.1.1.k1.2) rfl inU_X5 4 (by decide) nF_X7_113 (fun _ h => h) (rfv hT7.1.1.r36) dX7_digest_215 ?_
      refine j_callV1 (As := []) (x := .int (nI (sZ T7 (K 14)))) M cf_size wM_X7_76 (c_size hT7.1.1.l14) hT7.1.1.l14.1.1 (pAt_8 E _ hT7.1.1.l14.1.2) rfl rfl ⟨Nat.le_of_ble_eq_true rfl, Nat.le_of_ble_eq_true rfl⟩ (Nat.le_of_ble_eq_true rfl) ⟨Nat.zero_le _, Nat.zero_le _⟩ dX7_digest_218 rfl ?_
      refine j_icmp_ge (tgt := 260) M dX7_digest_221 (by decide) (fun z => absurd z (nI_ge (by omega) (by omega))) (fun _ => ?_)
      refine j_iconst (v := 0) M dX7_digest_224 (by decide) ?_
      refine j_istore (lv' := [(4, .int 0), (0, .ref (K 0)), (1, .long n7), (3, .int (nI j7))]) M dX7_digest_225 (by decide) rfl ?_
      have lp8 : ∀ (r8 j8 : Nat) (T8 : PS) (n8 : Int64), j8 + r8 = 4 → GW K T8 ∧ QS K S T8 → (∀ T2 : PS, GW K T2 ∧ QS K S T2 → J p l e { frames := 9, cells := 0, slots := 0, locals := 206 } s m ([.ref (K 0)] : List Value).toArray below meth c (MQ below (QC E (fun v u => v = some (.long (d_digest K S N)) ∧ GW K u ∧ QS K S u)) ([.ref (K 0)] : List Value).toArray s 0 0 (AE E)) E 5 254 [(0, .ref (K 0)), (1, .long (dF (fun j => m_ofLoad K S j7 (nI j)) r8 j8 n8)), (3, .int (nI j7))] [] T2 0 0) → J p l e { frames := 9, cells := 0, slots := 0, locals := 206 } s m ([.ref (K 0)] : List Value).toArray below meth c (MQ below (QC E (fun v u => v = some (.long (d_digest K S N)) ∧ GW K u ∧ QS K S u)) ([.ref (K 0)] : List Value).toArray s 0 0 (AE E)) E 5 227 [(0, .ref (K 0)), (1, .long n8), (3, .int (nI j7)), (4, .int (nI j8))] [] T8 0 0 := by
        intro r8
        induction r8 with
        | zero =>
          intro j8 T8 n8 hj8 hT8 Kx8
          have hO8 := hO T8 hT8.1 hT8.2
          have hz138 := hT8.2.1.z (K 13)
          have hz148 := hT8.2.1.z (K 14)
          have hc8 : m_cells K T8 = nI N := hO8.2.2.2.2.2.2.2.2.trans hcN
          refine j_iload M dX7_digest_227 rfl ?_
          refine j_iconst (v := 3) M dX7_digest_229 (by decide) ?_
          refine j_icmp_gt (tgt := 254) M dX7_digest_230 (by decide) (fun _ => ?_) (fun z => absurd (show nI 3 < nI j8 from nI_lt (by omega) (by omega)) z)
          refine j_pick [0, 1, 2] rfl ?_
          exact Kx8 T8 hT8
        | succ r8 ih8 =>
          intro j8 T8 n8 hj8 hT8 Kx8
          have hO8 := hO T8 hT8.1 hT8.2
          have hz138 := hT8.2.1.z (K 13)
          have hz148 := hT8.2.1.z (K 14)
          have hc8 : m_cells K T8 = nI N := hO8.2.2.2.2.2.2.2.2.trans hcN
          refine j_iload M dX7_digest_227 rfl ?_
          refine j_iconst (v := 3) M dX7_digest_229 (by decide) ?_
          refine j_icmp_gt (tgt := 254) M dX7_digest_230 (by decide) (fun z => absurd z (show ¬ nI 3 < nI j8 from nI_nlt (by omega) (by omega))) (fun _ => ?_)
          refine j_lload_n M dX7_digest_233 rfl ?_
          refine j_ldc2 M wK_X7_355 dX7_digest_234 ?_
          refine j_lmul M dX7_digest_237 ?_
          refine j_aload_n M dX7_digest_238 rfl ?_
          refine j_iload_n M dX7_digest_239 rfl ?_
          refine j_iload M dX7_digest_240 rfl ?_
          refine j_callV1 (As := [.int (nI j7), .int (nI j8)]) M cf_X7_ofLoad wM_X7_376 (c_ofLoad (S := T8) hT8.1.1 hT8.1.2.1 hT8.1.2.2 (nI j8) (show j7 < sZ T8 (K 14) from by omega) (⟨(nI_pos (by omega)), (show ¬ nI 3 < nI j8 from nI_nlt (by omega) (by omega))⟩)) hT8.1.1.k0.1 (pAt_7 E _ hT8.1.1.k0.2) rfl rfl ⟨Nat.le_of_ble_eq_true rfl, Nat.le_of_ble_eq_true rfl⟩ (Nat.le_of_ble_eq_true rfl) ⟨Nat.zero_le _, Nat.zero_le _⟩ dX7_digest_242 rfl ?_
          refine j_eq (st2 := [.int (m_ofLoad K S j7 (nI j8)), .long (n8 * 31)]) rfl (congrArg (fun z => [Value.int z, .long (n8 * 31)]) (show m_ofLoad K T8 j7 (nI j8) = m_ofLoad K S j7 (nI j8) from hO8.2.2.2.2.2.2.1 _ _ (by omega))) rfl ?_
          refine j_i2l M dX7_digest_245 ?_
          refine j_ladd M dX7_digest_246 ?_
          refine j_lstore_n (lv' := [(1, .long ((n8 * 31) + ((m_ofLoad K S j7 (nI j8)).toInt64))), (0, .ref (K 0)), (3, .int (nI j7)), (4, .int (nI j8))]) M dX7_digest_247 rfl (by decide) rfl ?_
          refine j_iinc (v := (nI (j8 + 1))) (lv' := [(4, .int (nI (j8 + 1))), (1, .long ((n8 * 31) + ((m_ofLoad K S j7 (nI j8)).toInt64))), (0, .ref (K 0)), (3, .int (nI j7))]) M dX7_digest_248 rfl (nI_1 _) (by decide) rfl ?_
          refine j_goto (tgt := 227) M dX7_digest_251 (by decide) ?_
          refine j_pick [2, 1, 3, 0] rfl ?_
          exact ih8 (j8 + 1) T8 ((n8 * 31) + ((m_ofLoad K S j7 (nI j8)).toInt64)) (by omega) ⟨⟨hT8.1.1, hT8.1.2.1, hT8.1.2.2⟩, hT8.2⟩ Kx8
      refine j_pick (lv' := [(0, .ref (K 0)), (1, .long n7), (3, .int (nI j7)), (4, .int (nI 0))]) [1, 2, 3, 0] rfl ?_
      refine lp8 4 0 T7 n7 (by omega) ⟨⟨hT7.1.1, hT7.1.2.1, hT7.1.2.2⟩, hT7.2⟩ (fun T8z hT8z => ?_)
      have hO8z := hO T8z hT8z.1 hT8z.2
      have hz138z := hT8z.2.1.z (K 13)
      have hz148z := hT8z.2.1.z (K 14)
      refine j_iinc (v := (nI (j7 + 1))) (lv' := [(3, .int (nI (j7 + 1))), (0, .ref (K 0)), (1, .long (dF (fun j => m_ofLoad K S j7 (nI j)) 4 0 n7))]) M dX7_digest_254 rfl (nI_1 _) (by decide) rfl ?_
      refine j_goto (tgt := 210) M dX7_digest_257 (by decide) ?_
      refine j_pick [1, 2, 0] rfl ?_
      exact ih7 (j7 + 1) T8z (dF (fun j => m_ofLoad K S j7 (nI j)) 4 0 n7) (by omega) ⟨⟨hT8z.1.1, hT8z.1.2.1, hT8z.1.2.2⟩, hT8z.2⟩ Kx7
  refine j_pick (lv' := [(0, .ref (K 0)), (1, .long (dG (d_crane K S) (sZ S (K 13)) 0 (dG (d_cell K S) N 0 (dF (fun j => (m_many K S (nI j)).1) 15 0 8821)))), (3, .int (nI 0))]) [1, 2, 0] rfl ?_
  refine lp7 (sZ S (K 14)) 0 T4z (dG (d_crane K S) (sZ S (K 13)) 0 (dG (d_cell K S) N 0 (dF (fun j => (m_many K S (nI j)).1) 15 0 8821))) (by omega) ⟨⟨hT4z.1.1, hT4z.1.2.1, hT4z.1.2.2⟩, hT4z.2⟩ (fun T7z hT7z => ?_)
  have hO7z := hO T7z hT7z.1 hT7z.2
  have hz137z := hT7z.2.1.z (K 13)
  have hz147z := hT7z.2.1.z (K 14)
  refine j_lload_n M dX7_digest_260 rfl ?_
  refine j_ldc2 M wK_X7_355 dX7_digest_261 ?_
  refine j_lmul M dX7_digest_264 ?_
  refine j_aload_n M dX7_digest_265 rfl ?_
  refine j_callV1 (As := []) M cf_X7_isSound wM_X7_379 (c_isSound (S := T7z) hT7z.1.1 hT7z.1.2.1 hT7z.1.2.2) hT7z.1.1.k0.1 (pAt_7 E _ hT7z.1.1.k0.2) rfl rfl ⟨Nat.le_of_ble_eq_true rfl, Nat.le_of_ble_eq_true rfl⟩ (Nat.le_of_ble_eq_true rfl) ⟨Nat.zero_le _, Nat.zero_le _⟩ dX7_digest_266 rfl ?_
  refine j_eq (st2 := [.int (m_isSound K S), .long ((dG (d_load K S) (sZ S (K 14)) 0 (dG (d_crane K S) (sZ S (K 13)) 0 (dG (d_cell K S) N 0 (dF (fun j => (m_many K S (nI j)).1) 15 0 8821)))) * 31)]) rfl (congrArg (fun z => [Value.int z, .long ((dG (d_load K S) (sZ S (K 14)) 0 (dG (d_crane K S) (sZ S (K 13)) 0 (dG (d_cell K S) N 0 (dF (fun j => (m_many K S (nI j)).1) 15 0 8821)))) * 31)]) (show m_isSound K T7z = m_isSound K S from hO7z.2.2.2.2.2.2.2.1)) rfl ?_
  refine j_if_eq (tgt := 276) M dX7_digest_269 (by decide) (fun c1 => ?_) (fun c1 => ?_)
  · refine j_iconst (v := 0) M dX7_digest_276 (by decide) ?_
    refine j_i2l M dX7_digest_277 ?_
    refine j_ladd M dX7_digest_278 ?_
    exact j_lret (v := (((dG (d_load K S) (sZ S (K 14)) 0 (dG (d_crane K S) (sZ S (K 13)) 0 (dG (d_cell K S) N 0 (dF (fun j => (m_many K S (nI j)).1) 15 0 8821)))) * 31) + ((0 : Int32).toInt64))) M dX7_digest_279 (Nat.le_refl _) (Nat.le_refl _) ⟨(by unfold d_digest; rw [if_pos c1]), ⟨hT7z.1.1, hT7z.1.2.1, hT7z.1.2.2⟩, hT7z.2⟩
  · refine j_iconst (v := 1) M dX7_digest_272 (by decide) ?_
    refine j_goto (tgt := 277) M dX7_digest_273 (by decide) ?_
    refine j_i2l M dX7_digest_277 ?_
    refine j_ladd M dX7_digest_278 ?_
    exact j_lret (v := (((dG (d_load K S) (sZ S (K 14)) 0 (dG (d_crane K S) (sZ S (K 13)) 0 (dG (d_cell K S) N 0 (dF (fun j => (m_many K S (nI j)).1) 15 0 8821)))) * 31) + ((1 : Int32).toInt64))) M dX7_digest_279 (Nat.le_refl _) (Nat.le_refl _) ⟨(by unfold d_digest; rw [if_neg c1]), ⟨hT7z.1.1, hT7z.1.2.1, hT7z.1.2.2⟩, hT7z.2⟩
