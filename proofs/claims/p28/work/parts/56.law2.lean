/-! the law's isAsked -/
theorem dF_ext {V W : Nat → Int32} : ∀ (r j : Nat) (n : Int64), (∀ i, j ≤ i → i < j + r → V i = W i) → dF V r j n = dF W r j n
  | 0, j, n, _ => rfl
  | r + 1, j, n, h => by
    simp only [dF]
    rw [h j (Nat.le_refl _) (by omega), dF_ext r (j + 1) _ (fun i h1 h2 => h i (by omega) (by omega))]
theorem dG_ext {V W : Nat → Int64 → Int64} : ∀ (r j : Nat) (n : Int64), (∀ i n, j ≤ i → i < j + r → V i n = W i n) → dG V r j n = dG W r j n
  | 0, j, n, _ => rfl
  | r + 1, j, n, h => by
    simp only [dG]
    rw [h j n (Nat.le_refl _) (by omega), dG_ext r (j + 1) _ (fun i n h1 h2 => h i n (by omega) (by omega))]
section ASK
variable {E : EV} {K : Nat → Nat} {S T : PS} {N k C : Nat}
theorem d_eq (h : IV E K S N) (g : GW K T ∧ QS K S T) : d_digest K T C = d_digest K S C := by
  obtain ⟨o1, o2, o3, o4, o5, o6, o7, o8, o9⟩ := h.obs T g.1 g.2
  have z13 := g.2.1.z (K 13)
  have z14 := g.2.1.z (K 14)
  unfold d_digest
  rw [z13, z14, o8, dF_ext 15 0 8821 (V := fun j => (m_many K T (nI j)).1) (W := fun j => (m_many K S (nI j)).1) (fun i _ _ => o1 _)]
  rw [dG_ext C 0 _ (V := d_cell K T) (W := d_cell K S) (fun i n _ _ => by unfold d_cell; exact dF_ext _ _ _ (fun j _ _ => o2 _ _))]
  rw [dG_ext (sZ S (K 13)) 0 _ (V := d_crane K T) (W := d_crane K S) (fun i n _ hi => by
    unfold d_crane
    rw [dF_ext 15 0 n (V := fun j => m_ofCrane K T i (nI j)) (W := fun j => m_ofCrane K S i (nI j)) (fun j _ _ => o3 _ _ (by omega)), dF_ext 7 0 _ (V := fun j => (m_would K T i (nI j)).1) (W := fun j => (m_would K S i (nI j)).1) (fun j _ _ => o4 _ _ (by omega)), o5 i (by omega), o6 i 0 (by omega), o6 i 1 (by omega)])]
  rw [dG_ext (sZ S (K 14)) 0 _ (V := d_load K T) (W := d_load K S) (fun i n _ hi => by unfold d_load; exact dF_ext _ _ _ (fun j _ _ => o7 _ _ (by omega)))]
theorem field_cr {k : Nat} : (m_field K S k).1 = (m_explore K S (cr K S k)).1 := by unfold cr; simp only [m_field]
theorem way_cr {k : Nat} {x : Int32} : (m_way K S k x).1 = m_stepsTo K (m_explore K S (cr K S k)).2 x := by unfold cr; simp only [m_way]
theorem swing_c0 {k : Nat} : (m_swing K S k 0).1 = (m_swings K S (cr K S k) 0).1 := by unfold cr m_swing; rw [if_pos rfl]
theorem swing_c1 {k : Nat} : (m_swing K S k 1).1 = (m_swings K S (cr K S k) 1).1 := by unfold cr m_swing; rw [if_neg (by decide)]
theorem swings_7 {a : Nat} {x : Int32} : ∃ s, s ≤ 7 ∧ (m_swings K S a x).1 = nI s := by unfold m_swings; exact sw_7 7 0 _ rfl
/-- what field, way and swing answer, at any state that asking leaves -/
theorem ask_at (h : IV E K S N) (hk : k < sZ S (K 13)) : ∃ f R s : Nat, (m_field K S k).1 = nI f ∧ (1 ≤ f ∧ f ≤ 8 * R ∧ R ≤ 9) ∧ m_ofCrane K S k 2 = nI R ∧ (s ≤ 7 ∧ s + 1 ≤ f) ∧ (m_swing K S k 0).1 = nI s ∧
    ∀ T, GW K T ∧ QS K S T → (m_way K T k (m_ofCrane K S k 10)).1 = 0 ∧ (m_way K T k (m_ofCrane K S k 0)).1 = -1 ∧ (∀ x, ¬ nI f ≤ (m_way K T k x).1 ∧ ¬ (m_way K T k x).1 < -1) ∧ (m_swing K T k 1).1 ≤ 7 := by
  obtain ⟨b0, r0, R, t, ca⟩ := (h.c hk).ca h.y
  obtain ⟨f, e1, f1, f8, -, -, -⟩ := way_at h.kd h.g h.to h.y ca
  obtain ⟨s, f2, s1, s2, s3, s4, s5⟩ := swing_at h.kd h.g h.to h.y ca
  have hR9 := ca.2.2.2.1.2
  have hf2 : f2 = f := by rw [e1] at s3; exact ((nI_eq (by omega) (by omega)).mp s3).symm
  subst hf2
  have fE : (m_field K S k).1 = nI f2 := by rw [field_cr]; exact e1
  refine ⟨f2, R, s, fE, ⟨f1, f8, hR9⟩, ?_, ⟨s2, s4⟩, ?_, fun T g => ?_⟩
  · rw [(ofCrane_at (K := K) (S := S) (k := k)).2.2.1, ← Int32.toInt_inj, nI_toInt (by omega)]
    exact ca.2.2.2.1.1
  · rw [swing_c0]; exact s1
  · have hT := h.qs g.1 g.2
    have ag := g.2.ag h.kd
    have hkT : k < sZ T (K 13) := by rw [ag.z]; exact hk
    obtain ⟨b1, r1, R1, t1, ct⟩ := (hT.c hkT).ca hT.y
    obtain ⟨fT, w1, w2, w3, w4, w5, w6⟩ := way_at hT.kd hT.g hT.to hT.y ct
    have hR1 := ct.2.2.2.1.2
    have eT : (m_field K T k).1 = nI fT := by rw [field_cr]; exact w1
    have hff : fT = f2 := by
      have := (h.obs T g.1 g.2).2.2.2.2.1 k hk
      rw [eT, fE] at this
      exact (nI_eq (by omega) (by omega)).mp this
    subst hff
    have o10 : m_plumb K T (cr K T k) = m_ofCrane K S k 10 := by
      rw [← (h.obs T g.1 g.2).2.2.1 k 10 hk]; exact (ofCrane_at (K := K) (S := T) (k := k)).2.2.2.2.2.2.1.symm
    have o0 : sI T 2 (cr K T k) = m_ofCrane K S k 0 := by
      rw [← (h.obs T g.1 g.2).2.2.1 k 0 hk]; exact (ofCrane_at (K := K) (S := T) (k := k)).1.symm
    have wy : ∀ x, (m_way K T k x).1 = m_stepsTo K (m_explore K T (cr K T k)).2 x := fun x => way_cr
    refine ⟨by rw [wy, ← o10]; exact w4, by rw [wy, ← o0]; exact w5, fun x => ?_, ?_⟩
    · rw [wy]
      rcases w6 x with e | ⟨s, hs, e⟩
      · rw [e]
        refine ⟨fun q => ?_, by decide⟩
        rw [Int32.le_iff_toInt_le, nI_toInt (by omega), ti_m1] at q
        omega
      · rw [e]
        refine ⟨nI_ge hs (by omega), fun q => ?_⟩
        rw [Int32.lt_iff_toInt_lt, nI_toInt (by omega), ti_m1] at q
        omega
    · obtain ⟨q, q1, q2⟩ := swings_7 (K := K) (S := T) (a := cr K T k) (x := 1)
      rw [swing_c1, q2]
      exact nI_le (b := 7) q1 (by decide)
/-- the cranes that have gone, as bits -/
def gS (K : Nat → Nat) (S : PS) (j : Nat) : Int32 := ms (fun i => decide (i ∈ (ord K S).take j))
theorem or4_one : ∀ b0 b1 b2 b3 : Bool, (or4 b0 b1 b2 b3 ||| (1 <<< ((nI 0) &&& 31)) = or4 true b1 b2 b3) ∧ (or4 b0 b1 b2 b3 ||| (1 <<< ((nI 1) &&& 31)) = or4 b0 true b2 b3) ∧ (or4 b0 b1 b2 b3 ||| (1 <<< ((nI 2) &&& 31)) = or4 b0 b1 true b3) ∧ (or4 b0 b1 b2 b3 ||| (1 <<< ((nI 3) &&& 31)) = or4 b0 b1 b2 true) := by decide +kernel
theorem ord_4 (h : IV E K S N) {j : Nat} (hj : j < (ord K S).length) : (ord K S).getD j 0 < 4 ∧ (ord K S).getD j 0 ∈ ord K S := by
  have e : (ord K S).getD j 0 = (ord K S)[j] := by rw [List.getD_eq_getElem?_getD, List.getElem?_eq_getElem hj]; rfl
  rw [e]
  have m := List.getElem_mem hj
  have := ord_mem m
  have := h.n4
  exact ⟨by omega, m⟩
theorem g_step (h : IV E K S N) {j : Nat} (hj : j < (ord K S).length) : gS K S j ||| (1 <<< ((nI ((ord K S).getD j 0)) &&& 31)) = gS K S (j + 1) := by
  have e : (ord K S).getD j 0 = (ord K S)[j] := by rw [List.getD_eq_getElem?_getD, List.getElem?_eq_getElem hj]; rfl
  obtain ⟨k4, -⟩ := ord_4 h hj
  have tk : ∀ i, (i ∈ (ord K S).take (j + 1)) ↔ (i ∈ (ord K S).take j ∨ i = (ord K S).getD j 0) := fun i => by
    rw [List.take_succ_eq_append_getElem hj, List.mem_append, List.mem_singleton, e]
  generalize hg : (ord K S).getD j 0 = k at k4 tk
  have o := or4_one (decide (0 ∈ (ord K S).take j)) (decide (1 ∈ (ord K S).take j)) (decide (2 ∈ (ord K S).take j)) (decide (3 ∈ (ord K S).take j))
  unfold gS ms
  simp only [tk]
  have : k = 0 ∨ k = 1 ∨ k = 2 ∨ k = 3 := by omega
  rcases this with rfl | rfl | rfl | rfl
  · rw [o.1]; simp
  · rw [o.2.1]; simp
  · rw [o.2.2.1]; simp
  · rw [o.2.2.2]; simp
theorem g_new (h : IV E K S N) {j : Nat} (hj : j < (ord K S).length) : ¬ (((gS K S j >>> ((nI ((ord K S).getD j 0)) &&& 31)) &&& 1) = 1) := by
  have e : (ord K S).getD j 0 = (ord K S)[j] := by rw [List.getD_eq_getElem?_getD, List.getElem?_eq_getElem hj]; rfl
  obtain ⟨k4, -⟩ := ord_4 h hj
  have nd : (ord K S).getD j 0 ∉ (ord K S).take j := fun hm => by
    have hd : (ord K S).Nodup := tdl_nodup 4 _
    rw [e] at hm
    obtain ⟨i, hi, ei⟩ := List.getElem_of_mem hm
    rw [List.length_take] at hi
    rw [List.getElem_take] at ei
    exact absurd (List.pairwise_iff_getElem.mp hd i j (by omega) hj (by omega)) (fun q => q ei)
  unfold gS
  rw [ms_bit _ k4, if_neg (fun e2 => nd (of_decide_eq_true e2))]
  decide
theorem g_all (h : IV E K S N) (hk : k < sZ S (K 13)) (h8 : ¬ 8 < m_ofCrane K S k 1) : ¬ (((gS K S (ord K S).length >>> ((nI k) &&& 31)) &&& 1) = 0) := by
  have n4 := h.n4
  rw [(ofCrane_at (K := K) (S := S) (k := k)).2.1] at h8
  have hm : k ∈ ord K S := by
    refine tdl_all (k := k) (by omega) (fun b hb => ?_) 4 _ (by rw [cn_stn n4]; exact n4) (decide_eq_true hk)
    unfold tkf
    rw [if_pos hk]
    exact takers_own n4 (by omega) h8 (h.c hk).1.2.2 b hb
  unfold gS
  rw [ms_bit _ (by omega), List.take_length, if_pos (by simp [hm])]
  decide
theorem min7 {s : Nat} (hs : s ≤ 7) : 1 + imin 7 (nI s) = nI (s + 1) := by
  have : ∀ s, s ≤ 7 → 1 + imin 7 (nI s) = nI (s + 1) := by
    intro s hs
    have : s = 0 ∨ s = 1 ∨ s = 2 ∨ s = 3 ∨ s = 4 ∨ s = 5 ∨ s = 6 ∨ s = 7 := by omega
    rcases this with rfl | rfl | rfl | rfl | rfl | rfl | rfl | rfl <;> decide
  exact this s hs
theorem mul8 : ∀ R, R ≤ 9 → 8 * nI R = nI (8 * R) := by
  intro R hR
  have : R = 0 ∨ R = 1 ∨ R = 2 ∨ R = 3 ∨ R = 4 ∨ R = 5 ∨ R = 6 ∨ R = 7 ∨ R = 8 ∨ R = 9 := by omega
  rcases this with rfl | rfl | rfl | rfl | rfl | rfl | rfl | rfl | rfl | rfl <;> decide
theorem below_in {v : Int32} {n : Nat} (hn : 0 < n) (hn2 : n < 2 ^ 31) : ∃ r : Nat, r < n ∧ m_below K S v (nI n) = nI r := by
  obtain ⟨j, hj, e⟩ := pk_andE v (m := 2147483647) 31 (by decide)
  refine ⟨j % n, Nat.mod_lt _ hn, ?_⟩
  unfold m_below
  rw [e]
  have hm := Nat.div_add_mod j n
  have hml := Nat.mod_lt j hn
  have hq : j / n ≤ j := Nat.div_le_self _ _
  have hqn : n * (j / n) ≤ j := by omega
  have d : nI j / nI n = nI (j / n) := by
    rw [← Int32.toInt_inj, Int32.toInt_div_of_ne_right _ _ (fun e => by have := congrArg Int32.toInt e; rw [nI_toInt hn2, ti_m1] at this; omega), nI_toInt hj, nI_toInt hn2, nI_toInt (by omega)]
    rfl
  have e2 : (nI (j / n) * nI n).toInt = ((n * (j / n) : Nat) : Int) := by
    have ec : ((j / n : Nat) : Int) * (n : Int) = ((n * (j / n) : Nat) : Int) := by rw [Int.mul_comm, Int.natCast_mul]
    rw [ti_mul (by rw [nI_toInt (by omega), nI_toInt hn2, ec]; omega) (by rw [nI_toInt (by omega), nI_toInt hn2, ec]; omega), nI_toInt (by omega), nI_toInt hn2, ec]
  rw [d, ← Int32.toInt_inj, ti_sub (by rw [e2, nI_toInt hj]; omega) (by rw [e2, nI_toInt hj]; omega), e2, nI_toInt hj, nI_toInt (by omega)]
  omega
theorem many13 (h : IV E K S N) : (m_many K S 13).1 = nI (ord K S).length := by
  have e : (m_many K S 13).1 = (m_takeDown K S).1 := by simp [m_many]
  rw [e, (td_at h.kd h.g.1 h.to).1]
theorem lcmp0 (x : Int64) : lg_cmp x x = 0 := by unfold lg_cmp; simp
end ASK

theorem cf_L_isAsked : CFs yL_isAsked cL_isAsked 8 (some .boolean) 3 := ⟨wC_L_isAsked, wS_L_isAsked, wN_L, by decide +kernel⟩
set_option maxHeartbeats 4000000 in
set_option maxRecDepth 100000 in
theorem c_isAsked {l : Launch} {E : EV} {K : Nat → Nat} {S : PS} (hW : WS K S) (hA : AW S) (hM : WM S) (x : Int32) {C : Nat} {N : Nat} (h : IV E K S N) (hC0 : 0 < C) (hC6 : C ≤ 196) (hcC : m_cells K S = nI C) : CT l yL_isAsked cL_isAsked 8 (some .boolean) 10 230 0 0 E [.ref (K 0), .int x, .int (nI C)] S (fun v u => v = some (.int 1) ∧ GW K u ∧ QS K S u) := by
  have hz13 := h.n4
  have g0 : GW K S ∧ QS K S S := ⟨h.g, QS.rf⟩
  have hol := ord_len h.g.1
  refine CT.of (by decide) (Nat.le_of_ble_eq_true rfl) ?_
  intro p e s m below meth c M hin
  have M : MC E p s m _ meth c cL_isAsked RL 8 (some .boolean) := M
  show J p l e _ s m _ below meth c _ E 8 0 [(0, .ref (K 0)), (1, .int x), (2, .int (nI C))] [] S 0 0
  have hz_S : sZ S (K 13) = sZ S (K 13) := g0.2.1.z (K 13)
  have iv_S := h.qs g0.1 g0.2
  have ob_S := h.obs S g0.1 g0.2
  refine j_aload_n M dL_isAsked_0 rfl ?_
  refine j_callV (As := []) M cf_X7_digest wM_L_111 (c_digest (S := S) hW hA hM iv_S.obs hC6 (by rw [ob_S.2.2.2.2.2.2.2.2]; exact hcC)) hW.k0.1 (pAt_7 E _ hW.k0.2) rfl rfl ⟨Nat.le_of_ble_eq_true rfl, Nat.le_of_ble_eq_true rfl⟩ (Nat.le_of_ble_eq_true rfl) ⟨Nat.zero_le _, Nat.zero_le _⟩ dL_isAsked_1 rfl (fun v U1 hu => ?_)
  obtain ⟨rfl, hu2⟩ := hu
  have gu1 : GW K U1 ∧ QS K S U1 := ⟨hu2.1, g0.2.tr hu2.2⟩
  refine j_eq (st2 := [.long (d_digest K S C)]) rfl (by rw [d_eq h g0]; rfl) rfl ?_
  have hz_U1 : sZ U1 (K 13) = sZ S (K 13) := gu1.2.1.z (K 13)
  have iv_U1 := h.qs gu1.1 gu1.2
  have ob_U1 := h.obs U1 gu1.1 gu1.2
  refine j_lstore_n (lv' := [(3, .long (d_digest K S C)), (0, .ref (K 0)), (1, .int x), (2, .int (nI C))]) M dL_isAsked_4 rfl (by decide) rfl ?_
  refine j_iconst (v := 0) M dL_isAsked_5 (by decide) ?_
  refine j_istore (lv' := [(5, .int 0), (3, .long (d_digest K S C)), (0, .ref (K 0)), (1, .int x), (2, .int (nI C))]) M dL_isAsked_6 (by decide) rfl ?_
  have lp1 : (∀ V : PS, GW K V ∧ QS K S V → J p l e { frames := 10, cells := 0, slots := 0, locals := 230 } s m ([.ref (K 0), .int x, .int (nI C)] : List Value).toArray below meth c (MQ below (QC E (fun v u => v = some (.int 1) ∧ GW K u ∧ QS K S u)) ([.ref (K 0), .int x, .int (nI C)] : List Value).toArray s 0 0 (AE E)) E 8 150 [(0, .ref (K 0)), (1, .int x), (2, .int (nI C)), (3, .long (d_digest K S C))] [] V 0 0) → ∀ (r1 j1 : Nat) (T1 : PS), j1 + r1 = sZ S (K 13) → GW K T1 ∧ QS K S T1 → J p l e { frames := 10, cells := 0, slots := 0, locals := 230 } s m ([.ref (K 0), .int x, .int (nI C)] : List Value).toArray below meth c (MQ below (QC E (fun v u => v = some (.int 1) ∧ GW K u ∧ QS K S u)) ([.ref (K 0), .int x, .int (nI C)] : List Value).toArray s 0 0 (AE E)) E 8 8 [(0, .ref (K 0)), (1, .int x), (2, .int (nI C)), (3, .long (d_digest K S C)), (5, .int (nI j1))] [] T1 0 0 := by
    intro KX1 r1
    induction r1 with
    | zero =>
      intro j1 T1 hj1 g1
      have hz_T1 : sZ T1 (K 13) = sZ S (K 13) := g1.2.1.z (K 13)
      have iv_T1 := h.qs g1.1 g1.2
      have ob_T1 := h.obs T1 g1.1 g1.2
      have e1 : j1 = sZ S (K 13) := by omega
      refine j_iload M dL_isAsked_8 rfl ?_
      refine j_aload_n M dL_isAsked_10 rfl ?_
      refine j_iconst (v := 3) M dL_isAsked_11 (by decide) ?_
      refine j_callV1 (As := [.int 3]) (x := .int (nI (sZ T1 (K 13)))) M cf_X7_many wM_L_25 (cm_3 (S := T1) g1.1.1 g1.1.2.1 g1.1.2.2) g1.1.1.k0.1 (pAt_7 E _ g1.1.1.k0.2) rfl rfl ⟨Nat.le_of_ble_eq_true rfl, Nat.le_of_ble_eq_true rfl⟩ (Nat.le_of_ble_eq_true rfl) ⟨Nat.zero_le _, Nat.zero_le _⟩ dL_isAsked_12 rfl ?_
      refine j_eq (st2 := [.int (nI (sZ S (K 13))), .int (nI j1)]) rfl (by rw [hz_T1]) rfl ?_
      refine j_icmp_ge (tgt := 150) M dL_isAsked_15 (by decide) (fun _ => ?_) (fun z => absurd (nI_le (by omega) (by omega)) z)
      refine j_pick (lv' := [(0, .ref (K 0)), (1, .int x), (2, .int (nI C)), (3, .long (d_digest K S C))]) [0, 1, 2, 3] rfl ?_
      refine j_eq (lv2 := [(0, .ref (K 0)), (1, .int x), (2, .int (nI C)), (3, .long (d_digest K S C))]) (by first | rfl | rw [e1]) rfl rfl ?_
      exact KX1 _ g1
    | succ r1 ih1 =>
      intro j1 T1 hj1 g1
      have hz_T1 : sZ T1 (K 13) = sZ S (K 13) := g1.2.1.z (K 13)
      have iv_T1 := h.qs g1.1 g1.2
      have ob_T1 := h.obs T1 g1.1 g1.2
      have hlt1 : j1 < sZ S (K 13) := by omega
      refine j_iload M dL_isAsked_8 rfl ?_
      refine j_aload_n M dL_isAsked_10 rfl ?_
      refine j_iconst (v := 3) M dL_isAsked_11 (by decide) ?_
      refine j_callV1 (As := [.int 3]) (x := .int (nI (sZ T1 (K 13)))) M cf_X7_many wM_L_25 (cm_3 (S := T1) g1.1.1 g1.1.2.1 g1.1.2.2) g1.1.1.k0.1 (pAt_7 E _ g1.1.1.k0.2) rfl rfl ⟨Nat.le_of_ble_eq_true rfl, Nat.le_of_ble_eq_true rfl⟩ (Nat.le_of_ble_eq_true rfl) ⟨Nat.zero_le _, Nat.zero_le _⟩ dL_isAsked_12 rfl ?_
      refine j_eq (st2 := [.int (nI (sZ S (K 13))), .int (nI j1)]) rfl (by rw [hz_T1]) rfl ?_
      refine j_icmp_ge (tgt := 150) M dL_isAsked_15 (by decide) (fun z => absurd z (nI_ge (by omega) (by omega))) (fun _ => ?_)
      refine j_aload_n M dL_isAsked_18 rfl ?_
      refine j_iload M dL_isAsked_19 rfl ?_
      obtain ⟨f1, R1, s1, ef, ⟨hf1, hf8, hR9⟩, eR, ⟨hs7, hsf⟩, es, hask⟩ := ask_at h (k := j1) (by omega)
      refine j_callV1 (As := [.int (nI j1)]) (x := .int (m_field K T1 j1).1) M cf_X7_field wM_L_115 (c_field (S := T1) g1.1.1 g1.1.2.1 g1.1.2.2 (show j1 < sZ T1 (K 13) by omega)) g1.1.1.k0.1 (pAt_7 E _ g1.1.1.k0.2) rfl rfl ⟨Nat.le_of_ble_eq_true rfl, Nat.le_of_ble_eq_true rfl⟩ (Nat.le_of_ble_eq_true rfl) ⟨Nat.zero_le _, Nat.zero_le _⟩ dL_isAsked_21 rfl ?_
      have ga2 := gq_field (S := T1) g1.1.1 g1.1.2.1 g1.1.2.2 (show j1 < sZ T1 (K 13) by omega)
      have gb2 : GW K (m_field K T1 j1).2 ∧ QS K S (m_field K T1 j1).2 := ⟨ga2.1, g1.2.tr ga2.2⟩
      have vb2 : (m_field K T1 j1).1 = nI f1 := ((ob_T1.2.2.2.2.1 j1 (by omega)).trans ef)
      refine j_eq (st2 := [.int (nI f1)]) rfl (by rw [vb2]) rfl ?_
      refine j_gen (fun U2 eU2 => ?_)
      have gu2 : GW K U2 ∧ QS K S U2 := by rw [eU2]; exact gb2
      clear eU2
      have hz_U2 : sZ U2 (K 13) = sZ S (K 13) := gu2.2.1.z (K 13)
      have iv_U2 := h.qs gu2.1 gu2.2
      have ob_U2 := h.obs U2 gu2.1 gu2.2
      refine j_istore (lv' := [(6, .int (nI f1)), (0, .ref (K 0)), (1, .int x), (2, .int (nI C)), (3, .long (d_digest K S C)), (5, .int (nI j1))]) M dL_isAsked_24 (by decide) rfl ?_
      refine j_aload_n M dL_isAsked_26 rfl ?_
      refine j_iload M dL_isAsked_27 rfl ?_
      refine j_aload_n M dL_isAsked_29 rfl ?_
      refine j_iload M dL_isAsked_30 rfl ?_
      refine j_bipush (v := 10) M dL_isAsked_32 (by decide) ?_
      refine j_callV1 (As := [.int (nI j1), .int 10]) (x := .int (m_ofCrane K U2 j1 10)) M cf_X7_ofCrane wM_L_49 (c_ofCrane (S := U2) gu2.1.1 gu2.1.2.1 gu2.1.2.2 10 (show j1 < sZ U2 (K 13) by omega) (by decide)) gu2.1.1.k0.1 (pAt_7 E _ gu2.1.1.k0.2) rfl rfl ⟨Nat.le_of_ble_eq_true rfl, Nat.le_of_ble_eq_true rfl⟩ (Nat.le_of_ble_eq_true rfl) ⟨Nat.zero_le _, Nat.zero_le _⟩ dL_isAsked_34 rfl ?_
      refine j_eq (st2 := [.int (m_ofCrane K S j1 10), .int (nI j1), .ref (K 0)]) rfl (by rw [ob_U2.2.2.1 j1 10 (by omega)]) rfl ?_
      refine j_callV1 (As := [.int (nI j1), .int (m_ofCrane K S j1 10)]) (x := .int (m_way K U2 j1 (m_ofCrane K S j1 10)).1) M cf_X7_way wM_L_118 (c_way (S := U2) gu2.1.1 gu2.1.2.1 gu2.1.2.2 (m_ofCrane K S j1 10) (show j1 < sZ U2 (K 13) by omega) (by rw [← ob_U2.2.2.1 j1 10 (by omega)]; exact ok_plumb iv_U2 (show j1 < sZ U2 (K 13) by omega))) gu2.1.1.k0.1 (pAt_7 E _ gu2.1.1.k0.2) rfl rfl ⟨Nat.le_of_ble_eq_true rfl, Nat.le_of_ble_eq_true rfl⟩ (Nat.le_of_ble_eq_true rfl) ⟨Nat.zero_le _, Nat.zero_le _⟩ dL_isAsked_37 rfl ?_
      have ga3 := gq_way (S := U2) gu2.1.1 gu2.1.2.1 gu2.1.2.2 (show j1 < sZ U2 (K 13) by omega) (m_ofCrane K S j1 10)
      have gb3 : GW K (m_way K U2 j1 (m_ofCrane K S j1 10)).2 ∧ QS K S (m_way K U2 j1 (m_ofCrane K S j1 10)).2 := ⟨ga3.1, gu2.2.tr ga3.2⟩
      have vb3 : (m_way K U2 j1 (m_ofCrane K S j1 10)).1 = 0 := (hask U2 gu2).1
      refine j_eq (st2 := [.int 0]) rfl (by rw [vb3]) rfl ?_
      refine j_gen (fun U3 eU3 => ?_)
      have gu3 : GW K U3 ∧ QS K S U3 := by rw [eU3]; exact gb3
      clear eU3
      have hz_U3 : sZ U3 (K 13) = sZ S (K 13) := gu3.2.1.z (K 13)
      have iv_U3 := h.qs gu3.1 gu3.2
      have ob_U3 := h.obs U3 gu3.1 gu3.2
      refine j_if_ne (tgt := 100) M dL_isAsked_40 (by decide) (fun z => absurd (by decide) z) (fun _ => ?_)
      refine j_aload_n M dL_isAsked_43 rfl ?_
      refine j_iload M dL_isAsked_44 rfl ?_
      refine j_aload_n M dL_isAsked_46 rfl ?_
      refine j_iload M dL_isAsked_47 rfl ?_
      refine j_iconst (v := 0) M dL_isAsked_49 (by decide) ?_
      refine j_callV1 (As := [.int (nI j1), .int 0]) (x := .int (m_ofCrane K U3 j1 0)) M cf_X7_ofCrane wM_L_49 (c_ofCrane (S := U3) gu3.1.1 gu3.1.2.1 gu3.1.2.2 0 (show j1 < sZ U3 (K 13) by omega) (by decide)) gu3.1.1.k0.1 (pAt_7 E _ gu3.1.1.k0.2) rfl rfl ⟨Nat.le_of_ble_eq_true rfl, Nat.le_of_ble_eq_true rfl⟩ (Nat.le_of_ble_eq_true rfl) ⟨Nat.zero_le _, Nat.zero_le _⟩ dL_isAsked_50 rfl ?_
      refine j_eq (st2 := [.int (m_ofCrane K S j1 0), .int (nI j1), .ref (K 0)]) rfl (by rw [ob_U3.2.2.1 j1 0 (by omega)]) rfl ?_
      refine j_callV1 (As := [.int (nI j1), .int (m_ofCrane K S j1 0)]) (x := .int (m_way K U3 j1 (m_ofCrane K S j1 0)).1) M cf_X7_way wM_L_118 (c_way (S := U3) gu3.1.1 gu3.1.2.1 gu3.1.2.2 (m_ofCrane K S j1 0) (show j1 < sZ U3 (K 13) by omega) (by rw [← ob_U3.2.2.1 j1 0 (by omega)]; exact ok_tower iv_U3 (show j1 < sZ U3 (K 13) by omega))) gu3.1.1.k0.1 (pAt_7 E _ gu3.1.1.k0.2) rfl rfl ⟨Nat.le_of_ble_eq_true rfl, Nat.le_of_ble_eq_true rfl⟩ (Nat.le_of_ble_eq_true rfl) ⟨Nat.zero_le _, Nat.zero_le _⟩ dL_isAsked_53 rfl ?_
      have ga4 := gq_way (S := U3) gu3.1.1 gu3.1.2.1 gu3.1.2.2 (show j1 < sZ U3 (K 13) by omega) (m_ofCrane K S j1 0)
      have gb4 : GW K (m_way K U3 j1 (m_ofCrane K S j1 0)).2 ∧ QS K S (m_way K U3 j1 (m_ofCrane K S j1 0)).2 := ⟨ga4.1, gu3.2.tr ga4.2⟩
      have vb4 : (m_way K U3 j1 (m_ofCrane K S j1 0)).1 = (-1) := (hask U3 gu3).2.1
      refine j_eq (st2 := [.int (-1)]) rfl (by rw [vb4]) rfl ?_
      refine j_gen (fun U4 eU4 => ?_)
      have gu4 : GW K U4 ∧ QS K S U4 := by rw [eU4]; exact gb4
      clear eU4
      have hz_U4 : sZ U4 (K 13) = sZ S (K 13) := gu4.2.1.z (K 13)
      have iv_U4 := h.qs gu4.1 gu4.2
      have ob_U4 := h.obs U4 gu4.1 gu4.2
      refine j_iconst (v := (-1)) M dL_isAsked_56 (by decide) ?_
      refine j_icmp_ne (tgt := 100) M dL_isAsked_57 (by decide) (fun z => absurd (by decide) z) (fun _ => ?_)
      refine j_iload M dL_isAsked_60 rfl ?_
      refine j_iconst (v := 1) M dL_isAsked_62 (by decide) ?_
      refine j_icmp_lt (tgt := 100) M dL_isAsked_63 (by decide) (fun z => absurd z (show ¬ nI f1 < nI 1 from nI_nlt hf1 (by omega))) (fun _ => ?_)
      refine j_iload M dL_isAsked_66 rfl ?_
      refine j_bipush (v := 8) M dL_isAsked_68 (by decide) ?_
      refine j_aload_n M dL_isAsked_70 rfl ?_
      refine j_iload M dL_isAsked_71 rfl ?_
      refine j_iconst (v := 2) M dL_isAsked_73 (by decide) ?_
      refine j_callV1 (As := [.int (nI j1), .int 2]) (x := .int (m_ofCrane K U4 j1 2)) M cf_X7_ofCrane wM_L_49 (c_ofCrane (S := U4) gu4.1.1 gu4.1.2.1 gu4.1.2.2 2 (show j1 < sZ U4 (K 13) by omega) (by decide)) gu4.1.1.k0.1 (pAt_7 E _ gu4.1.1.k0.2) rfl rfl ⟨Nat.le_of_ble_eq_true rfl, Nat.le_of_ble_eq_true rfl⟩ (Nat.le_of_ble_eq_true rfl) ⟨Nat.zero_le _, Nat.zero_le _⟩ dL_isAsked_74 rfl ?_
      refine j_eq (st2 := [.int (nI R1), .int 8, .int (nI f1)]) rfl (by rw [ob_U4.2.2.1 j1 2 (by omega), eR]) rfl ?_
      refine j_imul M dL_isAsked_77 ?_
      refine j_icmp_gt (tgt := 100) M dL_isAsked_78 (by decide) (fun z => absurd z (by rw [mul8 _ hR9]; exact nI_nlt hf8 (by omega))) (fun _ => ?_)
      refine j_iload M dL_isAsked_81 rfl ?_
      refine j_iconst (v := 1) M dL_isAsked_83 (by decide) ?_
      refine j_bipush (v := 7) M dL_isAsked_84 (by decide) ?_
      refine j_aload_n M dL_isAsked_86 rfl ?_
      refine j_iload M dL_isAsked_87 rfl ?_
      refine j_iconst (v := 0) M dL_isAsked_89 (by decide) ?_
      refine j_callV1 (As := [.int (nI j1), .int 0]) (x := .int (m_swing K U4 j1 0).1) M cf_X7_swing wM_L_121 (c_swing (S := U4) gu4.1.1 gu4.1.2.1 gu4.1.2.2 0 (show j1 < sZ U4 (K 13) by omega)) gu4.1.1.k0.1 (pAt_7 E _ gu4.1.1.k0.2) rfl rfl ⟨Nat.le_of_ble_eq_true rfl, Nat.le_of_ble_eq_true rfl⟩ (Nat.le_of_ble_eq_true rfl) ⟨Nat.zero_le _, Nat.zero_le _⟩ dL_isAsked_90 rfl ?_
      have ga5 := gq_swing (S := U4) gu4.1.1 gu4.1.2.1 gu4.1.2.2 (show j1 < sZ U4 (K 13) by omega) 0
      have gb5 : GW K (m_swing K U4 j1 0).2 ∧ QS K S (m_swing K U4 j1 0).2 := ⟨ga5.1, gu4.2.tr ga5.2⟩
      have vb5 : (m_swing K U4 j1 0).1 = nI s1 := ((ob_U4.2.2.2.2.2.1 j1 0 (by omega)).trans es)
      refine j_eq (st2 := [.int (nI s1), .int 7, .int 1, .int (nI f1)]) rfl (by rw [vb5]) rfl ?_
      refine j_gen (fun U5 eU5 => ?_)
      have gu5 : GW K U5 ∧ QS K S U5 := by rw [eU5]; exact gb5
      clear eU5
      have hz_U5 : sZ U5 (K 13) = sZ S (K 13) := gu5.2.1.z (K 13)
      have iv_U5 := h.qs gu5.1 gu5.2
      have ob_U5 := h.obs U5 gu5.1 gu5.2
      refine j_min M wM_L_125 dL_isAsked_93 (Nat.le_of_ble_eq_true rfl) (Nat.le_of_ble_eq_true rfl) ⟨Nat.zero_le _, Nat.zero_le _⟩ ?_
      refine j_iadd M dL_isAsked_96 ?_
      refine j_icmp_ge (tgt := 102) M dL_isAsked_97 (by decide) (fun _ => ?_) (fun z => absurd (by rw [min7 hs7]; exact nI_le hsf (by omega)) z)
      obtain ⟨bv, hb_lt, eb⟩ := below_in (K := K) (S := U5) (v := x >>> (3 &&& 31)) (n := C) (by omega) (by omega)
      refine j_aload_n M dL_isAsked_102 rfl ?_
      refine j_iload M dL_isAsked_103 rfl ?_
      refine j_iload_n M dL_isAsked_105 rfl ?_
      refine j_iconst (v := 3) M dL_isAsked_106 (by decide) ?_
      refine j_ishr M dL_isAsked_107 ?_
      refine j_iload_n M dL_isAsked_108 rfl ?_
      refine j_callS1 (As := [.int (x >>> (3 &&& 31)), .int (nI C)]) (x := .int (m_below K U5 (x >>> (3 &&& 31)) (nI C))) M cf_L_below wM_L_18 (c_below (S := U5) gu5.1.1 (x >>> (3 &&& 31)) (nI C) (nI_lt (a := 0) (by omega) (by omega))) rfl ⟨Nat.le_of_ble_eq_true rfl, Nat.le_of_ble_eq_true rfl⟩ (Nat.le_of_ble_eq_true rfl) ⟨Nat.zero_le _, Nat.zero_le _⟩ dL_isAsked_109 rfl ?_
      refine j_eq (st2 := [.int (nI bv), .int (nI j1), .ref (K 0)]) rfl (by rw [eb]) rfl ?_
      refine j_callV1 (As := [.int (nI j1), .int (nI bv)]) (x := .int (m_way K U5 j1 (nI bv)).1) M cf_X7_way wM_L_118 (c_way (S := U5) gu5.1.1 gu5.1.2.1 gu5.1.2.2 (nI bv) (show j1 < sZ U5 (K 13) by omega) (hasCell_ok (by rw [ob_U5.2.2.2.2.2.2.2.2]; exact hcC) (by omega) hb_lt)) gu5.1.1.k0.1 (pAt_7 E _ gu5.1.1.k0.2) rfl rfl ⟨Nat.le_of_ble_eq_true rfl, Nat.le_of_ble_eq_true rfl⟩ (Nat.le_of_ble_eq_true rfl) ⟨Nat.zero_le _, Nat.zero_le _⟩ dL_isAsked_112 rfl ?_
      have hw := (hask U5 gu5).2.2.1 (nI bv)
      obtain ⟨wv, ewv⟩ : ∃ z, z = (m_way K U5 j1 (nI bv)).1 := ⟨_, rfl⟩
      rw [← ewv] at hw
      have ga6 := gq_way (S := U5) gu5.1.1 gu5.1.2.1 gu5.1.2.2 (show j1 < sZ U5 (K 13) by omega) (nI bv)
      have gb6 : GW K (m_way K U5 j1 (nI bv)).2 ∧ QS K S (m_way K U5 j1 (nI bv)).2 := ⟨ga6.1, gu5.2.tr ga6.2⟩
      have vb6 : (m_way K U5 j1 (nI bv)).1 = wv := ewv.symm
      refine j_eq (st2 := [.int wv]) rfl (by rw [vb6]) rfl ?_
      refine j_gen (fun U6 eU6 => ?_)
      have gu6 : GW K U6 ∧ QS K S U6 := by rw [eU6]; exact gb6
      clear eU6
      have hz_U6 : sZ U6 (K 13) = sZ S (K 13) := gu6.2.1.z (K 13)
      have iv_U6 := h.qs gu6.1 gu6.2
      have ob_U6 := h.obs U6 gu6.1 gu6.2
      refine j_istore (lv' := [(7, .int wv), (6, .int (nI f1)), (0, .ref (K 0)), (1, .int x), (2, .int (nI C)), (3, .long (d_digest K S C)), (5, .int (nI j1))]) M dL_isAsked_115 (by decide) rfl ?_
      refine j_iload M dL_isAsked_117 rfl ?_
      refine j_iload M dL_isAsked_119 rfl ?_
      refine j_icmp_ge (tgt := 142) M dL_isAsked_121 (by decide) (fun z => absurd z hw.1) (fun _ => ?_)
      refine j_iload M dL_isAsked_124 rfl ?_
      refine j_iconst (v := (-1)) M dL_isAsked_126 (by decide) ?_
      refine j_icmp_lt (tgt := 142) M dL_isAsked_127 (by decide) (fun z => absurd z hw.2) (fun _ => ?_)
      refine j_aload_n M dL_isAsked_130 rfl ?_
      refine j_iload M dL_isAsked_131 rfl ?_
      refine j_iconst (v := 1) M dL_isAsked_133 (by decide) ?_
      refine j_callV1 (As := [.int (nI j1), .int 1]) (x := .int (m_swing K U6 j1 1).1) M cf_X7_swing wM_L_121 (c_swing (S := U6) gu6.1.1 gu6.1.2.1 gu6.1.2.2 1 (show j1 < sZ U6 (K 13) by omega)) gu6.1.1.k0.1 (pAt_7 E _ gu6.1.1.k0.2) rfl rfl ⟨Nat.le_of_ble_eq_true rfl, Nat.le_of_ble_eq_true rfl⟩ (Nat.le_of_ble_eq_true rfl) ⟨Nat.zero_le _, Nat.zero_le _⟩ dL_isAsked_134 rfl ?_
      have hsw := (hask U6 gu6).2.2.2
      obtain ⟨sv, esv⟩ : ∃ z, z = (m_swing K U6 j1 1).1 := ⟨_, rfl⟩
      rw [← esv] at hsw
      have ga7 := gq_swing (S := U6) gu6.1.1 gu6.1.2.1 gu6.1.2.2 (show j1 < sZ U6 (K 13) by omega) 1
      have gb7 : GW K (m_swing K U6 j1 1).2 ∧ QS K S (m_swing K U6 j1 1).2 := ⟨ga7.1, gu6.2.tr ga7.2⟩
      have vb7 : (m_swing K U6 j1 1).1 = sv := esv.symm
      refine j_eq (st2 := [.int sv]) rfl (by rw [vb7]) rfl ?_
      refine j_gen (fun U7 eU7 => ?_)
      have gu7 : GW K U7 ∧ QS K S U7 := by rw [eU7]; exact gb7
      clear eU7
      have hz_U7 : sZ U7 (K 13) = sZ S (K 13) := gu7.2.1.z (K 13)
      have iv_U7 := h.qs gu7.1 gu7.2
      have ob_U7 := h.obs U7 gu7.1 gu7.2
      refine j_bipush (v := 7) M dL_isAsked_137 (by decide) ?_
      refine j_icmp_le (tgt := 144) M dL_isAsked_139 (by decide) (fun _ => ?_) (fun z => absurd hsw z)
      refine j_iinc (v := (nI (j1 + 1))) (lv' := [(5, .int (nI (j1 + 1))), (7, .int wv), (6, .int (nI f1)), (0, .ref (K 0)), (1, .int x), (2, .int (nI C)), (3, .long (d_digest K S C))]) M dL_isAsked_144 rfl (nI_1 _) (by decide) rfl ?_
      refine j_goto (tgt := 8) M dL_isAsked_147 (by decide) ?_
      refine j_pick (lv' := [(0, .ref (K 0)), (1, .int x), (2, .int (nI C)), (3, .long (d_digest K S C)), (5, .int (nI (j1 + 1)))]) [3, 4, 5, 6, 0] rfl ?_
      exact ih1 (j1 + 1) _ (by omega) gu7
  refine j_pick (lv' := [(0, .ref (K 0)), (1, .int x), (2, .int (nI C)), (3, .long (d_digest K S C)), (5, .int 0)]) [2, 3, 4, 1, 0] rfl ?_
  refine j_eq (lv2 := [(0, .ref (K 0)), (1, .int x), (2, .int (nI C)), (3, .long (d_digest K S C)), (5, .int (nI 0))]) rfl rfl rfl ?_
  refine lp1 (fun V1 gV1 => ?_) (sZ S (K 13)) 0 _ (Nat.zero_add _) gu1
  have hz_V1 : sZ V1 (K 13) = sZ S (K 13) := gV1.2.1.z (K 13)
  have iv_V1 := h.qs gV1.1 gV1.2
  have ob_V1 := h.obs V1 gV1.1 gV1.2
  refine j_iconst (v := 0) M dL_isAsked_150 (by decide) ?_
  refine j_istore (lv' := [(5, .int 0), (0, .ref (K 0)), (1, .int x), (2, .int (nI C)), (3, .long (d_digest K S C))]) M dL_isAsked_151 (by decide) rfl ?_
  refine j_eq (lv2 := [(5, .int (gS K S 0)), (0, .ref (K 0)), (1, .int x), (2, .int (nI C)), (3, .long (d_digest K S C))]) (by rw [show gS K S 0 = 0 from by unfold gS; simp only [List.take_zero, List.not_mem_nil]; decide]) rfl rfl ?_
  refine j_iconst (v := 0) M dL_isAsked_153 (by decide) ?_
  refine j_istore (lv' := [(6, .int 0), (5, .int (gS K S 0)), (0, .ref (K 0)), (1, .int x), (2, .int (nI C)), (3, .long (d_digest K S C))]) M dL_isAsked_154 (by decide) rfl ?_
  have lp2 : (∀ V : PS, GW K V ∧ QS K S V → J p l e { frames := 10, cells := 0, slots := 0, locals := 230 } s m ([.ref (K 0), .int x, .int (nI C)] : List Value).toArray below meth c (MQ below (QC E (fun v u => v = some (.int 1) ∧ GW K u ∧ QS K S u)) ([.ref (K 0), .int x, .int (nI C)] : List Value).toArray s 0 0 (AE E)) E 8 208 [(0, .ref (K 0)), (1, .int x), (2, .int (nI C)), (3, .long (d_digest K S C)), (5, .int (gS K S ((ord K S).length)))] [] V 0 0) → ∀ (r2 j2 : Nat) (T2 : PS), j2 + r2 = (ord K S).length → GW K T2 ∧ QS K S T2 → J p l e { frames := 10, cells := 0, slots := 0, locals := 230 } s m ([.ref (K 0), .int x, .int (nI C)] : List Value).toArray below meth c (MQ below (QC E (fun v u => v = some (.int 1) ∧ GW K u ∧ QS K S u)) ([.ref (K 0), .int x, .int (nI C)] : List Value).toArray s 0 0 (AE E)) E 8 156 [(0, .ref (K 0)), (1, .int x), (2, .int (nI C)), (3, .long (d_digest K S C)), (5, .int (gS K S j2)), (6, .int (nI j2))] [] T2 0 0 := by
    intro KX2 r2
    induction r2 with
    | zero =>
      intro j2 T2 hj2 g2
      have hz_T2 : sZ T2 (K 13) = sZ S (K 13) := g2.2.1.z (K 13)
      have iv_T2 := h.qs g2.1 g2.2
      have ob_T2 := h.obs T2 g2.1 g2.2
      have e2 : j2 = (ord K S).length := by omega
      refine j_iload M dL_isAsked_156 rfl ?_
      refine j_aload_n M dL_isAsked_158 rfl ?_
      refine j_bipush (v := 13) M dL_isAsked_159 (by decide) ?_
      refine j_callV1 (As := [.int 13]) (x := .int (m_many K T2 13).1) M cf_X7_many wM_L_25 (c_many (S := T2) g2.1.1 g2.1.2.1 g2.1.2.2 13 (by decide)) g2.1.1.k0.1 (pAt_7 E _ g2.1.1.k0.2) rfl rfl ⟨Nat.le_of_ble_eq_true rfl, Nat.le_of_ble_eq_true rfl⟩ (Nat.le_of_ble_eq_true rfl) ⟨Nat.zero_le _, Nat.zero_le _⟩ dL_isAsked_161 rfl ?_
      have ga8 := gq_many (S := T2) g2.1.1 g2.1.2.1 g2.1.2.2 13
      have gb8 : GW K (m_many K T2 13).2 ∧ QS K S (m_many K T2 13).2 := ⟨ga8.1, g2.2.tr ga8.2⟩
      have vb8 : (m_many K T2 13).1 = nI (ord K S).length := (by rw [ob_T2.1 13]; exact many13 h)
      refine j_eq (st2 := [.int (nI (ord K S).length), .int (nI j2)]) rfl (by rw [vb8]) rfl ?_
      refine j_gen (fun U8 eU8 => ?_)
      have gu8 : GW K U8 ∧ QS K S U8 := by rw [eU8]; exact gb8
      clear eU8
      have hz_U8 : sZ U8 (K 13) = sZ S (K 13) := gu8.2.1.z (K 13)
      have iv_U8 := h.qs gu8.1 gu8.2
      have ob_U8 := h.obs U8 gu8.1 gu8.2
      refine j_icmp_ge (tgt := 208) M dL_isAsked_164 (by decide) (fun _ => ?_) (fun z => absurd (nI_le (by omega) (by omega)) z)
      refine j_pick (lv' := [(0, .ref (K 0)), (1, .int x), (2, .int (nI C)), (3, .long (d_digest K S C)), (5, .int (gS K S j2))]) [0, 1, 2, 3, 4] rfl ?_
      refine j_eq (lv2 := [(0, .ref (K 0)), (1, .int x), (2, .int (nI C)), (3, .long (d_digest K S C)), (5, .int (gS K S ((ord K S).length)))]) (by first | rfl | rw [e2]) rfl rfl ?_
      exact KX2 _ gu8
    | succ r2 ih2 =>
      intro j2 T2 hj2 g2
      have hz_T2 : sZ T2 (K 13) = sZ S (K 13) := g2.2.1.z (K 13)
      have iv_T2 := h.qs g2.1 g2.2
      have ob_T2 := h.obs T2 g2.1 g2.2
      have hlt2 : j2 < (ord K S).length := by omega
      refine j_iload M dL_isAsked_156 rfl ?_
      refine j_aload_n M dL_isAsked_158 rfl ?_
      refine j_bipush (v := 13) M dL_isAsked_159 (by decide) ?_
      refine j_callV1 (As := [.int 13]) (x := .int (m_many K T2 13).1) M cf_X7_many wM_L_25 (c_many (S := T2) g2.1.1 g2.1.2.1 g2.1.2.2 13 (by decide)) g2.1.1.k0.1 (pAt_7 E _ g2.1.1.k0.2) rfl rfl ⟨Nat.le_of_ble_eq_true rfl, Nat.le_of_ble_eq_true rfl⟩ (Nat.le_of_ble_eq_true rfl) ⟨Nat.zero_le _, Nat.zero_le _⟩ dL_isAsked_161 rfl ?_
      have ga9 := gq_many (S := T2) g2.1.1 g2.1.2.1 g2.1.2.2 13
      have gb9 : GW K (m_many K T2 13).2 ∧ QS K S (m_many K T2 13).2 := ⟨ga9.1, g2.2.tr ga9.2⟩
      have vb9 : (m_many K T2 13).1 = nI (ord K S).length := (by rw [ob_T2.1 13]; exact many13 h)
      refine j_eq (st2 := [.int (nI (ord K S).length), .int (nI j2)]) rfl (by rw [vb9]) rfl ?_
      refine j_gen (fun U9 eU9 => ?_)
      have gu9 : GW K U9 ∧ QS K S U9 := by rw [eU9]; exact gb9
      clear eU9
      have hz_U9 : sZ U9 (K 13) = sZ S (K 13) := gu9.2.1.z (K 13)
      have iv_U9 := h.qs gu9.1 gu9.2
      have ob_U9 := h.obs U9 gu9.1 gu9.2
      refine j_icmp_ge (tgt := 208) M dL_isAsked_164 (by decide) (fun z => absurd z (nI_ge (by omega) (by omega))) (fun _ => ?_)
      refine j_aload_n M dL_isAsked_167 rfl ?_
      refine j_iload M dL_isAsked_168 rfl ?_
      refine j_callV1 (As := [.int (nI j2)]) (x := .int (m_order K U9 (nI j2)).1) M cf_X7_order wM_L_128 (c_order (S := U9) gu9.1.1 gu9.1.2.1 gu9.1.2.2 (nI j2) (nI_pos' (by omega))) gu9.1.1.k0.1 (pAt_7 E _ gu9.1.1.k0.2) rfl rfl ⟨Nat.le_of_ble_eq_true rfl, Nat.le_of_ble_eq_true rfl⟩ (Nat.le_of_ble_eq_true rfl) ⟨Nat.zero_le _, Nat.zero_le _⟩ dL_isAsked_170 rfl ?_
      have ga10 := gq_order (S := U9) gu9.1.1 gu9.1.2.1 gu9.1.2.2 (nI j2)
      have gb10 : GW K (m_order K U9 (nI j2)).2 ∧ QS K S (m_order K U9 (nI j2)).2 := ⟨ga10.1, gu9.2.tr ga10.2⟩
      have vb10 : (m_order K U9 (nI j2)).1 = nI ((ord K S).getD j2 0) := ((order_at iv_U9.kd iv_U9.g iv_U9.to (i := j2) (by omega)).trans (by rw [(s_ord h.g.1 h.to (gu9.2.ag h.kd)), if_pos hlt2]))
      refine j_eq (st2 := [.int (nI ((ord K S).getD j2 0))]) rfl (by rw [vb10]) rfl ?_
      refine j_gen (fun U10 eU10 => ?_)
      have gu10 : GW K U10 ∧ QS K S U10 := by rw [eU10]; exact gb10
      clear eU10
      have hz_U10 : sZ U10 (K 13) = sZ S (K 13) := gu10.2.1.z (K 13)
      have iv_U10 := h.qs gu10.1 gu10.2
      have ob_U10 := h.obs U10 gu10.1 gu10.2
      refine j_istore (lv' := [(7, .int (nI ((ord K S).getD j2 0))), (0, .ref (K 0)), (1, .int x), (2, .int (nI C)), (3, .long (d_digest K S C)), (5, .int (gS K S j2)), (6, .int (nI j2))]) M dL_isAsked_173 (by decide) rfl ?_
      refine j_iload M dL_isAsked_175 rfl ?_
      refine j_if_lt (tgt := 191) M dL_isAsked_177 (by decide) (fun z => absurd z (nI_pos (by have := (ord_4 h hlt2).1; omega))) (fun _ => ?_)
      refine j_iload M dL_isAsked_180 rfl ?_
      refine j_iload M dL_isAsked_182 rfl ?_
      refine j_ishr M dL_isAsked_184 ?_
      refine j_iconst (v := 1) M dL_isAsked_185 (by decide) ?_
      refine j_iand M dL_isAsked_186 ?_
      refine j_iconst (v := 1) M dL_isAsked_187 (by decide) ?_
      refine j_icmp_ne (tgt := 193) M dL_isAsked_188 (by decide) (fun _ => ?_) (fun z => absurd z (g_new h hlt2))
      refine j_iload M dL_isAsked_193 rfl ?_
      refine j_iconst (v := 1) M dL_isAsked_195 (by decide) ?_
      refine j_iload M dL_isAsked_196 rfl ?_
      refine j_ishl M dL_isAsked_198 ?_
      refine j_ior M dL_isAsked_199 ?_
      refine j_istore (lv' := [(5, .int ((gS K S j2) ||| (1 <<< ((nI ((ord K S).getD j2 0)) &&& 31)))), (7, .int (nI ((ord K S).getD j2 0))), (0, .ref (K 0)), (1, .int x), (2, .int (nI C)), (3, .long (d_digest K S C)), (6, .int (nI j2))]) M dL_isAsked_200 (by decide) rfl ?_
      refine j_iinc (v := (nI (j2 + 1))) (lv' := [(6, .int (nI (j2 + 1))), (5, .int ((gS K S j2) ||| (1 <<< ((nI ((ord K S).getD j2 0)) &&& 31)))), (7, .int (nI ((ord K S).getD j2 0))), (0, .ref (K 0)), (1, .int x), (2, .int (nI C)), (3, .long (d_digest K S C))]) M dL_isAsked_202 rfl (nI_1 _) (by decide) rfl ?_
      refine j_goto (tgt := 156) M dL_isAsked_205 (by decide) ?_
      refine j_pick (lv' := [(0, .ref (K 0)), (1, .int x), (2, .int (nI C)), (3, .long (d_digest K S C)), (5, .int ((gS K S j2) ||| (1 <<< ((nI ((ord K S).getD j2 0)) &&& 31)))), (6, .int (nI (j2 + 1)))]) [3, 4, 5, 6, 1, 0] rfl ?_
      have q2_5 : (gS K S j2) ||| (1 <<< ((nI ((ord K S).getD j2 0)) &&& 31)) = gS K S (j2 + 1) := (g_step h hlt2)
      refine j_eq (lv2 := [(0, .ref (K 0)), (1, .int x), (2, .int (nI C)), (3, .long (d_digest K S C)), (5, .int (gS K S (j2 + 1))), (6, .int (nI (j2 + 1)))]) (by rw [q2_5]) rfl rfl ?_
      exact ih2 (j2 + 1) _ (by omega) gu10
  refine j_pick (lv' := [(0, .ref (K 0)), (1, .int x), (2, .int (nI C)), (3, .long (d_digest K S C)), (5, .int (gS K S 0)), (6, .int 0)]) [2, 3, 4, 5, 1, 0] rfl ?_
  refine j_eq (lv2 := [(0, .ref (K 0)), (1, .int x), (2, .int (nI C)), (3, .long (d_digest K S C)), (5, .int (gS K S 0)), (6, .int (nI 0))]) rfl rfl rfl ?_
  refine lp2 (fun V2 gV2 => ?_) ((ord K S).length) 0 _ (Nat.zero_add _) gV1
  have hz_V2 : sZ V2 (K 13) = sZ S (K 13) := gV2.2.1.z (K 13)
  have iv_V2 := h.qs gV2.1 gV2.2
  have ob_V2 := h.obs V2 gV2.1 gV2.2
  refine j_iconst (v := 0) M dL_isAsked_208 (by decide) ?_
  refine j_istore (lv' := [(6, .int 0), (0, .ref (K 0)), (1, .int x), (2, .int (nI C)), (3, .long (d_digest K S C)), (5, .int (gS K S ((ord K S).length)))]) M dL_isAsked_209 (by decide) rfl ?_
  have lp3 : (∀ V : PS, GW K V ∧ QS K S V → J p l e { frames := 10, cells := 0, slots := 0, locals := 230 } s m ([.ref (K 0), .int x, .int (nI C)] : List Value).toArray below meth c (MQ below (QC E (fun v u => v = some (.int 1) ∧ GW K u ∧ QS K S u)) ([.ref (K 0), .int x, .int (nI C)] : List Value).toArray s 0 0 (AE E)) E 8 251 [(0, .ref (K 0)), (1, .int x), (2, .int (nI C)), (3, .long (d_digest K S C)), (5, .int (gS K S ((ord K S).length)))] [] V 0 0) → ∀ (r3 j3 : Nat) (T3 : PS), j3 + r3 = sZ S (K 13) → GW K T3 ∧ QS K S T3 → J p l e { frames := 10, cells := 0, slots := 0, locals := 230 } s m ([.ref (K 0), .int x, .int (nI C)] : List Value).toArray below meth c (MQ below (QC E (fun v u => v = some (.int 1) ∧ GW K u ∧ QS K S u)) ([.ref (K 0), .int x, .int (nI C)] : List Value).toArray s 0 0 (AE E)) E 8 211 [(0, .ref (K 0)), (1, .int x), (2, .int (nI C)), (3, .long (d_digest K S C)), (5, .int (gS K S ((ord K S).length))), (6, .int (nI j3))] [] T3 0 0 := by
    intro KX3 r3
    induction r3 with
    | zero =>
      intro j3 T3 hj3 g3
      have hz_T3 : sZ T3 (K 13) = sZ S (K 13) := g3.2.1.z (K 13)
      have iv_T3 := h.qs g3.1 g3.2
      have ob_T3 := h.obs T3 g3.1 g3.2
      have e3 : j3 = sZ S (K 13) := by omega
      refine j_iload M dL_isAsked_211 rfl ?_
      refine j_aload_n M dL_isAsked_213 rfl ?_
      refine j_iconst (v := 3) M dL_isAsked_214 (by decide) ?_
      refine j_callV1 (As := [.int 3]) (x := .int (nI (sZ T3 (K 13)))) M cf_X7_many wM_L_25 (cm_3 (S := T3) g3.1.1 g3.1.2.1 g3.1.2.2) g3.1.1.k0.1 (pAt_7 E _ g3.1.1.k0.2) rfl rfl ⟨Nat.le_of_ble_eq_true rfl, Nat.le_of_ble_eq_true rfl⟩ (Nat.le_of_ble_eq_true rfl) ⟨Nat.zero_le _, Nat.zero_le _⟩ dL_isAsked_215 rfl ?_
      refine j_eq (st2 := [.int (nI (sZ S (K 13))), .int (nI j3)]) rfl (by rw [hz_T3]) rfl ?_
      refine j_icmp_ge (tgt := 251) M dL_isAsked_218 (by decide) (fun _ => ?_) (fun z => absurd (nI_le (by omega) (by omega)) z)
      refine j_pick (lv' := [(0, .ref (K 0)), (1, .int x), (2, .int (nI C)), (3, .long (d_digest K S C)), (5, .int (gS K S ((ord K S).length)))]) [0, 1, 2, 3, 4] rfl ?_
      refine j_eq (lv2 := [(0, .ref (K 0)), (1, .int x), (2, .int (nI C)), (3, .long (d_digest K S C)), (5, .int (gS K S ((ord K S).length)))]) (by first | rfl | rw [e3]) rfl rfl ?_
      exact KX3 _ g3
    | succ r3 ih3 =>
      intro j3 T3 hj3 g3
      have hz_T3 : sZ T3 (K 13) = sZ S (K 13) := g3.2.1.z (K 13)
      have iv_T3 := h.qs g3.1 g3.2
      have ob_T3 := h.obs T3 g3.1 g3.2
      have hlt3 : j3 < sZ S (K 13) := by omega
      refine j_iload M dL_isAsked_211 rfl ?_
      refine j_aload_n M dL_isAsked_213 rfl ?_
      refine j_iconst (v := 3) M dL_isAsked_214 (by decide) ?_
      refine j_callV1 (As := [.int 3]) (x := .int (nI (sZ T3 (K 13)))) M cf_X7_many wM_L_25 (cm_3 (S := T3) g3.1.1 g3.1.2.1 g3.1.2.2) g3.1.1.k0.1 (pAt_7 E _ g3.1.1.k0.2) rfl rfl ⟨Nat.le_of_ble_eq_true rfl, Nat.le_of_ble_eq_true rfl⟩ (Nat.le_of_ble_eq_true rfl) ⟨Nat.zero_le _, Nat.zero_le _⟩ dL_isAsked_215 rfl ?_
      refine j_eq (st2 := [.int (nI (sZ S (K 13))), .int (nI j3)]) rfl (by rw [hz_T3]) rfl ?_
      refine j_icmp_ge (tgt := 251) M dL_isAsked_218 (by decide) (fun z => absurd z (nI_ge (by omega) (by omega))) (fun _ => ?_)
      refine j_aload_n M dL_isAsked_221 rfl ?_
      refine j_iload M dL_isAsked_222 rfl ?_
      refine j_iconst (v := 1) M dL_isAsked_224 (by decide) ?_
      refine j_callV1 (As := [.int (nI j3), .int 1]) (x := .int (m_ofCrane K T3 j3 1)) M cf_X7_ofCrane wM_L_49 (c_ofCrane (S := T3) g3.1.1 g3.1.2.1 g3.1.2.2 1 (show j3 < sZ T3 (K 13) by omega) (by decide)) g3.1.1.k0.1 (pAt_7 E _ g3.1.1.k0.2) rfl rfl ⟨Nat.le_of_ble_eq_true rfl, Nat.le_of_ble_eq_true rfl⟩ (Nat.le_of_ble_eq_true rfl) ⟨Nat.zero_le _, Nat.zero_le _⟩ dL_isAsked_225 rfl ?_
      refine j_eq (st2 := [.int (m_ofCrane K S j3 1)]) rfl (by rw [ob_T3.2.2.1 j3 1 (by omega)]) rfl ?_
      refine j_bipush (v := 8) M dL_isAsked_228 (by decide) ?_
      refine j_icmp_gt (tgt := 245) M dL_isAsked_230 (by decide) (fun c1 => ?_) (fun c1 => ?_)
      · refine j_iinc (v := (nI (j3 + 1))) (lv' := [(6, .int (nI (j3 + 1))), (0, .ref (K 0)), (1, .int x), (2, .int (nI C)), (3, .long (d_digest K S C)), (5, .int (gS K S ((ord K S).length)))]) M dL_isAsked_245 rfl (nI_1 _) (by decide) rfl ?_
        refine j_goto (tgt := 211) M dL_isAsked_248 (by decide) ?_
        refine j_pick (lv' := [(0, .ref (K 0)), (1, .int x), (2, .int (nI C)), (3, .long (d_digest K S C)), (5, .int (gS K S ((ord K S).length))), (6, .int (nI (j3 + 1)))]) [1, 2, 3, 4, 5, 0] rfl ?_
        exact ih3 (j3 + 1) _ (by omega) g3
      · refine j_iload M dL_isAsked_233 rfl ?_
        refine j_iload M dL_isAsked_235 rfl ?_
        refine j_ishr M dL_isAsked_237 ?_
        refine j_iconst (v := 1) M dL_isAsked_238 (by decide) ?_
        refine j_iand M dL_isAsked_239 ?_
        refine j_if_ne (tgt := 245) M dL_isAsked_240 (by decide) (fun _ => ?_) (fun z => absurd z (g_all h hlt3 c1))
        refine j_iinc (v := (nI (j3 + 1))) (lv' := [(6, .int (nI (j3 + 1))), (0, .ref (K 0)), (1, .int x), (2, .int (nI C)), (3, .long (d_digest K S C)), (5, .int (gS K S ((ord K S).length)))]) M dL_isAsked_245 rfl (nI_1 _) (by decide) rfl ?_
        refine j_goto (tgt := 211) M dL_isAsked_248 (by decide) ?_
        refine j_pick (lv' := [(0, .ref (K 0)), (1, .int x), (2, .int (nI C)), (3, .long (d_digest K S C)), (5, .int (gS K S ((ord K S).length))), (6, .int (nI (j3 + 1)))]) [1, 2, 3, 4, 5, 0] rfl ?_
        exact ih3 (j3 + 1) _ (by omega) g3
  refine j_pick (lv' := [(0, .ref (K 0)), (1, .int x), (2, .int (nI C)), (3, .long (d_digest K S C)), (5, .int (gS K S ((ord K S).length))), (6, .int 0)]) [1, 2, 3, 4, 5, 0] rfl ?_
  refine j_eq (lv2 := [(0, .ref (K 0)), (1, .int x), (2, .int (nI C)), (3, .long (d_digest K S C)), (5, .int (gS K S ((ord K S).length))), (6, .int (nI 0))]) rfl rfl rfl ?_
  refine lp3 (fun V3 gV3 => ?_) (sZ S (K 13)) 0 _ (Nat.zero_add _) gV2
  have hz_V3 : sZ V3 (K 13) = sZ S (K 13) := gV3.2.1.z (K 13)
  have iv_V3 := h.qs gV3.1 gV3.2
  have ob_V3 := h.obs V3 gV3.1 gV3.2
  refine j_aload_n M dL_isAsked_251 rfl ?_
  refine j_aload_n M dL_isAsked_252 rfl ?_
  refine j_bipush (v := 13) M dL_isAsked_253 (by decide) ?_
  refine j_callV1 (As := [.int 13]) (x := .int (m_many K V3 13).1) M cf_X7_many wM_L_25 (c_many (S := V3) gV3.1.1 gV3.1.2.1 gV3.1.2.2 13 (by decide)) gV3.1.1.k0.1 (pAt_7 E _ gV3.1.1.k0.2) rfl rfl ⟨Nat.le_of_ble_eq_true rfl, Nat.le_of_ble_eq_true rfl⟩ (Nat.le_of_ble_eq_true rfl) ⟨Nat.zero_le _, Nat.zero_le _⟩ dL_isAsked_255 rfl ?_
  have ga11 := gq_many (S := V3) gV3.1.1 gV3.1.2.1 gV3.1.2.2 13
  have gb11 : GW K (m_many K V3 13).2 ∧ QS K S (m_many K V3 13).2 := ⟨ga11.1, gV3.2.tr ga11.2⟩
  have vb11 : (m_many K V3 13).1 = nI (ord K S).length := (by rw [ob_V3.1 13]; exact many13 h)
  refine j_eq (st2 := [.int (nI (ord K S).length), .ref (K 0)]) rfl (by rw [vb11]) rfl ?_
  refine j_gen (fun U11 eU11 => ?_)
  have gu11 : GW K U11 ∧ QS K S U11 := by rw [eU11]; exact gb11
  clear eU11
  have hz_U11 : sZ U11 (K 13) = sZ S (K 13) := gu11.2.1.z (K 13)
  have iv_U11 := h.qs gu11.1 gu11.2
  have ob_U11 := h.obs U11 gu11.1 gu11.2
  refine j_callV1 (As := [.int (nI (ord K S).length)]) (x := .int (m_order K U11 (nI (ord K S).length)).1) M cf_X7_order wM_L_128 (c_order (S := U11) gu11.1.1 gu11.1.2.1 gu11.1.2.2 (nI (ord K S).length) (nI_pos' (by omega))) gu11.1.1.k0.1 (pAt_7 E _ gu11.1.1.k0.2) rfl rfl ⟨Nat.le_of_ble_eq_true rfl, Nat.le_of_ble_eq_true rfl⟩ (Nat.le_of_ble_eq_true rfl) ⟨Nat.zero_le _, Nat.zero_le _⟩ dL_isAsked_258 rfl ?_
  have ga12 := gq_order (S := U11) gu11.1.1 gu11.1.2.1 gu11.1.2.2 (nI (ord K S).length)
  have gb12 : GW K (m_order K U11 (nI (ord K S).length)).2 ∧ QS K S (m_order K U11 (nI (ord K S).length)).2 := ⟨ga12.1, gu11.2.tr ga12.2⟩
  have vb12 : (m_order K U11 (nI (ord K S).length)).1 = (-1) := ((order_at iv_U11.kd iv_U11.g iv_U11.to (i := (ord K S).length) (by omega)).trans (by rw [(s_ord h.g.1 h.to (gu11.2.ag h.kd)), if_neg (Nat.lt_irrefl _)]))
  refine j_eq (st2 := [.int (-1)]) rfl (by rw [vb12]) rfl ?_
  refine j_gen (fun U12 eU12 => ?_)
  have gu12 : GW K U12 ∧ QS K S U12 := by rw [eU12]; exact gb12
  clear eU12
  have hz_U12 : sZ U12 (K 13) = sZ S (K 13) := gu12.2.1.z (K 13)
  have iv_U12 := h.qs gu12.1 gu12.2
  have ob_U12 := h.obs U12 gu12.1 gu12.2
  refine j_iconst (v := (-1)) M dL_isAsked_261 (by decide) ?_
  refine j_icmp_ne (tgt := 278) M dL_isAsked_262 (by decide) (fun z => absurd (by decide) z) (fun _ => ?_)
  refine j_aload_n M dL_isAsked_265 rfl ?_
  refine j_callV (As := []) M cf_X7_digest wM_L_111 (c_digest (S := U12) gu12.1.1 gu12.1.2.1 gu12.1.2.2 iv_U12.obs hC6 (by rw [ob_U12.2.2.2.2.2.2.2.2]; exact hcC)) gu12.1.1.k0.1 (pAt_7 E _ gu12.1.1.k0.2) rfl rfl ⟨Nat.le_of_ble_eq_true rfl, Nat.le_of_ble_eq_true rfl⟩ (Nat.le_of_ble_eq_true rfl) ⟨Nat.zero_le _, Nat.zero_le _⟩ dL_isAsked_266 rfl (fun v U13 hu => ?_)
  obtain ⟨rfl, hu2⟩ := hu
  have gu13 : GW K U13 ∧ QS K S U13 := ⟨hu2.1, gu12.2.tr hu2.2⟩
  refine j_eq (st2 := [.long (d_digest K S C)]) rfl (by rw [d_eq h gu12]; rfl) rfl ?_
  have hz_U13 : sZ U13 (K 13) = sZ S (K 13) := gu13.2.1.z (K 13)
  have iv_U13 := h.qs gu13.1 gu13.2
  have ob_U13 := h.obs U13 gu13.1 gu13.2
  refine j_lload_n M dL_isAsked_269 rfl ?_
  refine j_lcmp M dL_isAsked_270 ?_
  refine j_if_ne (tgt := 278) M dL_isAsked_271 (by decide) (fun z => absurd (lcmp0 _) z) (fun _ => ?_)
  refine j_iconst (v := 1) M dL_isAsked_274 (by decide) ?_
  refine j_goto (tgt := 279) M dL_isAsked_275 (by decide) ?_
  exact j_zret (v := 1) M dL_isAsked_279 (Nat.le_refl _) (Nat.le_refl _) rfl ⟨rfl, gu13.1, gu13.2⟩
