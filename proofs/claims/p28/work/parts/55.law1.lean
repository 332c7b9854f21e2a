/-! the law's own methods: below, met, isWhole -/
theorem cm_0 {l : Launch} {E : EV} {K : Nat → Nat} {S : PS} (hW : WS K S) (hA : AW S) (hM : WM S) : CT l yX7_many cX7_many 2 (some .int) 8 185 0 0 E [.ref (K 0), .int 0] S (pv (.int (m_cells K S)) S) := by
  have h := c_many (l := l) (E := E) hW hA hM 0 (by decide)
  rw [many_0] at h
  exact h
theorem cm_1 {l : Launch} {E : EV} {K : Nat → Nat} {S : PS} (hW : WS K S) (hA : AW S) (hM : WM S) : CT l yX7_many cX7_many 2 (some .int) 8 185 0 0 E [.ref (K 0), .int 1] S (pv (.int (sI S 39 (K 1))) S) := by
  have h := c_many (l := l) (E := E) hW hA hM 1 (by decide)
  rw [many_1] at h
  exact h
theorem cm_2 {l : Launch} {E : EV} {K : Nat → Nat} {S : PS} (hW : WS K S) (hA : AW S) (hM : WM S) : CT l yX7_many cX7_many 2 (some .int) 8 185 0 0 E [.ref (K 0), .int 2] S (pv (.int (m_hour K S)) S) := by
  have h := c_many (l := l) (E := E) hW hA hM 2 (by decide)
  rw [many_2] at h
  exact h
theorem cm_3 {l : Launch} {E : EV} {K : Nat → Nat} {S : PS} (hW : WS K S) (hA : AW S) (hM : WM S) : CT l yX7_many cX7_many 2 (some .int) 8 185 0 0 E [.ref (K 0), .int 3] S (pv (.int (nI (sZ S (K 13)))) S) := by
  have h := c_many (l := l) (E := E) hW hA hM 3 (by decide)
  rw [many_3] at h
  exact h
theorem cm_4 {l : Launch} {E : EV} {K : Nat → Nat} {S : PS} (hW : WS K S) (hA : AW S) (hM : WM S) : CT l yX7_many cX7_many 2 (some .int) 8 185 0 0 E [.ref (K 0), .int 4] S (pv (.int (nI (sZ S (K 14)))) S) := by
  have h := c_many (l := l) (E := E) hW hA hM 4 (by decide)
  rw [many_4] at h
  exact h
theorem cm_8 {l : Launch} {E : EV} {K : Nat → Nat} {S : PS} (hW : WS K S) (hA : AW S) (hM : WM S) : CT l yX7_many cX7_many 2 (some .int) 8 185 0 0 E [.ref (K 0), .int 8] S (pv (.int (m_clashingPairs K S)) S) := by
  have h := c_many (l := l) (E := E) hW hA hM 8 (by decide)
  rw [many_8] at h
  exact h
theorem cm_9 {l : Launch} {E : EV} {K : Nat → Nat} {S : PS} (hW : WS K S) (hA : AW S) (hM : WM S) : CT l yX7_many cX7_many 2 (some .int) 8 185 0 0 E [.ref (K 0), .int 9] S (pv (.int (m_nearMisses K S)) S) := by
  have h := c_many (l := l) (E := E) hW hA hM 9 (by decide)
  rw [many_9] at h
  exact h
theorem cm_10 {l : Launch} {E : EV} {K : Nat → Nat} {S : PS} (hW : WS K S) (hA : AW S) (hM : WM S) : CT l yX7_many cX7_many 2 (some .int) 8 185 0 0 E [.ref (K 0), .int 10] S (pv (.int (sI S 40 (K 1))) S) := by
  have h := c_many (l := l) (E := E) hW hA hM 10 (by decide)
  rw [many_10] at h
  exact h
theorem cm_12 {l : Launch} {E : EV} {K : Nat → Nat} {S : PS} (hW : WS K S) (hA : AW S) (hM : WM S) : CT l yX7_many cX7_many 2 (some .int) 8 185 0 0 E [.ref (K 0), .int 12] S (pv (.int (m_hangingLoads K S)) S) := by
  have h := c_many (l := l) (E := E) hW hA hM 12 (by decide)
  rw [many_12] at h
  exact h
theorem w_bit0 {E : EV} {K : Nat → Nat} {S : PS} {N k o : Nat} (h : IV E K S N) (hk : k < sZ S (K 13)) (ho : o < sZ S (K 13)) (hne : o ≠ k) (hc : m_clash K S k o ≤ 0) : ((m_ofCrane K S k 13 >>> ((nI o) &&& 31)) &&& 1) = 0 := by
  have e : m_clash K S k o = 0 := by
    have := (clash_3 (K := K) (S := S) (a := el S (K 13) k) (b := el S (K 13) o) (t := 1)).1
    rw [← Int32.toInt_inj]
    rw [Int32.le_iff_toInt_le] at hc this
    show (m_clashRule K S (el S (K 13) k) (el S (K 13) o) 1).toInt = _
    have hc : (m_clashRule K S (el S (K 13) k) (el S (K 13) o) 1).toInt ≤ Int32.toInt 0 := hc
    omega
  rw [w_bit h hk ho hne, if_pos e]
theorem w_bit1 {E : EV} {K : Nat → Nat} {S : PS} {N k o : Nat} (h : IV E K S N) (hk : k < sZ S (K 13)) (ho : o < sZ S (K 13)) (hne : o ≠ k) (hc : ¬ m_clash K S k o ≤ 0) : ((m_ofCrane K S k 13 >>> ((nI o) &&& 31)) &&& 1) = 1 := by
  rw [w_bit h hk ho hne, if_neg (fun e => hc (by rw [e]; decide))]
theorem w_c0 {K : Nat → Nat} {S : PS} {k o : Nat} : ¬ m_clash K S k o < 0 := by
  have := (clash_3 (K := K) (S := S) (a := el S (K 13) k) (b := el S (K 13) o) (t := 1)).1
  intro h
  have h : m_clashRule K S (el S (K 13) k) (el S (K 13) o) 1 < 0 := h
  rw [Int32.lt_iff_toInt_lt] at h
  rw [Int32.le_iff_toInt_le] at this
  omega
theorem w_c3 {K : Nat → Nat} {S : PS} {k o : Nat} : ¬ 3 < m_clash K S k o := by
  have := (clash_3 (K := K) (S := S) (a := el S (K 13) k) (b := el S (K 13) o) (t := 1)).2
  intro h
  have h : 3 < m_clashRule K S (el S (K 13) k) (el S (K 13) o) 1 := h
  rw [Int32.lt_iff_toInt_lt] at h
  rw [Int32.le_iff_toInt_le] at this
  omega
theorem cb_s {p : Nat → Bool} {r : Nat} (h : p r = true) : cn p (r + 1) = cn p r + 1 := by show cn p r + (p r).toNat = _; rw [h]; rfl
theorem cb_n {p : Nat → Bool} {r : Nat} (h : p r = false) : cn p (r + 1) = cn p r := by show cn p r + (p r).toNat = _; rw [h]; rfl
theorem cb_t {E : EV} {K : Nat → Nat} {S : PS} {N k o : Nat} (h : IV E K S N) (hk : k < sZ S (K 13)) (ho : o < sZ S (K 13)) (hne : o ≠ k) (hc : ¬ m_clash K S k o ≤ 0) : cb K S (cr K S k) o = true := by
  rw [cb_at h hk ho]
  have e : ¬ m_clash K S k o = 0 := fun e => hc (by rw [e]; decide)
  simp [e, hne]
theorem cb_f {E : EV} {K : Nat → Nat} {S : PS} {N k o : Nat} (h : IV E K S N) (hk : k < sZ S (K 13)) (ho : o < sZ S (K 13)) (hc : o = k ∨ m_clash K S k o ≤ 0) : cb K S (cr K S k) o = false := by
  rw [cb_at h hk ho]
  rcases hc with e | hc
  · simp [e]
  · have e : m_clash K S k o = 0 := by
      have := (clash_3 (K := K) (S := S) (a := el S (K 13) k) (b := el S (K 13) o) (t := 1)).1
      rw [← Int32.toInt_inj]
      rw [Int32.le_iff_toInt_le] at hc this
      have hc : (m_clashRule K S (el S (K 13) k) (el S (K 13) o) 1).toInt ≤ Int32.toInt 0 := hc
      show (m_clashRule K S (el S (K 13) k) (el S (K 13) o) 1).toInt = _
      omega
    simp [e]
theorem ofCell_1 {K : Nat → Nat} {S : PS} {w : Int32} : m_ofCell K S w 1 = m_loadsOn K S w := by simp [m_ofCell]
theorem nI_z (x : Nat) : nI x + 0 = nI x := by rw [show (0 : Int32) = nI 0 from rfl, nI_add]; rfl
def m_below (K : Nat → Nat) (S : PS) (v : Int32) (n : Int32) : Int32 :=
  (v &&& 2147483647) - (v &&& 2147483647) / n * n
theorem cf_L_below : CFs yL_below cL_below 2 (some .int) 2 := ⟨wC_L_below, wS_L_below, wN_L, by decide +kernel⟩
set_option maxHeartbeats 4000000 in
set_option maxRecDepth 100000 in
theorem c_below {l : Launch} {E : EV} {K : Nat → Nat} {S : PS} (hW : WS K S) (v : Int32) (n : Int32) (hn : 0 < n) : CT l yL_below cL_below 2 (some .int) 0 0 0 0 E [.int v, .int n] S (pv (.int (m_below K S v n)) S) := by
  refine CT.of (by decide) (Nat.le_of_ble_eq_true rfl) ?_
  intro p e s m below meth c M hin
  have M : MC E p s m _ meth c cL_below RL 2 (some .int) := M
  show J p l e _ s m _ below meth c _ E 2 0 [(0, .int v), (1, .int n)] [] S 0 0
  refine j_iload_n M dL_below_0 rfl ?_
  refine j_ldc M wK_L_7 dL_below_1 ?_
  refine j_iand M dL_below_3 ?_
  refine j_iload_n M dL_below_4 rfl ?_
  refine j_irem M dL_below_5 (ne0p hn) ?_
  exact j_iret (v := ((v &&& 2147483647) - (v &&& 2147483647) / n * n)) M dL_below_6 (Nat.le_refl _) (Nat.le_refl _) ⟨congrArg (fun z => some (Value.int z)) (show ((v &&& 2147483647) - (v &&& 2147483647) / n * n) = m_below K S v n from rfl), rfl⟩
def m_met_lp (K : Nat → Nat) (S : PS) : Nat → Nat → Int32 → Int32
  | 0, j, n => n
  | r + 1, j, n => m_met_lp K S r (j + 1) (n ||| ((m_ofCrane K S j 13) <<< ((4 * (nI j)) &&& 31)))
def m_met (K : Nat → Nat) (S : PS) : Int32 :=
  m_met_lp K S (sZ S (K 13)) 0 0
theorem cf_L_met : CFs yL_met cL_met 3 (some .int) 1 := ⟨wC_L_met, wS_L_met, wN_L, by decide +kernel⟩
set_option maxHeartbeats 4000000 in
set_option maxRecDepth 100000 in
theorem c_met {l : Launch} {E : EV} {K : Nat → Nat} {S : PS} (hW : WS K S) (hA : AW S) (hM : WM S) : CT l yL_met cL_met 3 (some .int) 9 206 0 0 E [.ref (K 0)] S (pv (.int (m_met K S)) S) := by
  refine CT.of (by decide) (Nat.le_of_ble_eq_true rfl) ?_
  intro p e s m below meth c M hin
  have M : MC E p s m _ meth c cL_met RL 3 (some .int) := M
  show J p l e _ s m _ below meth c _ E 3 0 [(0, .ref (K 0))] [] S 0 0
  refine j_iconst (v := 0) M dL_met_0 (by decide) ?_
  refine j_istore_n (lv' := [(1, .int 0), (0, .ref (K 0))]) M dL_met_1 rfl (by decide) rfl ?_
  refine j_iconst (v := 0) M dL_met_2 (by decide) ?_
  refine j_istore_n (lv' := [(2, .int 0), (1, .int 0), (0, .ref (K 0))]) M dL_met_3 rfl (by decide) rfl ?_
  have hz13 := hW.l13.2.1
  have lp : ∀ (r j : Nat) (n : Int32), j + r = sZ S (K 13) → m_met K S = m_met_lp K S r j n → J p l e { frames := 9, cells := 0, slots := 0, locals := 206 } s m ([.ref (K 0)] : List Value).toArray below meth c (MQ below (QC E (pv (.int (m_met K S)) S)) ([.ref (K 0)] : List Value).toArray s 0 0 (AE E)) E 3 4 [(0, .ref (K 0)), (1, .int n), (2, .int (nI j))] [] S 0 0 := by
    intro r
    induction r with
    | zero =>
      intro j n hj hq
      refine j_iload_n M dL_met_4 rfl ?_
      refine j_aload_n M dL_met_5 rfl ?_
      refine j_iconst (v := 3) M dL_met_6 (by decide) ?_
      refine j_callV1 (As := [.int 3]) (x := .int (nI (sZ S (K 13)))) M cf_X7_many wM_L_25 (cm_3 hW hA hM) hW.k0.1 (pAt_7 E _ hW.k0.2) rfl rfl ⟨Nat.le_of_ble_eq_true rfl, Nat.le_of_ble_eq_true rfl⟩ (Nat.le_of_ble_eq_true rfl) ⟨Nat.zero_le _, Nat.zero_le _⟩ dL_met_7 rfl ?_
      refine j_icmp_ge (tgt := 33) M dL_met_10 (by decide) (fun _ => ?_) (fun z => absurd (nI_le (by omega) (by omega)) z)
      refine j_iload_n M dL_met_33 rfl ?_
      exact j_iret (v := n) M dL_met_34 (Nat.le_refl _) (Nat.le_refl _) ⟨congrArg (fun z => some (Value.int z)) (show n = m_met K S from (hq.trans (by simp only [m_met_lp])).symm), rfl⟩
    | succ r ih =>
      intro j n hj hq
      refine j_iload_n M dL_met_4 rfl ?_
      refine j_aload_n M dL_met_5 rfl ?_
      refine j_iconst (v := 3) M dL_met_6 (by decide) ?_
      refine j_callV1 (As := [.int 3]) (x := .int (nI (sZ S (K 13)))) M cf_X7_many wM_L_25 (cm_3 hW hA hM) hW.k0.1 (pAt_7 E _ hW.k0.2) rfl rfl ⟨Nat.le_of_ble_eq_true rfl, Nat.le_of_ble_eq_true rfl⟩ (Nat.le_of_ble_eq_true rfl) ⟨Nat.zero_le _, Nat.zero_le _⟩ dL_met_7 rfl ?_
      refine j_icmp_ge (tgt := 33) M dL_met_10 (by decide) (fun z => absurd z (nI_ge (by omega) (by omega))) (fun _ => ?_)
      refine j_iload_n M dL_met_13 rfl ?_
      refine j_aload_n M dL_met_14 rfl ?_
      refine j_iload_n M dL_met_15 rfl ?_
      refine j_bipush (v := 13) M dL_met_16 (by decide) ?_
      refine j_callV1 (As := [.int (nI j), .int 13]) (x := .int (m_ofCrane K S j 13)) M cf_X7_ofCrane wM_L_49 (c_ofCrane hW hA hM 13 (show j < sZ S (K 13) by omega) (by decide)) hW.k0.1 (pAt_7 E _ hW.k0.2) rfl rfl ⟨Nat.le_of_ble_eq_true rfl, Nat.le_of_ble_eq_true rfl⟩ (Nat.le_of_ble_eq_true rfl) ⟨Nat.zero_le _, Nat.zero_le _⟩ dL_met_18 rfl ?_
      refine j_iconst (v := 4) M dL_met_21 (by decide) ?_
      refine j_iload_n M dL_met_22 rfl ?_
      refine j_imul M dL_met_23 ?_
      refine j_ishl M dL_met_24 ?_
      refine j_ior M dL_met_25 ?_
      refine j_istore_n (lv' := [(1, .int (n ||| ((m_ofCrane K S j 13) <<< ((4 * (nI j)) &&& 31)))), (0, .ref (K 0)), (2, .int (nI j))]) M dL_met_26 rfl (by decide) rfl ?_
      refine j_iinc (v := (nI (j + 1))) (lv' := [(2, .int (nI (j + 1))), (1, .int (n ||| ((m_ofCrane K S j 13) <<< ((4 * (nI j)) &&& 31)))), (0, .ref (K 0))]) M dL_met_27 rfl (nI_1 _) (by decide) rfl ?_
      refine j_goto (tgt := 4) M dL_met_30 (by decide) ?_
      refine j_pick [2, 1, 0] rfl ?_
      exact ih (j + 1) (n ||| ((m_ofCrane K S j 13) <<< ((4 * (nI j)) &&& 31))) (by omega) (hq.trans (by simp only [m_met_lp]))
  refine j_pick (lv' := [(0, .ref (K 0)), (1, .int 0), (2, .int (nI 0))]) [2, 1, 0] rfl ?_
  exact lp (sZ S (K 13)) 0 0 (by omega) (by unfold m_met; rfl)
theorem cf_L_isWhole : CFs yL_isWhole cL_isWhole 10 (some .boolean) 2 := ⟨wC_L_isWhole, wS_L_isWhole, wN_L, by decide +kernel⟩
set_option maxHeartbeats 4000000 in
set_option maxRecDepth 100000 in
theorem c_isWhole {l : Launch} {E : EV} {K : Nat → Nat} {S : PS} (hW : WS K S) (hA : AW S) (hM : WM S) {C : Nat} {N : Nat} (h : IV E K S N) (hC6 : C ≤ 196) (hcC : m_cells K S = nI C) : CT l yL_isWhole cL_isWhole 10 (some .boolean) 9 206 0 0 E [.ref (K 0), .int (nI C)] S (fun v u => v = some (.int 1) ∧ GW K u ∧ QS K S u) := by
  have hz13 := h.n4
  have hz14 := h.n8
  have w_all : nI (sZ S (K 14)) = nI (cn (hC K S) (sZ S (K 13))) + nI (lS K S C) := by
    have e1 := w_lying h (C := C) (by omega) (by rw [hcC, nI_toInt (by omega)])
    have e2 : cn (hC K S) (sZ S (K 13)) = cn (hL K S) (sZ S (K 14)) := by
      have a1 := w_hang h
      have a2 := hang_lp h (sZ S (K 14)) 0 (by omega)
      rw [Nat.zero_add] at a2
      have a3 : m_hangingLoads K S = nI (cn (hL K S) (sZ S (K 14))) := a2
      have b1 := cn_le (hC K S) (sZ S (K 13))
      have b2 := cn_le (hL K S) (sZ S (K 14))
      rw [a1] at a3
      exact (nI_eq (by omega) (by omega)).mp a3
    rw [nI_add, e2, e1]
  refine CT.of (by decide) (Nat.le_of_ble_eq_true rfl) ?_
  intro p e s m below meth c M hin
  have M : MC E p s m _ meth c cL_isWhole RL 10 (some .boolean) := M
  show J p l e _ s m _ below meth c _ E 10 0 [(0, .ref (K 0)), (1, .int (nI C))] [] S 0 0
  refine j_aload_n M dL_isWhole_0 rfl ?_
  refine j_iconst (v := 3) M dL_isWhole_1 (by decide) ?_
  refine j_callV1 (As := [.int 3]) (x := .int (nI (sZ S (K 13)))) M cf_X7_many wM_L_25 (cm_3 hW hA hM) hW.k0.1 (pAt_7 E _ hW.k0.2) rfl rfl ⟨Nat.le_of_ble_eq_true rfl, Nat.le_of_ble_eq_true rfl⟩ (Nat.le_of_ble_eq_true rfl) ⟨Nat.zero_le _, Nat.zero_le _⟩ dL_isWhole_2 rfl ?_
  refine j_istore_n (lv' := [(2, .int (nI (sZ S (K 13)))), (0, .ref (K 0)), (1, .int (nI C))]) M dL_isWhole_5 rfl (by decide) rfl ?_
  refine j_iconst (v := 0) M dL_isWhole_6 (by decide) ?_
  refine j_istore_n (lv' := [(3, .int 0), (2, .int (nI (sZ S (K 13)))), (0, .ref (K 0)), (1, .int (nI C))]) M dL_isWhole_7 rfl (by decide) rfl ?_
  refine j_iconst (v := 0) M dL_isWhole_8 (by decide) ?_
  refine j_istore (lv' := [(4, .int 0), (3, .int 0), (2, .int (nI (sZ S (K 13)))), (0, .ref (K 0)), (1, .int (nI C))]) M dL_isWhole_9 (by decide) rfl ?_
  refine j_iconst (v := 0) M dL_isWhole_11 (by decide) ?_
  refine j_istore (lv' := [(5, .int 0), (4, .int 0), (3, .int 0), (2, .int (nI (sZ S (K 13)))), (0, .ref (K 0)), (1, .int (nI C))]) M dL_isWhole_12 (by decide) rfl ?_
  refine j_iconst (v := 0) M dL_isWhole_14 (by decide) ?_
  refine j_istore (lv' := [(6, .int 0), (5, .int 0), (4, .int 0), (3, .int 0), (2, .int (nI (sZ S (K 13)))), (0, .ref (K 0)), (1, .int (nI C))]) M dL_isWhole_15 (by decide) rfl ?_
  refine j_iconst (v := 0) M dL_isWhole_17 (by decide) ?_
  refine j_istore (lv' := [(7, .int 0), (6, .int 0), (5, .int 0), (4, .int 0), (3, .int 0), (2, .int (nI (sZ S (K 13)))), (0, .ref (K 0)), (1, .int (nI C))]) M dL_isWhole_18 (by decide) rfl ?_
  have lp1 : (J p l e { frames := 9, cells := 0, slots := 0, locals := 206 } s m ([.ref (K 0), .int (nI C)] : List Value).toArray below meth c (MQ below (QC E (fun v u => v = some (.int 1) ∧ GW K u ∧ QS K S u)) ([.ref (K 0), .int (nI C)] : List Value).toArray s 0 0 (AE E)) E 10 276 [(0, .ref (K 0)), (1, .int (nI C)), (2, .int (nI (sZ S (K 13)))), (3, .int (nI (pS K S (sZ S (K 13))))), (4, .int (nS K S (sZ S (K 13)))), (5, .int (nI (cn (hC K S) (sZ S (K 13))))), (6, .int 0)] [] S 0 0) → ∀ (r1 j1 : Nat), j1 + r1 = sZ S (K 13) → J p l e { frames := 9, cells := 0, slots := 0, locals := 206 } s m ([.ref (K 0), .int (nI C)] : List Value).toArray below meth c (MQ below (QC E (fun v u => v = some (.int 1) ∧ GW K u ∧ QS K S u)) ([.ref (K 0), .int (nI C)] : List Value).toArray s 0 0 (AE E)) E 10 20 [(0, .ref (K 0)), (1, .int (nI C)), (2, .int (nI (sZ S (K 13)))), (3, .int (nI (pS K S j1))), (4, .int (nS K S j1)), (5, .int (nI (cn (hC K S) j1))), (6, .int 0), (7, .int (nI j1))] [] S 0 0 := by
    intro KX1 r1
    induction r1 with
    | zero =>
      intro j1 hj1
      have e1 : j1 = sZ S (K 13) := by omega
      refine j_iload M dL_isWhole_20 rfl ?_
      refine j_iload_n M dL_isWhole_22 rfl ?_
      refine j_icmp_ge (tgt := 276) M dL_isWhole_23 (by decide) (fun _ => ?_) (fun z => absurd (nI_le (by omega) (by omega)) z)
      refine j_pick (lv' := [(0, .ref (K 0)), (1, .int (nI C)), (2, .int (nI (sZ S (K 13)))), (3, .int (nI (pS K S j1))), (4, .int (nS K S j1)), (5, .int (nI (cn (hC K S) j1))), (6, .int 0)]) [0, 1, 2, 3, 4, 5, 6] rfl ?_
      refine j_eq (lv2 := [(0, .ref (K 0)), (1, .int (nI C)), (2, .int (nI (sZ S (K 13)))), (3, .int (nI (pS K S (sZ S (K 13))))), (4, .int (nS K S (sZ S (K 13)))), (5, .int (nI (cn (hC K S) (sZ S (K 13))))), (6, .int 0)]) (by first | rfl | rw [e1]) rfl rfl ?_
      exact KX1
    | succ r1 ih1 =>
      intro j1 hj1
      have hlt1 : j1 < sZ S (K 13) := by omega
      refine j_iload M dL_isWhole_20 rfl ?_
      refine j_iload_n M dL_isWhole_22 rfl ?_
      refine j_icmp_ge (tgt := 276) M dL_isWhole_23 (by decide) (fun z => absurd z (nI_ge (by omega) (by omega))) (fun _ => ?_)
      refine j_iconst (v := 0) M dL_isWhole_26 (by decide) ?_
      refine j_istore (lv' := [(8, .int 0), (0, .ref (K 0)), (1, .int (nI C)), (2, .int (nI (sZ S (K 13)))), (3, .int (nI (pS K S j1))), (4, .int (nS K S j1)), (5, .int (nI (cn (hC K S) j1))), (6, .int 0), (7, .int (nI j1))]) M dL_isWhole_27 (by decide) rfl ?_
      have lp2 : (J p l e { frames := 9, cells := 0, slots := 0, locals := 206 } s m ([.ref (K 0), .int (nI C)] : List Value).toArray below meth c (MQ below (QC E (fun v u => v = some (.int 1) ∧ GW K u ∧ QS K S u)) ([.ref (K 0), .int (nI C)] : List Value).toArray s 0 0 (AE E)) E 10 126 [(0, .ref (K 0)), (1, .int (nI C)), (2, .int (nI (sZ S (K 13)))), (3, .int (nI (pS K S j1 + cn (cb K S (cr K S j1)) (sZ S (K 13))))), (4, .int (nS K S j1)), (5, .int (nI (cn (hC K S) j1))), (6, .int 0), (7, .int (nI j1))] [] S 0 0) → ∀ (r2 j2 : Nat), j2 + r2 = sZ S (K 13) → J p l e { frames := 9, cells := 0, slots := 0, locals := 206 } s m ([.ref (K 0), .int (nI C)] : List Value).toArray below meth c (MQ below (QC E (fun v u => v = some (.int 1) ∧ GW K u ∧ QS K S u)) ([.ref (K 0), .int (nI C)] : List Value).toArray s 0 0 (AE E)) E 10 29 [(0, .ref (K 0)), (1, .int (nI C)), (2, .int (nI (sZ S (K 13)))), (3, .int (nI (pS K S j1 + cn (cb K S (cr K S j1)) j2))), (4, .int (nS K S j1)), (5, .int (nI (cn (hC K S) j1))), (6, .int 0), (7, .int (nI j1)), (8, .int (nI j2))] [] S 0 0 := by
        intro KX2 r2
        induction r2 with
        | zero =>
          intro j2 hj2
          have e2 : j2 = sZ S (K 13) := by omega
          refine j_iload M dL_isWhole_29 rfl ?_
          refine j_iload_n M dL_isWhole_31 rfl ?_
          refine j_icmp_ge (tgt := 126) M dL_isWhole_32 (by decide) (fun _ => ?_) (fun z => absurd (nI_le (by omega) (by omega)) z)
          refine j_pick (lv' := [(0, .ref (K 0)), (1, .int (nI C)), (2, .int (nI (sZ S (K 13)))), (3, .int (nI (pS K S j1 + cn (cb K S (cr K S j1)) j2))), (4, .int (nS K S j1)), (5, .int (nI (cn (hC K S) j1))), (6, .int 0), (7, .int (nI j1))]) [0, 1, 2, 3, 4, 5, 6, 7] rfl ?_
          refine j_eq (lv2 := [(0, .ref (K 0)), (1, .int (nI C)), (2, .int (nI (sZ S (K 13)))), (3, .int (nI (pS K S j1 + cn (cb K S (cr K S j1)) (sZ S (K 13))))), (4, .int (nS K S j1)), (5, .int (nI (cn (hC K S) j1))), (6, .int 0), (7, .int (nI j1))]) (by first | rfl | rw [e2]) rfl rfl ?_
          exact KX2
        | succ r2 ih2 =>
          intro j2 hj2
          have hlt2 : j2 < sZ S (K 13) := by omega
          refine j_iload M dL_isWhole_29 rfl ?_
          refine j_iload_n M dL_isWhole_31 rfl ?_
          refine j_icmp_ge (tgt := 126) M dL_isWhole_32 (by decide) (fun z => absurd z (nI_ge (by omega) (by omega))) (fun _ => ?_)
          refine j_iload M dL_isWhole_35 rfl ?_
          refine j_iload M dL_isWhole_37 rfl ?_
          refine j_icmp_ne (tgt := 45) M dL_isWhole_39 (by decide) (fun c1 => ?_) (fun c1 => ?_)
          · have hne : j2 ≠ j1 := fun e => c1 (by rw [e])
            refine j_aload_n M dL_isWhole_45 rfl ?_
            refine j_iload M dL_isWhole_46 rfl ?_
            refine j_iload M dL_isWhole_48 rfl ?_
            refine j_callV1 (As := [.int (nI j1), .int (nI j2)]) (x := .int (m_clash K S j1 j2)) M cf_X7_clash wM_L_98 (c_clash hW hA hM hlt1 hlt2 (fun e => hne e.symm)) hW.k0.1 (pAt_7 E _ hW.k0.2) rfl rfl ⟨Nat.le_of_ble_eq_true rfl, Nat.le_of_ble_eq_true rfl⟩ (Nat.le_of_ble_eq_true rfl) ⟨Nat.zero_le _, Nat.zero_le _⟩ dL_isWhole_50 rfl ?_
            refine j_istore (lv' := [(9, .int (m_clash K S j1 j2)), (0, .ref (K 0)), (1, .int (nI C)), (2, .int (nI (sZ S (K 13)))), (3, .int (nI (pS K S j1 + cn (cb K S (cr K S j1)) j2))), (4, .int (nS K S j1)), (5, .int (nI (cn (hC K S) j1))), (6, .int 0), (7, .int (nI j1)), (8, .int (nI j2))]) M dL_isWhole_53 (by decide) rfl ?_
            refine j_iload M dL_isWhole_55 rfl ?_
            refine j_if_lt (tgt := 105) M dL_isWhole_57 (by decide) (fun z => absurd z w_c0) (fun _ => ?_)
            refine j_iload M dL_isWhole_60 rfl ?_
            refine j_iconst (v := 3) M dL_isWhole_62 (by decide) ?_
            refine j_icmp_gt (tgt := 105) M dL_isWhole_63 (by decide) (fun z => absurd z w_c3) (fun _ => ?_)
            refine j_aload_n M dL_isWhole_66 rfl ?_
            refine j_iload M dL_isWhole_67 rfl ?_
            refine j_iload M dL_isWhole_69 rfl ?_
            refine j_callV1 (As := [.int (nI j2), .int (nI j1)]) (x := .int (m_clash K S j2 j1)) M cf_X7_clash wM_L_98 (c_clash hW hA hM hlt2 hlt1 hne) hW.k0.1 (pAt_7 E _ hW.k0.2) rfl rfl ⟨Nat.le_of_ble_eq_true rfl, Nat.le_of_ble_eq_true rfl⟩ (Nat.le_of_ble_eq_true rfl) ⟨Nat.zero_le _, Nat.zero_le _⟩ dL_isWhole_71 rfl ?_
            refine j_iload M dL_isWhole_74 rfl ?_
            refine j_icmp_ne (tgt := 105) M dL_isWhole_76 (by decide) (fun z => absurd (w_sym h hlt1 hlt2 (fun e => hne e.symm)) z) (fun _ => ?_)
            refine j_aload_n M dL_isWhole_79 rfl ?_
            refine j_iload M dL_isWhole_80 rfl ?_
            refine j_bipush (v := 13) M dL_isWhole_82 (by decide) ?_
            refine j_callV1 (As := [.int (nI j1), .int 13]) (x := .int (m_ofCrane K S j1 13)) M cf_X7_ofCrane wM_L_49 (c_ofCrane hW hA hM 13 hlt1 (by decide)) hW.k0.1 (pAt_7 E _ hW.k0.2) rfl rfl ⟨Nat.le_of_ble_eq_true rfl, Nat.le_of_ble_eq_true rfl⟩ (Nat.le_of_ble_eq_true rfl) ⟨Nat.zero_le _, Nat.zero_le _⟩ dL_isWhole_84 rfl ?_
            refine j_iload M dL_isWhole_87 rfl ?_
            refine j_ishr M dL_isWhole_89 ?_
            refine j_iconst (v := 1) M dL_isWhole_90 (by decide) ?_
            refine j_iand M dL_isWhole_91 ?_
            refine j_iload M dL_isWhole_92 rfl ?_
            refine j_if_le (tgt := 101) M dL_isWhole_94 (by decide) (fun c2 => ?_) (fun c2 => ?_)
            · refine j_iconst (v := 0) M dL_isWhole_101 (by decide) ?_
              refine j_icmp_eq (tgt := 107) M dL_isWhole_102 (by decide) (fun _ => ?_) (fun z => absurd (w_bit0 h hlt1 hlt2 hne c2) z)
              refine j_iload_n M dL_isWhole_107 rfl ?_
              refine j_iload M dL_isWhole_108 rfl ?_
              refine j_if_le (tgt := 117) M dL_isWhole_110 (by decide) (fun _ => ?_) (fun z => absurd c2 z)
              refine j_iconst (v := 0) M dL_isWhole_117 (by decide) ?_
              refine j_iadd M dL_isWhole_118 ?_
              refine j_istore_n (lv' := [(3, .int ((nI (pS K S j1 + cn (cb K S (cr K S j1)) j2)) + 0)), (9, .int (m_clash K S j1 j2)), (0, .ref (K 0)), (1, .int (nI C)), (2, .int (nI (sZ S (K 13)))), (4, .int (nS K S j1)), (5, .int (nI (cn (hC K S) j1))), (6, .int 0), (7, .int (nI j1)), (8, .int (nI j2))]) M dL_isWhole_119 rfl (by decide) rfl ?_
              refine j_iinc (v := (nI (j2 + 1))) (lv' := [(8, .int (nI (j2 + 1))), (3, .int ((nI (pS K S j1 + cn (cb K S (cr K S j1)) j2)) + 0)), (9, .int (m_clash K S j1 j2)), (0, .ref (K 0)), (1, .int (nI C)), (2, .int (nI (sZ S (K 13)))), (4, .int (nS K S j1)), (5, .int (nI (cn (hC K S) j1))), (6, .int 0), (7, .int (nI j1))]) M dL_isWhole_120 rfl (nI_1 _) (by decide) rfl ?_
              refine j_goto (tgt := 29) M dL_isWhole_123 (by decide) ?_
              refine j_pick (lv' := [(0, .ref (K 0)), (1, .int (nI C)), (2, .int (nI (sZ S (K 13)))), (3, .int ((nI (pS K S j1 + cn (cb K S (cr K S j1)) j2)) + 0)), (4, .int (nS K S j1)), (5, .int (nI (cn (hC K S) j1))), (6, .int 0), (7, .int (nI j1)), (8, .int (nI (j2 + 1)))]) [3, 4, 5, 1, 6, 7, 8, 9, 0] rfl ?_
              have q2_3 : (nI (pS K S j1 + cn (cb K S (cr K S j1)) j2)) + 0 = nI (pS K S j1 + cn (cb K S (cr K S j1)) (j2 + 1)) := (by rw [cb_n (cb_f h hlt1 hlt2 (Or.inr c2)), nI_z])
              refine j_eq (lv2 := [(0, .ref (K 0)), (1, .int (nI C)), (2, .int (nI (sZ S (K 13)))), (3, .int (nI (pS K S j1 + cn (cb K S (cr K S j1)) (j2 + 1)))), (4, .int (nS K S j1)), (5, .int (nI (cn (hC K S) j1))), (6, .int 0), (7, .int (nI j1)), (8, .int (nI (j2 + 1)))]) (by rw [q2_3]) rfl rfl ?_
              exact ih2 (j2 + 1) (by omega)
            · refine j_iconst (v := 1) M dL_isWhole_97 (by decide) ?_
              refine j_goto (tgt := 102) M dL_isWhole_98 (by decide) ?_
              refine j_icmp_eq (tgt := 107) M dL_isWhole_102 (by decide) (fun _ => ?_) (fun z => absurd (w_bit1 h hlt1 hlt2 hne c2) z)
              refine j_iload_n M dL_isWhole_107 rfl ?_
              refine j_iload M dL_isWhole_108 rfl ?_
              refine j_if_le (tgt := 117) M dL_isWhole_110 (by decide) (fun z => absurd z c2) (fun _ => ?_)
              refine j_iconst (v := 1) M dL_isWhole_113 (by decide) ?_
              refine j_goto (tgt := 118) M dL_isWhole_114 (by decide) ?_
              refine j_iadd M dL_isWhole_118 ?_
              refine j_istore_n (lv' := [(3, .int ((nI (pS K S j1 + cn (cb K S (cr K S j1)) j2)) + 1)), (9, .int (m_clash K S j1 j2)), (0, .ref (K 0)), (1, .int (nI C)), (2, .int (nI (sZ S (K 13)))), (4, .int (nS K S j1)), (5, .int (nI (cn (hC K S) j1))), (6, .int 0), (7, .int (nI j1)), (8, .int (nI j2))]) M dL_isWhole_119 rfl (by decide) rfl ?_
              refine j_iinc (v := (nI (j2 + 1))) (lv' := [(8, .int (nI (j2 + 1))), (3, .int ((nI (pS K S j1 + cn (cb K S (cr K S j1)) j2)) + 1)), (9, .int (m_clash K S j1 j2)), (0, .ref (K 0)), (1, .int (nI C)), (2, .int (nI (sZ S (K 13)))), (4, .int (nS K S j1)), (5, .int (nI (cn (hC K S) j1))), (6, .int 0), (7, .int (nI j1))]) M dL_isWhole_120 rfl (nI_1 _) (by decide) rfl ?_
              refine j_goto (tgt := 29) M dL_isWhole_123 (by decide) ?_
              refine j_pick (lv' := [(0, .ref (K 0)), (1, .int (nI C)), (2, .int (nI (sZ S (K 13)))), (3, .int ((nI (pS K S j1 + cn (cb K S (cr K S j1)) j2)) + 1)), (4, .int (nS K S j1)), (5, .int (nI (cn (hC K S) j1))), (6, .int 0), (7, .int (nI j1)), (8, .int (nI (j2 + 1)))]) [3, 4, 5, 1, 6, 7, 8, 9, 0] rfl ?_
              have q2_3 : (nI (pS K S j1 + cn (cb K S (cr K S j1)) j2)) + 1 = nI (pS K S j1 + cn (cb K S (cr K S j1)) (j2 + 1)) := (by rw [cb_s (cb_t h hlt1 hlt2 hne c2), nI_1]; rfl)
              refine j_eq (lv2 := [(0, .ref (K 0)), (1, .int (nI C)), (2, .int (nI (sZ S (K 13)))), (3, .int (nI (pS K S j1 + cn (cb K S (cr K S j1)) (j2 + 1)))), (4, .int (nS K S j1)), (5, .int (nI (cn (hC K S) j1))), (6, .int 0), (7, .int (nI j1)), (8, .int (nI (j2 + 1)))]) (by rw [q2_3]) rfl rfl ?_
              exact ih2 (j2 + 1) (by omega)
          · refine j_goto (tgt := 120) M dL_isWhole_42 (by decide) ?_
            refine j_iinc (v := (nI (j2 + 1))) (lv' := [(8, .int (nI (j2 + 1))), (0, .ref (K 0)), (1, .int (nI C)), (2, .int (nI (sZ S (K 13)))), (3, .int (nI (pS K S j1 + cn (cb K S (cr K S j1)) j2))), (4, .int (nS K S j1)), (5, .int (nI (cn (hC K S) j1))), (6, .int 0), (7, .int (nI j1))]) M dL_isWhole_120 rfl (nI_1 _) (by decide) rfl ?_
            refine j_goto (tgt := 29) M dL_isWhole_123 (by decide) ?_
            refine j_pick (lv' := [(0, .ref (K 0)), (1, .int (nI C)), (2, .int (nI (sZ S (K 13)))), (3, .int (nI (pS K S j1 + cn (cb K S (cr K S j1)) j2))), (4, .int (nS K S j1)), (5, .int (nI (cn (hC K S) j1))), (6, .int 0), (7, .int (nI j1)), (8, .int (nI (j2 + 1)))]) [1, 2, 3, 4, 5, 6, 7, 8, 0] rfl ?_
            have q2_3 : nI (pS K S j1 + cn (cb K S (cr K S j1)) j2) = nI (pS K S j1 + cn (cb K S (cr K S j1)) (j2 + 1)) := (by rw [cb_n (cb_f h hlt1 hlt2 (Or.inl ((nI_eq (by omega) (by omega)).mp c1)))])
            refine j_eq (lv2 := [(0, .ref (K 0)), (1, .int (nI C)), (2, .int (nI (sZ S (K 13)))), (3, .int (nI (pS K S j1 + cn (cb K S (cr K S j1)) (j2 + 1)))), (4, .int (nS K S j1)), (5, .int (nI (cn (hC K S) j1))), (6, .int 0), (7, .int (nI j1)), (8, .int (nI (j2 + 1)))]) (by rw [q2_3]) rfl rfl ?_
            exact ih2 (j2 + 1) (by omega)
      refine j_pick (lv' := [(0, .ref (K 0)), (1, .int (nI C)), (2, .int (nI (sZ S (K 13)))), (3, .int (nI (pS K S j1))), (4, .int (nS K S j1)), (5, .int (nI (cn (hC K S) j1))), (6, .int 0), (7, .int (nI j1)), (8, .int 0)]) [1, 2, 3, 4, 5, 6, 7, 8, 0] rfl ?_
      refine j_eq (lv2 := [(0, .ref (K 0)), (1, .int (nI C)), (2, .int (nI (sZ S (K 13)))), (3, .int (nI (pS K S j1 + cn (cb K S (cr K S j1)) 0))), (4, .int (nS K S j1)), (5, .int (nI (cn (hC K S) j1))), (6, .int 0), (7, .int (nI j1)), (8, .int (nI 0))]) rfl rfl rfl ?_
      refine lp2 ?_ (sZ S (K 13)) 0 (Nat.zero_add _)
      refine j_iload M dL_isWhole_126 rfl ?_
      refine j_aload_n M dL_isWhole_128 rfl ?_
      refine j_iload M dL_isWhole_129 rfl ?_
      refine j_bipush (v := 14) M dL_isWhole_131 (by decide) ?_
      refine j_callV1 (As := [.int (nI j1), .int 14]) (x := .int (m_ofCrane K S j1 14)) M cf_X7_ofCrane wM_L_49 (c_ofCrane hW hA hM 14 hlt1 (by decide)) hW.k0.1 (pAt_7 E _ hW.k0.2) rfl rfl ⟨Nat.le_of_ble_eq_true rfl, Nat.le_of_ble_eq_true rfl⟩ (Nat.le_of_ble_eq_true rfl) ⟨Nat.zero_le _, Nat.zero_le _⟩ dL_isWhole_133 rfl ?_
      refine j_iadd M dL_isWhole_136 ?_
      refine j_istore (lv' := [(4, .int ((nS K S j1) + (m_ofCrane K S j1 14))), (0, .ref (K 0)), (1, .int (nI C)), (2, .int (nI (sZ S (K 13)))), (3, .int (nI (pS K S j1 + cn (cb K S (cr K S j1)) (sZ S (K 13))))), (5, .int (nI (cn (hC K S) j1))), (6, .int 0), (7, .int (nI j1))]) M dL_isWhole_137 (by decide) rfl ?_
      refine j_aload_n M dL_isWhole_139 rfl ?_
      refine j_iload M dL_isWhole_140 rfl ?_
      refine j_bipush (v := 9) M dL_isWhole_142 (by decide) ?_
      refine j_callV1 (As := [.int (nI j1), .int 9]) (x := .int (m_ofCrane K S j1 9)) M cf_X7_ofCrane wM_L_49 (c_ofCrane hW hA hM 9 hlt1 (by decide)) hW.k0.1 (pAt_7 E _ hW.k0.2) rfl rfl ⟨Nat.le_of_ble_eq_true rfl, Nat.le_of_ble_eq_true rfl⟩ (Nat.le_of_ble_eq_true rfl) ⟨Nat.zero_le _, Nat.zero_le _⟩ dL_isWhole_144 rfl ?_
      refine j_istore (lv' := [(8, .int (m_ofCrane K S j1 9)), (4, .int ((nS K S j1) + (m_ofCrane K S j1 14))), (0, .ref (K 0)), (1, .int (nI C)), (2, .int (nI (sZ S (K 13)))), (3, .int (nI (pS K S j1 + cn (cb K S (cr K S j1)) (sZ S (K 13))))), (5, .int (nI (cn (hC K S) j1))), (6, .int 0), (7, .int (nI j1))]) M dL_isWhole_147 (by decide) rfl ?_
      rcases w_load h hlt1 with ⟨e9, eb⟩ | ⟨jl, hjl, e9, f2, f1, eb⟩
      · refine j_eq (lv2 := [(8, .int (-1)), (4, .int ((nS K S j1) + (m_ofCrane K S j1 14))), (0, .ref (K 0)), (1, .int (nI C)), (2, .int (nI (sZ S (K 13)))), (3, .int (nI (pS K S j1 + cn (cb K S (cr K S j1)) (sZ S (K 13))))), (5, .int (nI (cn (hC K S) j1))), (6, .int 0), (7, .int (nI j1))]) (by rw [e9]) rfl rfl ?_
        refine j_iload M dL_isWhole_149 rfl ?_
        refine j_if_lt (tgt := 186) M dL_isWhole_151 (by decide) (fun _ => ?_) (fun z => absurd (by decide) z)
        refine j_iload M dL_isWhole_186 rfl ?_
        refine j_iload M dL_isWhole_188 rfl ?_
        refine j_if_lt (tgt := 197) M dL_isWhole_190 (by decide) (fun _ => ?_) (fun z => absurd (by decide) z)
        refine j_iconst (v := 0) M dL_isWhole_197 (by decide) ?_
        refine j_iadd M dL_isWhole_198 ?_
        refine j_istore (lv' := [(5, .int ((nI (cn (hC K S) j1)) + 0)), (8, .int (-1)), (4, .int ((nS K S j1) + (m_ofCrane K S j1 14))), (0, .ref (K 0)), (1, .int (nI C)), (2, .int (nI (sZ S (K 13)))), (3, .int (nI (pS K S j1 + cn (cb K S (cr K S j1)) (sZ S (K 13))))), (6, .int 0), (7, .int (nI j1))]) M dL_isWhole_199 (by decide) rfl ?_
        refine j_aload_n M dL_isWhole_201 rfl ?_
        refine j_iload M dL_isWhole_202 rfl ?_
        refine j_bipush (v := 6) M dL_isWhole_204 (by decide) ?_
        refine j_callV1 (As := [.int (nI j1), .int 6]) (x := .int (m_ofCrane K S j1 6)) M cf_X7_ofCrane wM_L_49 (c_ofCrane hW hA hM 6 hlt1 (by decide)) hW.k0.1 (pAt_7 E _ hW.k0.2) rfl rfl ⟨Nat.le_of_ble_eq_true rfl, Nat.le_of_ble_eq_true rfl⟩ (Nat.le_of_ble_eq_true rfl) ⟨Nat.zero_le _, Nat.zero_le _⟩ dL_isWhole_206 rfl ?_
        refine j_aload_n M dL_isWhole_209 rfl ?_
        refine j_aload_n M dL_isWhole_210 rfl ?_
        refine j_iload M dL_isWhole_211 rfl ?_
        refine j_bipush (v := 10) M dL_isWhole_213 (by decide) ?_
        refine j_callV1 (As := [.int (nI j1), .int 10]) (x := .int (m_ofCrane K S j1 10)) M cf_X7_ofCrane wM_L_49 (c_ofCrane hW hA hM 10 hlt1 (by decide)) hW.k0.1 (pAt_7 E _ hW.k0.2) rfl rfl ⟨Nat.le_of_ble_eq_true rfl, Nat.le_of_ble_eq_true rfl⟩ (Nat.le_of_ble_eq_true rfl) ⟨Nat.zero_le _, Nat.zero_le _⟩ dL_isWhole_215 rfl ?_
        refine j_iconst (v := 0) M dL_isWhole_218 (by decide) ?_
        refine j_callV1 (As := [.int (m_ofCrane K S j1 10), .int 0]) (x := .int (m_ofCell K S (m_ofCrane K S j1 10) 0)) M cf_X7_ofCell wM_L_104 (c_ofCell hW hA hM (m_ofCrane K S j1 10) 0 (ok_plumb h hlt1) (by decide)) hW.k0.1 (pAt_7 E _ hW.k0.2) rfl rfl ⟨Nat.le_of_ble_eq_true rfl, Nat.le_of_ble_eq_true rfl⟩ (Nat.le_of_ble_eq_true rfl) ⟨Nat.zero_le _, Nat.zero_le _⟩ dL_isWhole_219 rfl ?_
        refine j_icmp_le (tgt := 268) M dL_isWhole_222 (by decide) (fun z => absurd z (w_hook h hlt1)) (fun _ => ?_)
        refine j_aload_n M dL_isWhole_225 rfl ?_
        refine j_iload M dL_isWhole_226 rfl ?_
        refine j_bipush (v := 8) M dL_isWhole_228 (by decide) ?_
        refine j_callV1 (As := [.int (nI j1), .int 8]) (x := .int (m_ofCrane K S j1 8)) M cf_X7_ofCrane wM_L_49 (c_ofCrane hW hA hM 8 hlt1 (by decide)) hW.k0.1 (pAt_7 E _ hW.k0.2) rfl rfl ⟨Nat.le_of_ble_eq_true rfl, Nat.le_of_ble_eq_true rfl⟩ (Nat.le_of_ble_eq_true rfl) ⟨Nat.zero_le _, Nat.zero_le _⟩ dL_isWhole_230 rfl ?_
        refine j_bipush (v := 30) M dL_isWhole_233 (by decide) ?_
        refine j_icmp_gt (tgt := 268) M dL_isWhole_235 (by decide) (fun z => absurd z (w_work h hlt1)) (fun _ => ?_)
        refine j_aload_n M dL_isWhole_238 rfl ?_
        refine j_iload M dL_isWhole_239 rfl ?_
        refine j_bipush (v := 7) M dL_isWhole_241 (by decide) ?_
        refine j_callV1 (As := [.int (nI j1), .int 7]) (x := .int (m_ofCrane K S j1 7)) M cf_X7_ofCrane wM_L_49 (c_ofCrane hW hA hM 7 hlt1 (by decide)) hW.k0.1 (pAt_7 E _ hW.k0.2) rfl rfl ⟨Nat.le_of_ble_eq_true rfl, Nat.le_of_ble_eq_true rfl⟩ (Nat.le_of_ble_eq_true rfl) ⟨Nat.zero_le _, Nat.zero_le _⟩ dL_isWhole_243 rfl ?_
        refine j_bipush (v := 20) M dL_isWhole_246 (by decide) ?_
        refine j_icmp_gt (tgt := 268) M dL_isWhole_248 (by decide) (fun z => absurd z (w_sway h hlt1)) (fun _ => ?_)
        refine j_aload_n M dL_isWhole_251 rfl ?_
        refine j_aload_n M dL_isWhole_252 rfl ?_
        refine j_iload M dL_isWhole_253 rfl ?_
        refine j_iconst (v := 0) M dL_isWhole_255 (by decide) ?_
        refine j_callV1 (As := [.int (nI j1), .int 0]) (x := .int (m_ofCrane K S j1 0)) M cf_X7_ofCrane wM_L_49 (c_ofCrane hW hA hM 0 hlt1 (by decide)) hW.k0.1 (pAt_7 E _ hW.k0.2) rfl rfl ⟨Nat.le_of_ble_eq_true rfl, Nat.le_of_ble_eq_true rfl⟩ (Nat.le_of_ble_eq_true rfl) ⟨Nat.zero_le _, Nat.zero_le _⟩ dL_isWhole_256 rfl ?_
        refine j_iconst (v := 3) M dL_isWhole_259 (by decide) ?_
        refine j_callV1 (As := [.int (m_ofCrane K S j1 0), .int 3]) (x := .int (m_ofCell K S (m_ofCrane K S j1 0) 3)) M cf_X7_ofCell wM_L_104 (c_ofCell hW hA hM (m_ofCrane K S j1 0) 3 (ok_tower h hlt1) (by decide)) hW.k0.1 (pAt_7 E _ hW.k0.2) rfl rfl ⟨Nat.le_of_ble_eq_true rfl, Nat.le_of_ble_eq_true rfl⟩ (Nat.le_of_ble_eq_true rfl) ⟨Nat.zero_le _, Nat.zero_le _⟩ dL_isWhole_260 rfl ?_
        refine j_iload M dL_isWhole_263 rfl ?_
        refine j_icmp_eq (tgt := 270) M dL_isWhole_265 (by decide) (fun _ => ?_) (fun z => absurd (w_own h hlt1) z)
        refine j_iinc (v := (nI (j1 + 1))) (lv' := [(7, .int (nI (j1 + 1))), (5, .int ((nI (cn (hC K S) j1)) + 0)), (8, .int (-1)), (4, .int ((nS K S j1) + (m_ofCrane K S j1 14))), (0, .ref (K 0)), (1, .int (nI C)), (2, .int (nI (sZ S (K 13)))), (3, .int (nI (pS K S j1 + cn (cb K S (cr K S j1)) (sZ S (K 13))))), (6, .int 0)]) M dL_isWhole_270 rfl (nI_1 _) (by decide) rfl ?_
        refine j_goto (tgt := 20) M dL_isWhole_273 (by decide) ?_
        refine j_pick (lv' := [(0, .ref (K 0)), (1, .int (nI C)), (2, .int (nI (sZ S (K 13)))), (3, .int (nI (pS K S j1 + cn (cb K S (cr K S j1)) (sZ S (K 13))))), (4, .int ((nS K S j1) + (m_ofCrane K S j1 14))), (5, .int ((nI (cn (hC K S) j1)) + 0)), (6, .int 0), (7, .int (nI (j1 + 1)))]) [4, 5, 6, 7, 3, 1, 8, 0] rfl ?_
        have q1_3 : nI (pS K S j1 + cn (cb K S (cr K S j1)) (sZ S (K 13))) = nI (pS K S (j1 + 1)) := rfl
        have q1_4 : (nS K S j1) + (m_ofCrane K S j1 14) = nS K S (j1 + 1) := rfl
        have q1_5 : (nI (cn (hC K S) j1)) + 0 = nI (cn (hC K S) (j1 + 1)) := (by rw [cb_n eb, nI_z])
        refine j_eq (lv2 := [(0, .ref (K 0)), (1, .int (nI C)), (2, .int (nI (sZ S (K 13)))), (3, .int (nI (pS K S (j1 + 1)))), (4, .int (nS K S (j1 + 1))), (5, .int (nI (cn (hC K S) (j1 + 1)))), (6, .int 0), (7, .int (nI (j1 + 1)))]) (by rw [q1_3, q1_4, q1_5]) rfl rfl ?_
        exact ih1 (j1 + 1) (by omega)
      · refine j_eq (lv2 := [(8, .int (nI jl)), (4, .int ((nS K S j1) + (m_ofCrane K S j1 14))), (0, .ref (K 0)), (1, .int (nI C)), (2, .int (nI (sZ S (K 13)))), (3, .int (nI (pS K S j1 + cn (cb K S (cr K S j1)) (sZ S (K 13))))), (5, .int (nI (cn (hC K S) j1))), (6, .int 0), (7, .int (nI j1))]) (by rw [e9]) rfl rfl ?_
        have f1 : m_ofLoad K S jl 1 = m_ofCrane K S j1 10 := f1.trans (ofCrane_at (K := K) (S := S) (k := j1)).2.2.2.2.2.2.1.symm
        refine j_iload M dL_isWhole_149 rfl ?_
        refine j_if_lt (tgt := 186) M dL_isWhole_151 (by decide) (fun z => absurd z (nI_pos (by omega))) (fun _ => ?_)
        refine j_aload_n M dL_isWhole_154 rfl ?_
        refine j_iload M dL_isWhole_155 rfl ?_
        refine j_iconst (v := 2) M dL_isWhole_157 (by decide) ?_
        refine j_callV1 (As := [.int (nI jl), .int 2]) (x := .int (m_ofLoad K S jl 2)) M cf_X7_ofLoad wM_L_101 (c_ofLoad hW hA hM 2 hjl (by decide)) hW.k0.1 (pAt_7 E _ hW.k0.2) rfl rfl ⟨Nat.le_of_ble_eq_true rfl, Nat.le_of_ble_eq_true rfl⟩ (Nat.le_of_ble_eq_true rfl) ⟨Nat.zero_le _, Nat.zero_le _⟩ dL_isWhole_158 rfl ?_
        refine j_iload M dL_isWhole_161 rfl ?_
        refine j_icmp_ne (tgt := 184) M dL_isWhole_163 (by decide) (fun z => absurd f2 z) (fun _ => ?_)
        refine j_aload_n M dL_isWhole_166 rfl ?_
        refine j_iload M dL_isWhole_167 rfl ?_
        refine j_iconst (v := 1) M dL_isWhole_169 (by decide) ?_
        refine j_callV1 (As := [.int (nI jl), .int 1]) (x := .int (m_ofLoad K S jl 1)) M cf_X7_ofLoad wM_L_101 (c_ofLoad hW hA hM 1 hjl (by decide)) hW.k0.1 (pAt_7 E _ hW.k0.2) rfl rfl ⟨Nat.le_of_ble_eq_true rfl, Nat.le_of_ble_eq_true rfl⟩ (Nat.le_of_ble_eq_true rfl) ⟨Nat.zero_le _, Nat.zero_le _⟩ dL_isWhole_170 rfl ?_
        refine j_aload_n M dL_isWhole_173 rfl ?_
        refine j_iload M dL_isWhole_174 rfl ?_
        refine j_bipush (v := 10) M dL_isWhole_176 (by decide) ?_
        refine j_callV1 (As := [.int (nI j1), .int 10]) (x := .int (m_ofCrane K S j1 10)) M cf_X7_ofCrane wM_L_49 (c_ofCrane hW hA hM 10 hlt1 (by decide)) hW.k0.1 (pAt_7 E _ hW.k0.2) rfl rfl ⟨Nat.le_of_ble_eq_true rfl, Nat.le_of_ble_eq_true rfl⟩ (Nat.le_of_ble_eq_true rfl) ⟨Nat.zero_le _, Nat.zero_le _⟩ dL_isWhole_178 rfl ?_
        refine j_icmp_eq (tgt := 186) M dL_isWhole_181 (by decide) (fun _ => ?_) (fun z => absurd f1 z)
        refine j_iload M dL_isWhole_186 rfl ?_
        refine j_iload M dL_isWhole_188 rfl ?_
        refine j_if_lt (tgt := 197) M dL_isWhole_190 (by decide) (fun z => absurd z (nI_pos (by omega))) (fun _ => ?_)
        refine j_iconst (v := 1) M dL_isWhole_193 (by decide) ?_
        refine j_goto (tgt := 198) M dL_isWhole_194 (by decide) ?_
        refine j_iadd M dL_isWhole_198 ?_
        refine j_istore (lv' := [(5, .int ((nI (cn (hC K S) j1)) + 1)), (8, .int (nI jl)), (4, .int ((nS K S j1) + (m_ofCrane K S j1 14))), (0, .ref (K 0)), (1, .int (nI C)), (2, .int (nI (sZ S (K 13)))), (3, .int (nI (pS K S j1 + cn (cb K S (cr K S j1)) (sZ S (K 13))))), (6, .int 0), (7, .int (nI j1))]) M dL_isWhole_199 (by decide) rfl ?_
        refine j_aload_n M dL_isWhole_201 rfl ?_
        refine j_iload M dL_isWhole_202 rfl ?_
        refine j_bipush (v := 6) M dL_isWhole_204 (by decide) ?_
        refine j_callV1 (As := [.int (nI j1), .int 6]) (x := .int (m_ofCrane K S j1 6)) M cf_X7_ofCrane wM_L_49 (c_ofCrane hW hA hM 6 hlt1 (by decide)) hW.k0.1 (pAt_7 E _ hW.k0.2) rfl rfl ⟨Nat.le_of_ble_eq_true rfl, Nat.le_of_ble_eq_true rfl⟩ (Nat.le_of_ble_eq_true rfl) ⟨Nat.zero_le _, Nat.zero_le _⟩ dL_isWhole_206 rfl ?_
        refine j_aload_n M dL_isWhole_209 rfl ?_
        refine j_aload_n M dL_isWhole_210 rfl ?_
        refine j_iload M dL_isWhole_211 rfl ?_
        refine j_bipush (v := 10) M dL_isWhole_213 (by decide) ?_
        refine j_callV1 (As := [.int (nI j1), .int 10]) (x := .int (m_ofCrane K S j1 10)) M cf_X7_ofCrane wM_L_49 (c_ofCrane hW hA hM 10 hlt1 (by decide)) hW.k0.1 (pAt_7 E _ hW.k0.2) rfl rfl ⟨Nat.le_of_ble_eq_true rfl, Nat.le_of_ble_eq_true rfl⟩ (Nat.le_of_ble_eq_true rfl) ⟨Nat.zero_le _, Nat.zero_le _⟩ dL_isWhole_215 rfl ?_
        refine j_iconst (v := 0) M dL_isWhole_218 (by decide) ?_
        refine j_callV1 (As := [.int (m_ofCrane K S j1 10), .int 0]) (x := .int (m_ofCell K S (m_ofCrane K S j1 10) 0)) M cf_X7_ofCell wM_L_104 (c_ofCell hW hA hM (m_ofCrane K S j1 10) 0 (ok_plumb h hlt1) (by decide)) hW.k0.1 (pAt_7 E _ hW.k0.2) rfl rfl ⟨Nat.le_of_ble_eq_true rfl, Nat.le_of_ble_eq_true rfl⟩ (Nat.le_of_ble_eq_true rfl) ⟨Nat.zero_le _, Nat.zero_le _⟩ dL_isWhole_219 rfl ?_
        refine j_icmp_le (tgt := 268) M dL_isWhole_222 (by decide) (fun z => absurd z (w_hook h hlt1)) (fun _ => ?_)
        refine j_aload_n M dL_isWhole_225 rfl ?_
        refine j_iload M dL_isWhole_226 rfl ?_
        refine j_bipush (v := 8) M dL_isWhole_228 (by decide) ?_
        refine j_callV1 (As := [.int (nI j1), .int 8]) (x := .int (m_ofCrane K S j1 8)) M cf_X7_ofCrane wM_L_49 (c_ofCrane hW hA hM 8 hlt1 (by decide)) hW.k0.1 (pAt_7 E _ hW.k0.2) rfl rfl ⟨Nat.le_of_ble_eq_true rfl, Nat.le_of_ble_eq_true rfl⟩ (Nat.le_of_ble_eq_true rfl) ⟨Nat.zero_le _, Nat.zero_le _⟩ dL_isWhole_230 rfl ?_
        refine j_bipush (v := 30) M dL_isWhole_233 (by decide) ?_
        refine j_icmp_gt (tgt := 268) M dL_isWhole_235 (by decide) (fun z => absurd z (w_work h hlt1)) (fun _ => ?_)
        refine j_aload_n M dL_isWhole_238 rfl ?_
        refine j_iload M dL_isWhole_239 rfl ?_
        refine j_bipush (v := 7) M dL_isWhole_241 (by decide) ?_
        refine j_callV1 (As := [.int (nI j1), .int 7]) (x := .int (m_ofCrane K S j1 7)) M cf_X7_ofCrane wM_L_49 (c_ofCrane hW hA hM 7 hlt1 (by decide)) hW.k0.1 (pAt_7 E _ hW.k0.2) rfl rfl ⟨Nat.le_of_ble_eq_true rfl, Nat.le_of_ble_eq_true rfl⟩ (Nat.le_of_ble_eq_true rfl) ⟨Nat.zero_le _, Nat.zero_le _⟩ dL_isWhole_243 rfl ?_
        refine j_bipush (v := 20) M dL_isWhole_246 (by decide) ?_
        refine j_icmp_gt (tgt := 268) M dL_isWhole_248 (by decide) (fun z => absurd z (w_sway h hlt1)) (fun _ => ?_)
        refine j_aload_n M dL_isWhole_251 rfl ?_
        refine j_aload_n M dL_isWhole_252 rfl ?_
        refine j_iload M dL_isWhole_253 rfl ?_
        refine j_iconst (v := 0) M dL_isWhole_255 (by decide) ?_
        refine j_callV1 (As := [.int (nI j1), .int 0]) (x := .int (m_ofCrane K S j1 0)) M cf_X7_ofCrane wM_L_49 (c_ofCrane hW hA hM 0 hlt1 (by decide)) hW.k0.1 (pAt_7 E _ hW.k0.2) rfl rfl ⟨Nat.le_of_ble_eq_true rfl, Nat.le_of_ble_eq_true rfl⟩ (Nat.le_of_ble_eq_true rfl) ⟨Nat.zero_le _, Nat.zero_le _⟩ dL_isWhole_256 rfl ?_
        refine j_iconst (v := 3) M dL_isWhole_259 (by decide) ?_
        refine j_callV1 (As := [.int (m_ofCrane K S j1 0), .int 3]) (x := .int (m_ofCell K S (m_ofCrane K S j1 0) 3)) M cf_X7_ofCell wM_L_104 (c_ofCell hW hA hM (m_ofCrane K S j1 0) 3 (ok_tower h hlt1) (by decide)) hW.k0.1 (pAt_7 E _ hW.k0.2) rfl rfl ⟨Nat.le_of_ble_eq_true rfl, Nat.le_of_ble_eq_true rfl⟩ (Nat.le_of_ble_eq_true rfl) ⟨Nat.zero_le _, Nat.zero_le _⟩ dL_isWhole_260 rfl ?_
        refine j_iload M dL_isWhole_263 rfl ?_
        refine j_icmp_eq (tgt := 270) M dL_isWhole_265 (by decide) (fun _ => ?_) (fun z => absurd (w_own h hlt1) z)
        refine j_iinc (v := (nI (j1 + 1))) (lv' := [(7, .int (nI (j1 + 1))), (5, .int ((nI (cn (hC K S) j1)) + 1)), (8, .int (nI jl)), (4, .int ((nS K S j1) + (m_ofCrane K S j1 14))), (0, .ref (K 0)), (1, .int (nI C)), (2, .int (nI (sZ S (K 13)))), (3, .int (nI (pS K S j1 + cn (cb K S (cr K S j1)) (sZ S (K 13))))), (6, .int 0)]) M dL_isWhole_270 rfl (nI_1 _) (by decide) rfl ?_
        refine j_goto (tgt := 20) M dL_isWhole_273 (by decide) ?_
        refine j_pick (lv' := [(0, .ref (K 0)), (1, .int (nI C)), (2, .int (nI (sZ S (K 13)))), (3, .int (nI (pS K S j1 + cn (cb K S (cr K S j1)) (sZ S (K 13))))), (4, .int ((nS K S j1) + (m_ofCrane K S j1 14))), (5, .int ((nI (cn (hC K S) j1)) + 1)), (6, .int 0), (7, .int (nI (j1 + 1)))]) [4, 5, 6, 7, 3, 1, 8, 0] rfl ?_
        have q1_3 : nI (pS K S j1 + cn (cb K S (cr K S j1)) (sZ S (K 13))) = nI (pS K S (j1 + 1)) := rfl
        have q1_4 : (nS K S j1) + (m_ofCrane K S j1 14) = nS K S (j1 + 1) := rfl
        have q1_5 : (nI (cn (hC K S) j1)) + 1 = nI (cn (hC K S) (j1 + 1)) := (by rw [cb_s eb, nI_1])
        refine j_eq (lv2 := [(0, .ref (K 0)), (1, .int (nI C)), (2, .int (nI (sZ S (K 13)))), (3, .int (nI (pS K S (j1 + 1)))), (4, .int (nS K S (j1 + 1))), (5, .int (nI (cn (hC K S) (j1 + 1)))), (6, .int 0), (7, .int (nI (j1 + 1)))]) (by rw [q1_3, q1_4, q1_5]) rfl rfl ?_
        exact ih1 (j1 + 1) (by omega)
  refine j_pick (lv' := [(0, .ref (K 0)), (1, .int (nI C)), (2, .int (nI (sZ S (K 13)))), (3, .int 0), (4, .int 0), (5, .int 0), (6, .int 0), (7, .int 0)]) [6, 7, 5, 4, 3, 2, 1, 0] rfl ?_
  refine j_eq (lv2 := [(0, .ref (K 0)), (1, .int (nI C)), (2, .int (nI (sZ S (K 13)))), (3, .int (nI (pS K S 0))), (4, .int (nS K S 0)), (5, .int (nI (cn (hC K S) 0))), (6, .int 0), (7, .int (nI 0))]) rfl rfl rfl ?_
  refine lp1 ?_ (sZ S (K 13)) 0 (Nat.zero_add _)
  refine j_iconst (v := 0) M dL_isWhole_276 (by decide) ?_
  refine j_istore (lv' := [(7, .int 0), (0, .ref (K 0)), (1, .int (nI C)), (2, .int (nI (sZ S (K 13)))), (3, .int (nI (pS K S (sZ S (K 13))))), (4, .int (nS K S (sZ S (K 13)))), (5, .int (nI (cn (hC K S) (sZ S (K 13))))), (6, .int 0)]) M dL_isWhole_277 (by decide) rfl ?_
  have lp3 : (J p l e { frames := 9, cells := 0, slots := 0, locals := 206 } s m ([.ref (K 0), .int (nI C)] : List Value).toArray below meth c (MQ below (QC E (fun v u => v = some (.int 1) ∧ GW K u ∧ QS K S u)) ([.ref (K 0), .int (nI C)] : List Value).toArray s 0 0 (AE E)) E 10 303 [(0, .ref (K 0)), (1, .int (nI C)), (2, .int (nI (sZ S (K 13)))), (3, .int (nI (pS K S (sZ S (K 13))))), (4, .int (nS K S (sZ S (K 13)))), (5, .int (nI (cn (hC K S) (sZ S (K 13))))), (6, .int (nI (lS K S C)))] [] S 0 0) → ∀ (r3 j3 : Nat), j3 + r3 = C → J p l e { frames := 9, cells := 0, slots := 0, locals := 206 } s m ([.ref (K 0), .int (nI C)] : List Value).toArray below meth c (MQ below (QC E (fun v u => v = some (.int 1) ∧ GW K u ∧ QS K S u)) ([.ref (K 0), .int (nI C)] : List Value).toArray s 0 0 (AE E)) E 10 279 [(0, .ref (K 0)), (1, .int (nI C)), (2, .int (nI (sZ S (K 13)))), (3, .int (nI (pS K S (sZ S (K 13))))), (4, .int (nS K S (sZ S (K 13)))), (5, .int (nI (cn (hC K S) (sZ S (K 13))))), (6, .int (nI (lS K S j3))), (7, .int (nI j3))] [] S 0 0 := by
    intro KX3 r3
    induction r3 with
    | zero =>
      intro j3 hj3
      have e3 : j3 = C := by omega
      refine j_iload M dL_isWhole_279 rfl ?_
      refine j_iload_n M dL_isWhole_281 rfl ?_
      refine j_icmp_ge (tgt := 303) M dL_isWhole_282 (by decide) (fun _ => ?_) (fun z => absurd (nI_le (by omega) (by omega)) z)
      refine j_pick (lv' := [(0, .ref (K 0)), (1, .int (nI C)), (2, .int (nI (sZ S (K 13)))), (3, .int (nI (pS K S (sZ S (K 13))))), (4, .int (nS K S (sZ S (K 13)))), (5, .int (nI (cn (hC K S) (sZ S (K 13))))), (6, .int (nI (lS K S j3)))]) [0, 1, 2, 3, 4, 5, 6] rfl ?_
      refine j_eq (lv2 := [(0, .ref (K 0)), (1, .int (nI C)), (2, .int (nI (sZ S (K 13)))), (3, .int (nI (pS K S (sZ S (K 13))))), (4, .int (nS K S (sZ S (K 13)))), (5, .int (nI (cn (hC K S) (sZ S (K 13))))), (6, .int (nI (lS K S C)))]) (by first | rfl | rw [e3]) rfl rfl ?_
      exact KX3
    | succ r3 ih3 =>
      intro j3 hj3
      have hlt3 : j3 < C := by omega
      refine j_iload M dL_isWhole_279 rfl ?_
      refine j_iload_n M dL_isWhole_281 rfl ?_
      refine j_icmp_ge (tgt := 303) M dL_isWhole_282 (by decide) (fun z => absurd z (nI_ge (by omega) (by omega))) (fun _ => ?_)
      refine j_iload M dL_isWhole_285 rfl ?_
      refine j_aload_n M dL_isWhole_287 rfl ?_
      refine j_iload M dL_isWhole_288 rfl ?_
      refine j_iconst (v := 1) M dL_isWhole_290 (by decide) ?_
      refine j_callV1 (As := [.int (nI j3), .int 1]) (x := .int (m_ofCell K S (nI j3) 1)) M cf_X7_ofCell wM_L_104 (c_ofCell hW hA hM (nI j3) 1 (hasCell_ok hcC (by omega) hlt3) (by decide)) hW.k0.1 (pAt_7 E _ hW.k0.2) rfl rfl ⟨Nat.le_of_ble_eq_true rfl, Nat.le_of_ble_eq_true rfl⟩ (Nat.le_of_ble_eq_true rfl) ⟨Nat.zero_le _, Nat.zero_le _⟩ dL_isWhole_291 rfl ?_
      refine j_iadd M dL_isWhole_294 ?_
      refine j_istore (lv' := [(6, .int ((nI (lS K S j3)) + (m_ofCell K S (nI j3) 1))), (0, .ref (K 0)), (1, .int (nI C)), (2, .int (nI (sZ S (K 13)))), (3, .int (nI (pS K S (sZ S (K 13))))), (4, .int (nS K S (sZ S (K 13)))), (5, .int (nI (cn (hC K S) (sZ S (K 13))))), (7, .int (nI j3))]) M dL_isWhole_295 (by decide) rfl ?_
      refine j_iinc (v := (nI (j3 + 1))) (lv' := [(7, .int (nI (j3 + 1))), (6, .int ((nI (lS K S j3)) + (m_ofCell K S (nI j3) 1))), (0, .ref (K 0)), (1, .int (nI C)), (2, .int (nI (sZ S (K 13)))), (3, .int (nI (pS K S (sZ S (K 13))))), (4, .int (nS K S (sZ S (K 13)))), (5, .int (nI (cn (hC K S) (sZ S (K 13)))))]) M dL_isWhole_297 rfl (nI_1 _) (by decide) rfl ?_
      refine j_goto (tgt := 279) M dL_isWhole_300 (by decide) ?_
      refine j_pick (lv' := [(0, .ref (K 0)), (1, .int (nI C)), (2, .int (nI (sZ S (K 13)))), (3, .int (nI (pS K S (sZ S (K 13))))), (4, .int (nS K S (sZ S (K 13)))), (5, .int (nI (cn (hC K S) (sZ S (K 13))))), (6, .int ((nI (lS K S j3)) + (m_ofCell K S (nI j3) 1))), (7, .int (nI (j3 + 1)))]) [2, 3, 4, 5, 6, 7, 1, 0] rfl ?_
      have q3_6 : (nI (lS K S j3)) + (m_ofCell K S (nI j3) 1) = nI (lS K S (j3 + 1)) := (by rw [ofCell_1, w_loadsOn, nI_add]; rfl)
      refine j_eq (lv2 := [(0, .ref (K 0)), (1, .int (nI C)), (2, .int (nI (sZ S (K 13)))), (3, .int (nI (pS K S (sZ S (K 13))))), (4, .int (nS K S (sZ S (K 13)))), (5, .int (nI (cn (hC K S) (sZ S (K 13))))), (6, .int (nI (lS K S (j3 + 1)))), (7, .int (nI (j3 + 1)))]) (by rw [q3_6]) rfl rfl ?_
      exact ih3 (j3 + 1) (by omega)
  refine j_pick (lv' := [(0, .ref (K 0)), (1, .int (nI C)), (2, .int (nI (sZ S (K 13)))), (3, .int (nI (pS K S (sZ S (K 13))))), (4, .int (nS K S (sZ S (K 13)))), (5, .int (nI (cn (hC K S) (sZ S (K 13))))), (6, .int 0), (7, .int 0)]) [1, 2, 3, 4, 5, 6, 7, 0] rfl ?_
  refine j_eq (lv2 := [(0, .ref (K 0)), (1, .int (nI C)), (2, .int (nI (sZ S (K 13)))), (3, .int (nI (pS K S (sZ S (K 13))))), (4, .int (nS K S (sZ S (K 13)))), (5, .int (nI (cn (hC K S) (sZ S (K 13))))), (6, .int (nI (lS K S 0))), (7, .int (nI 0))]) rfl rfl rfl ?_
  refine lp3 ?_ C 0 (Nat.zero_add _)
  refine j_aload_n M dL_isWhole_303 rfl ?_
  refine j_callV1 (As := []) (x := .int (m_isSound K S)) M cf_X7_isSound wM_L_107 (c_isSound hW hA hM) hW.k0.1 (pAt_7 E _ hW.k0.2) rfl rfl ⟨Nat.le_of_ble_eq_true rfl, Nat.le_of_ble_eq_true rfl⟩ (Nat.le_of_ble_eq_true rfl) ⟨Nat.zero_le _, Nat.zero_le _⟩ dL_isWhole_304 rfl ?_
  refine j_if_eq (tgt := 371) M dL_isWhole_307 (by decide) (fun z => absurd z (by rw [w_sound h]; decide)) (fun _ => ?_)
  refine j_aload_n M dL_isWhole_310 rfl ?_
  refine j_bipush (v := 8) M dL_isWhole_311 (by decide) ?_
  refine j_callV1 (As := [.int 8]) (x := .int (m_clashingPairs K S)) M cf_X7_many wM_L_25 (cm_8 hW hA hM) hW.k0.1 (pAt_7 E _ hW.k0.2) rfl rfl ⟨Nat.le_of_ble_eq_true rfl, Nat.le_of_ble_eq_true rfl⟩ (Nat.le_of_ble_eq_true rfl) ⟨Nat.zero_le _, Nat.zero_le _⟩ dL_isWhole_313 rfl ?_
  refine j_iconst (v := 2) M dL_isWhole_316 (by decide) ?_
  refine j_imul M dL_isWhole_317 ?_
  refine j_iload_n M dL_isWhole_318 rfl ?_
  refine j_icmp_ne (tgt := 371) M dL_isWhole_319 (by decide) (fun z => absurd (w_pairs h) z) (fun _ => ?_)
  refine j_aload_n M dL_isWhole_322 rfl ?_
  refine j_bipush (v := 9) M dL_isWhole_323 (by decide) ?_
  refine j_callV1 (As := [.int 9]) (x := .int (m_nearMisses K S)) M cf_X7_many wM_L_25 (cm_9 hW hA hM) hW.k0.1 (pAt_7 E _ hW.k0.2) rfl rfl ⟨Nat.le_of_ble_eq_true rfl, Nat.le_of_ble_eq_true rfl⟩ (Nat.le_of_ble_eq_true rfl) ⟨Nat.zero_le _, Nat.zero_le _⟩ dL_isWhole_325 rfl ?_
  refine j_iload M dL_isWhole_328 rfl ?_
  refine j_icmp_ne (tgt := 371) M dL_isWhole_330 (by decide) (fun z => absurd w_near z) (fun _ => ?_)
  refine j_aload_n M dL_isWhole_333 rfl ?_
  refine j_bipush (v := 12) M dL_isWhole_334 (by decide) ?_
  refine j_callV1 (As := [.int 12]) (x := .int (m_hangingLoads K S)) M cf_X7_many wM_L_25 (cm_12 hW hA hM) hW.k0.1 (pAt_7 E _ hW.k0.2) rfl rfl ⟨Nat.le_of_ble_eq_true rfl, Nat.le_of_ble_eq_true rfl⟩ (Nat.le_of_ble_eq_true rfl) ⟨Nat.zero_le _, Nat.zero_le _⟩ dL_isWhole_336 rfl ?_
  refine j_iload M dL_isWhole_339 rfl ?_
  refine j_icmp_ne (tgt := 371) M dL_isWhole_341 (by decide) (fun z => absurd (w_hang h) z) (fun _ => ?_)
  refine j_aload_n M dL_isWhole_344 rfl ?_
  refine j_iconst (v := 4) M dL_isWhole_345 (by decide) ?_
  refine j_callV1 (As := [.int 4]) (x := .int (nI (sZ S (K 14)))) M cf_X7_many wM_L_25 (cm_4 hW hA hM) hW.k0.1 (pAt_7 E _ hW.k0.2) rfl rfl ⟨Nat.le_of_ble_eq_true rfl, Nat.le_of_ble_eq_true rfl⟩ (Nat.le_of_ble_eq_true rfl) ⟨Nat.zero_le _, Nat.zero_le _⟩ dL_isWhole_346 rfl ?_
  refine j_iload M dL_isWhole_349 rfl ?_
  refine j_iload M dL_isWhole_351 rfl ?_
  refine j_iadd M dL_isWhole_353 ?_
  refine j_icmp_ne (tgt := 371) M dL_isWhole_354 (by decide) (fun z => absurd w_all z) (fun _ => ?_)
  refine j_aload_n M dL_isWhole_357 rfl ?_
  refine j_bipush (v := 13) M dL_isWhole_358 (by decide) ?_
  refine j_callV1 (As := [.int 13]) (x := .int (m_many K S 13).1) M cf_X7_many wM_L_25 (c_many hW hA hM 13 (by decide)) hW.k0.1 (pAt_7 E _ hW.k0.2) rfl rfl ⟨Nat.le_of_ble_eq_true rfl, Nat.le_of_ble_eq_true rfl⟩ (Nat.le_of_ble_eq_true rfl) ⟨Nat.zero_le _, Nat.zero_le _⟩ dL_isWhole_360 rfl ?_
  have gq := gq_many hW hA hM 13
  have w_ord : ¬ nI (sZ S (K 13)) < (m_many K S 13).1 := by
    have e : (m_many K S 13).1 = (m_takeDown K S).1 := by simp [m_many]
    rw [e, (td_at h.kd hW h.to).1]
    exact nI_nlt (ord_len hW) (by omega)
  have w_ord : ¬ nI (sZ S (K 13)) < (m_many K S 13).1 := w_ord
  refine j_iload_n M dL_isWhole_363 rfl ?_
  refine j_icmp_gt (tgt := 371) M dL_isWhole_364 (by decide) (fun z => absurd z w_ord) (fun _ => ?_)
  refine j_iconst (v := 1) M dL_isWhole_367 (by decide) ?_
  refine j_goto (tgt := 372) M dL_isWhole_368 (by decide) ?_
  exact j_zret (v := 1) M dL_isWhole_372 (Nat.le_refl _) (Nat.le_refl _) rfl ⟨rfl, gq.1, gq.2⟩
