theorem uI_uI (S : PS) (f a : Nat) (v w : Int32) : uI (uI S f a v) f a w = uI S f a w := by
  have h : up2 (up2 (sI S) f a v) f a w = up2 (sI S) f a w := by
    funext k b
    by_cases h1 : k = f <;> by_cases h2 : b = a <;> simp [up2, h1, h2]
  show (sL S, sK S, up2 (up2 (sI S) f a v) f a w, sR S, sM S, sE S, sZ S, sN S, sA S, sO S) = _
  rw [h]
theorem cap_end {x : Int32} {j : Nat} (h : x ≤ 20) (hj : 20 ≤ j) (hj2 : j < 2 ^ 31) : x ≤ nI j := Int32.le_trans h (show nI 20 ≤ nI j from nI_le hj hj2)
theorem tsw_out {x : Int32} {lo hi : Int} (h : ∀ k : Int, lo ≤ k → k ≤ hi → ¬ x = Int32.ofInt k) : x.toInt < lo ∨ hi < x.toInt := by
  by_cases h1 : x.toInt < lo
  · exact Or.inl h1
  · by_cases h2 : hi < x.toInt
    · exact Or.inr h2
    · exact absurd (Int32.ofInt_toInt x).symm (h _ (by omega) (by omega))
theorem nar_rf (C : String) (x : Option Nat) : narrow (.object C) (va_rf x) = va_rf x := by cases x <;> rfl
theorem fit_rf (C : String) (x : Option Nat) : fits (.object C) (va_rf x) = true := by cases x <;> rfl
theorem vp_ofp {i : Int32} {n : Nat} (hn : n < 2 ^ 31) (h1 : 0 ≤ i) (h2 : i < nI n) : vp_in i n := vp_of hn (Int32.not_lt.mpr h1) (Int32.not_le.mpr h2)
def m_settle (K : Nat → Nat) (S : PS) (a : Nat) (t : Int32) : PS :=
  uI S 12 a (imax ((sI S 12 a) - t) 0)
theorem cf_X0_settle : CFv yX0_settle RX0 cX0_settle 2 none 1 := ⟨wC_X0_settle, wI_X0_settle, wV_X0_X0_settle, wN_X0, by decide +kernel⟩
set_option maxHeartbeats 4000000 in
set_option maxRecDepth 100000 in
theorem c_settle {l : Launch} {E : EV} {K : Nat → Nat} {S : PS} (hW : WS K S) (hA : AW S) (hM : WM S) {a : Nat} (haL : a ∈ sL S) (haK : sK S a = 0) (t : Int32) : CT l yX0_settle cX0_settle 2 none 1 14 0 0 E [.ref a, .int t] S (p0 (m_settle K S a t)) := by
  refine CT.of (by decide) (Nat.le_of_ble_eq_true rfl) ?_
  intro p e s m below meth c M hin
  have M : MC E p s m _ meth c cX0_settle RX0 2 none := M
  show J p l e _ s m _ below meth c _ E 2 0 [(0, .ref a), (1, .int t)] [] S 0 0
  refine j_aload_n M dX0_settle_0 rfl ?_
  refine j_aload_n M dX0_settle_1 rfl ?_
  refine j_get (v := .int (sI S 12 a)) M haL (pAt_0 E _ haK) rfl inU_X0 12 (by decide) wF_X0_21 (fun _ h => h) rfl dX0_settle_2 ?_
  refine j_iload_n M dX0_settle_5 rfl ?_
  refine j_isub M dX0_settle_6 ?_
  refine j_iconst (v := 0) M dX0_settle_7 (by decide) ?_
  refine j_max M wM_X0_94 dX0_settle_8 (Nat.le_of_ble_eq_true rfl) (Nat.le_of_ble_eq_true rfl) ⟨Nat.zero_le _, Nat.zero_le _⟩ ?_
  refine j_put (host := "") (S2 := uI S 12 a (imax ((sI S 12 a) - t) 0)) M haL (pAt_0 E _ haK) rfl inU_X0 12 (by decide) tyX0 tyX0_ok nmX0 wF_X0_21 (fun _ h => h) rfl (tyX0_ok 12 (by decide)) rfl rfl (Nat.le_of_ble_eq_true rfl) rfl (pUp_12 E S haK _) dX0_settle_11 ?_
  exact j_vret M dX0_settle_14 (Nat.le_refl _) (Nat.le_refl _) ⟨rfl, (show uI S 12 a (imax ((sI S 12 a) - t) 0) = m_settle K S a t from rfl)⟩
def m_mimic (K : Nat → Nat) (S : PS) (a : Nat) (b : Nat) : PS :=
  uM (uI (uI (uI (uI (uI (uI (uI (uI (uI (uI (uI S 1 a (sI S 1 b)) 2 a (sI S 2 b)) 3 a (sI S 3 b)) 4 a (sI S 4 b)) 5 a (sI S 5 b)) 6 a (sI S 6 b)) 7 a (sI S 7 b)) 8 a (sI S 8 b)) 9 a (sI S 9 b)) 10 a (sI S 10 b)) 11 a (sI S 11 b)) 14 a (sM S 14 b)
theorem cf_X0_mimic : CFv yX0_mimic RX0 cX0_mimic 2 none 1 := ⟨wC_X0_mimic, wI_X0_mimic, wV_X0_X0_mimic, wN_X0, by decide +kernel⟩
set_option maxHeartbeats 4000000 in
set_option maxRecDepth 100000 in
theorem c_mimic {l : Launch} {E : EV} {K : Nat → Nat} {S : PS} (hW : WS K S) (hA : AW S) (hM : WM S) {a : Nat} (haL : a ∈ sL S) (haK : sK S a = 0) {b : Nat} (hbL : b ∈ sL S) (hbK : sK S b = 0) : CT l yX0_mimic cX0_mimic 2 none 0 0 0 0 E [.ref a, .ref b] S (p0 (m_mimic K S a b)) := by
  refine CT.of (by decide) (Nat.le_of_ble_eq_true rfl) ?_
  intro p e s m below meth c M hin
  have M : MC E p s m _ meth c cX0_mimic RX0 2 none := M
  show J p l e _ s m _ below meth c _ E 2 0 [(0, .ref a), (1, .ref b)] [] S 0 0
  refine j_aload_n M dX0_mimic_0 rfl ?_
  refine j_aload_n M dX0_mimic_1 rfl ?_
  refine j_get (v := .int (sI S 1 b)) M hbL (pAt_0 E _ hbK) rfl inU_X0 1 (by decide) wF_X0_38 (fun _ h => h) rfl dX0_mimic_2 ?_
  refine j_put (host := "") (S2 := uI S 1 a (sI S 1 b)) M haL (pAt_0 E _ haK) rfl inU_X0 1 (by decide) tyX0 tyX0_ok nmX0 wF_X0_38 (fun _ h => h) rfl (tyX0_ok 1 (by decide)) rfl rfl (Nat.le_of_ble_eq_true rfl) rfl (pUp_1 E S haK _) dX0_mimic_5 ?_
  refine j_aload_n M dX0_mimic_8 rfl ?_
  refine j_aload_n M dX0_mimic_9 rfl ?_
  refine j_get (v := .int (sI S 2 b)) M hbL (pAt_0 E _ hbK) rfl inU_X0 2 (by decide) wF_X0_41 (fun _ h => h) rfl dX0_mimic_10 ?_
  refine j_put (host := "") (S2 := uI (uI S 1 a (sI S 1 b)) 2 a (sI S 2 b)) M haL (pAt_0 E _ haK) rfl inU_X0 2 (by decide) tyX0 tyX0_ok nmX0 wF_X0_41 (fun _ h => h) rfl (tyX0_ok 2 (by decide)) rfl rfl (Nat.le_of_ble_eq_true rfl) rfl (pUp_2 E (uI S 1 a (sI S 1 b)) haK _) dX0_mimic_13 ?_
  refine j_aload_n M dX0_mimic_16 rfl ?_
  refine j_aload_n M dX0_mimic_17 rfl ?_
  refine j_get (v := .int (sI S 3 b)) M hbL (pAt_0 E _ hbK) rfl inU_X0 3 (by decide) wF_X0_50 (fun _ h => h) rfl dX0_mimic_18 ?_
  refine j_put (host := "") (S2 := uI (uI (uI S 1 a (sI S 1 b)) 2 a (sI S 2 b)) 3 a (sI S 3 b)) M haL (pAt_0 E _ haK) rfl inU_X0 3 (by decide) tyX0 tyX0_ok nmX0 wF_X0_50 (fun _ h => h) rfl (tyX0_ok 3 (by decide)) rfl rfl (Nat.le_of_ble_eq_true rfl) rfl (pUp_3 E (uI (uI S 1 a (sI S 1 b)) 2 a (sI S 2 b)) haK _) dX0_mimic_21 ?_
  refine j_aload_n M dX0_mimic_24 rfl ?_
  refine j_aload_n M dX0_mimic_25 rfl ?_
  refine j_get (v := .int (sI S 4 b)) M hbL (pAt_0 E _ hbK) rfl inU_X0 4 (by decide) wF_X0_56 (fun _ h => h) rfl dX0_mimic_26 ?_
  refine j_put (host := "") (S2 := uI (uI (uI (uI S 1 a (sI S 1 b)) 2 a (sI S 2 b)) 3 a (sI S 3 b)) 4 a (sI S 4 b)) M haL (pAt_0 E _ haK) rfl inU_X0 4 (by decide) tyX0 tyX0_ok nmX0 wF_X0_56 (fun _ h => h) rfl (tyX0_ok 4 (by decide)) rfl rfl (Nat.le_of_ble_eq_true rfl) rfl (pUp_4 E (uI (uI (uI S 1 a (sI S 1 b)) 2 a (sI S 2 b)) 3 a (sI S 3 b)) haK _) dX0_mimic_29 ?_
  refine j_aload_n M dX0_mimic_32 rfl ?_
  refine j_aload_n M dX0_mimic_33 rfl ?_
  refine j_get (v := .int (sI S 5 b)) M hbL (pAt_0 E _ hbK) rfl inU_X0 5 (by decide) wF_X0_59 (fun _ h => h) rfl dX0_mimic_34 ?_
  refine j_put (host := "") (S2 := uI (uI (uI (uI (uI S 1 a (sI S 1 b)) 2 a (sI S 2 b)) 3 a (sI S 3 b)) 4 a (sI S 4 b)) 5 a (sI S 5 b)) M haL (pAt_0 E _ haK) rfl inU_X0 5 (by decide) tyX0 tyX0_ok nmX0 wF_X0_59 (fun _ h => h) rfl (tyX0_ok 5 (by decide)) rfl rfl (Nat.le_of_ble_eq_true rfl) rfl (pUp_5 E (uI (uI (uI (uI S 1 a (sI S 1 b)) 2 a (sI S 2 b)) 3 a (sI S 3 b)) 4 a (sI S 4 b)) haK _) dX0_mimic_37 ?_
  refine j_aload_n M dX0_mimic_40 rfl ?_
  refine j_aload_n M dX0_mimic_41 rfl ?_
  refine j_get (v := .int (sI S 6 b)) M hbL (pAt_0 E _ hbK) rfl inU_X0 6 (by decide) wF_X0_62 (fun _ h => h) rfl dX0_mimic_42 ?_
  refine j_put (host := "") (S2 := uI (uI (uI (uI (uI (uI S 1 a (sI S 1 b)) 2 a (sI S 2 b)) 3 a (sI S 3 b)) 4 a (sI S 4 b)) 5 a (sI S 5 b)) 6 a (sI S 6 b)) M haL (pAt_0 E _ haK) rfl inU_X0 6 (by decide) tyX0 tyX0_ok nmX0 wF_X0_62 (fun _ h => h) rfl (tyX0_ok 6 (by decide)) rfl rfl (Nat.le_of_ble_eq_true rfl) rfl (pUp_6 E (uI (uI (uI (uI (uI S 1 a (sI S 1 b)) 2 a (sI S 2 b)) 3 a (sI S 3 b)) 4 a (sI S 4 b)) 5 a (sI S 5 b)) haK _) dX0_mimic_45 ?_
  refine j_aload_n M dX0_mimic_48 rfl ?_
  refine j_aload_n M dX0_mimic_49 rfl ?_
  refine j_get (v := .int (sI S 7 b)) M hbL (pAt_0 E _ hbK) rfl inU_X0 7 (by decide) wF_X0_65 (fun _ h => h) rfl dX0_mimic_50 ?_
  refine j_put (host := "") (S2 := uI (uI (uI (uI (uI (uI (uI S 1 a (sI S 1 b)) 2 a (sI S 2 b)) 3 a (sI S 3 b)) 4 a (sI S 4 b)) 5 a (sI S 5 b)) 6 a (sI S 6 b)) 7 a (sI S 7 b)) M haL (pAt_0 E _ haK) rfl inU_X0 7 (by decide) tyX0 tyX0_ok nmX0 wF_X0_65 (fun _ h => h) rfl (tyX0_ok 7 (by decide)) rfl rfl (Nat.le_of_ble_eq_true rfl) rfl (pUp_7 E (uI (uI (uI (uI (uI (uI S 1 a (sI S 1 b)) 2 a (sI S 2 b)) 3 a (sI S 3 b)) 4 a (sI S 4 b)) 5 a (sI S 5 b)) 6 a (sI S 6 b)) haK _) dX0_mimic_53 ?_
  refine j_aload_n M dX0_mimic_56 rfl ?_
  refine j_aload_n M dX0_mimic_57 rfl ?_
  refine j_get (v := .int (sI S 8 b)) M hbL (pAt_0 E _ hbK) rfl inU_X0 8 (by decide) wF_X0_9 (fun _ h => h) rfl dX0_mimic_58 ?_
  refine j_put (host := "") (S2 := uI (uI (uI (uI (uI (uI (uI (uI S 1 a (sI S 1 b)) 2 a (sI S 2 b)) 3 a (sI S 3 b)) 4 a (sI S 4 b)) 5 a (sI S 5 b)) 6 a (sI S 6 b)) 7 a (sI S 7 b)) 8 a (sI S 8 b)) M haL (pAt_0 E _ haK) rfl inU_X0 8 (by decide) tyX0 tyX0_ok nmX0 wF_X0_9 (fun _ h => h) rfl (tyX0_ok 8 (by decide)) rfl rfl (Nat.le_of_ble_eq_true rfl) rfl (pUp_8 E (uI (uI (uI (uI (uI (uI (uI S 1 a (sI S 1 b)) 2 a (sI S 2 b)) 3 a (sI S 3 b)) 4 a (sI S 4 b)) 5 a (sI S 5 b)) 6 a (sI S 6 b)) 7 a (sI S 7 b)) haK _) dX0_mimic_61 ?_
  refine j_aload_n M dX0_mimic_64 rfl ?_
  refine j_aload_n M dX0_mimic_65 rfl ?_
  refine j_get (v := .int (sI S 9 b)) M hbL (pAt_0 E _ hbK) rfl inU_X0 9 (by decide) wF_X0_15 (fun _ h => h) rfl dX0_mimic_66 ?_
  refine j_put (host := "") (S2 := uI (uI (uI (uI (uI (uI (uI (uI (uI S 1 a (sI S 1 b)) 2 a (sI S 2 b)) 3 a (sI S 3 b)) 4 a (sI S 4 b)) 5 a (sI S 5 b)) 6 a (sI S 6 b)) 7 a (sI S 7 b)) 8 a (sI S 8 b)) 9 a (sI S 9 b)) M haL (pAt_0 E _ haK) rfl inU_X0 9 (by decide) tyX0 tyX0_ok nmX0 wF_X0_15 (fun _ h => h) rfl (tyX0_ok 9 (by decide)) rfl rfl (Nat.le_of_ble_eq_true rfl) rfl (pUp_9 E (uI (uI (uI (uI (uI (uI (uI (uI S 1 a (sI S 1 b)) 2 a (sI S 2 b)) 3 a (sI S 3 b)) 4 a (sI S 4 b)) 5 a (sI S 5 b)) 6 a (sI S 6 b)) 7 a (sI S 7 b)) 8 a (sI S 8 b)) haK _) dX0_mimic_69 ?_
  refine j_aload_n M dX0_mimic_72 rfl ?_
  refine j_aload_n M dX0_mimic_73 rfl ?_
  refine j_get (v := .int (sI S 10 b)) M hbL (pAt_0 E _ hbK) rfl inU_X0 10 (by decide) wF_X0_18 (fun _ h => h) rfl dX0_mimic_74 ?_
  refine j_put (host := "") (S2 := uI (uI (uI (uI (uI (uI (uI (uI (uI (uI S 1 a (sI S 1 b)) 2 a (sI S 2 b)) 3 a (sI S 3 b)) 4 a (sI S 4 b)) 5 a (sI S 5 b)) 6 a (sI S 6 b)) 7 a (sI S 7 b)) 8 a (sI S 8 b)) 9 a (sI S 9 b)) 10 a (sI S 10 b)) M haL (pAt_0 E _ haK) rfl inU_X0 10 (by decide) tyX0 tyX0_ok nmX0 wF_X0_18 (fun _ h => h) rfl (tyX0_ok 10 (by decide)) rfl rfl (Nat.le_of_ble_eq_true rfl) rfl (pUp_10 E (uI (uI (uI (uI (uI (uI (uI (uI (uI S 1 a (sI S 1 b)) 2 a (sI S 2 b)) 3 a (sI S 3 b)) 4 a (sI S 4 b)) 5 a (sI S 5 b)) 6 a (sI S 6 b)) 7 a (sI S 7 b)) 8 a (sI S 8 b)) 9 a (sI S 9 b)) haK _) dX0_mimic_77 ?_
  refine j_aload_n M dX0_mimic_80 rfl ?_
  refine j_aload_n M dX0_mimic_81 rfl ?_
  refine j_get (v := .int (sI S 11 b)) M hbL (pAt_0 E _ hbK) rfl inU_X0 11 (by decide) wF_X0_68 (fun _ h => h) rfl dX0_mimic_82 ?_
  refine j_put (host := "") (S2 := uI (uI (uI (uI (uI (uI (uI (uI (uI (uI (uI S 1 a (sI S 1 b)) 2 a (sI S 2 b)) 3 a (sI S 3 b)) 4 a (sI S 4 b)) 5 a (sI S 5 b)) 6 a (sI S 6 b)) 7 a (sI S 7 b)) 8 a (sI S 8 b)) 9 a (sI S 9 b)) 10 a (sI S 10 b)) 11 a (sI S 11 b)) M haL (pAt_0 E _ haK) rfl inU_X0 11 (by decide) tyX0 tyX0_ok nmX0 wF_X0_68 (fun _ h => h) rfl (tyX0_ok 11 (by decide)) rfl rfl (Nat.le_of_ble_eq_true rfl) rfl (pUp_11 E (uI (uI (uI (uI (uI (uI (uI (uI (uI (uI S 1 a (sI S 1 b)) 2 a (sI S 2 b)) 3 a (sI S 3 b)) 4 a (sI S 4 b)) 5 a (sI S 5 b)) 6 a (sI S 6 b)) 7 a (sI S 7 b)) 8 a (sI S 8 b)) 9 a (sI S 9 b)) 10 a (sI S 10 b)) haK _) dX0_mimic_85 ?_
  refine j_aload_n M dX0_mimic_88 rfl ?_
  refine j_aload_n M dX0_mimic_89 rfl ?_
  refine j_get (v := va_rf (sM S 14 b)) M hbL (pAt_0 E _ hbK) rfl inU_X0 14 (by decide) wF_X0_27 (fun _ h => h) rfl dX0_mimic_90 ?_
  refine j_put (host := "") (S2 := uM (uI (uI (uI (uI (uI (uI (uI (uI (uI (uI (uI S 1 a (sI S 1 b)) 2 a (sI S 2 b)) 3 a (sI S 3 b)) 4 a (sI S 4 b)) 5 a (sI S 5 b)) 6 a (sI S 6 b)) 7 a (sI S 7 b)) 8 a (sI S 8 b)) 9 a (sI S 9 b)) 10 a (sI S 10 b)) 11 a (sI S 11 b)) 14 a (sM S 14 b)) M haL (pAt_0 E _ haK) rfl inU_X0 14 (by decide) tyX0 tyX0_ok nmX0 wF_X0_27 (fun _ h => h) rfl (tyX0_ok 14 (by decide)) (nar_rf _ _) (fit_rf _ _) (Nat.le_of_ble_eq_true rfl) rfl (pUp_14 E (uI (uI (uI (uI (uI (uI (uI (uI (uI (uI (uI S 1 a (sI S 1 b)) 2 a (sI S 2 b)) 3 a (sI S 3 b)) 4 a (sI S 4 b)) 5 a (sI S 5 b)) 6 a (sI S 6 b)) 7 a (sI S 7 b)) 8 a (sI S 8 b)) 9 a (sI S 9 b)) 10 a (sI S 10 b)) 11 a (sI S 11 b)) haK (sM S 14 b)) dX0_mimic_93 ?_
  exact j_vret M dX0_mimic_96 (Nat.le_refl _) (Nat.le_refl _) ⟨rfl, (show uM (uI (uI (uI (uI (uI (uI (uI (uI (uI (uI (uI S 1 a (sI S 1 b)) 2 a (sI S 2 b)) 3 a (sI S 3 b)) 4 a (sI S 4 b)) 5 a (sI S 5 b)) 6 a (sI S 6 b)) 7 a (sI S 7 b)) 8 a (sI S 8 b)) 9 a (sI S 9 b)) 10 a (sI S 10 b)) 11 a (sI S 11 b)) 14 a (sM S 14 b) = m_mimic K S a b from rfl)⟩
def m_hangOn (K : Nat → Nat) (S : PS) (a : Nat) (b : Nat) : PS :=
  uM (uM S 22 a (some b)) 14 b (some a)
theorem cf_X2_hangOn : CFv yX2_hangOn RX2 cX2_hangOn 2 none 1 := ⟨wC_X2_hangOn, wI_X2_hangOn, wV_X2_X2_hangOn, wN_X2, by decide +kernel⟩
set_option maxHeartbeats 4000000 in
set_option maxRecDepth 100000 in
theorem c_hangOn {l : Launch} {E : EV} {K : Nat → Nat} {S : PS} (hW : WS K S) (hA : AW S) (hM : WM S) {a : Nat} (haL : a ∈ sL S) (haK : sK S a = 2) {b : Nat} (hbL : b ∈ sL S) (hbK : sK S b = 0) : CT l yX2_hangOn cX2_hangOn 2 none 0 0 0 0 E [.ref a, .ref b] S (p0 (m_hangOn K S a b)) := by
  refine CT.of (by decide) (Nat.le_of_ble_eq_true rfl) ?_
  intro p e s m below meth c M hin
  have M : MC E p s m _ meth c cX2_hangOn RX2 2 none := M
  show J p l e _ s m _ below meth c _ E 2 0 [(0, .ref a), (1, .ref b)] [] S 0 0
  refine j_aload_n M dX2_hangOn_0 rfl ?_
  refine j_aload_n M dX2_hangOn_1 rfl ?_
  refine j_put (host := "") (S2 := uM S 22 a (some b)) M haL (pAt_2 E _ haK) rfl inU_X2 3 (by decide) tyX2 tyX2_ok nmX2 wF_X2_7 (fun _ h => h) rfl (tyX2_ok 3 (by decide)) rfl rfl (Nat.le_of_ble_eq_true rfl) rfl (pUp_22 E S haK (some b)) dX2_hangOn_2 ?_
  refine j_aload_n M dX2_hangOn_5 rfl ?_
  refine j_aload_n M dX2_hangOn_6 rfl ?_
  refine j_putN (S2 := uM (uM S 22 a (some b)) 14 b (some a)) M hbL (pAt_0 E _ hbK) rfl inU_X0 14 (by decide) tyX0 tyX0_ok nmX0 nF_X2_29 (fun _ h => h) rfl (tyX0_ok 14 (by decide)) rfl rfl (Nat.le_of_ble_eq_true rfl) rfl (pUp_14 E (uM S 22 a (some b)) hbK (some a)) dX2_hangOn_7 ?_
  exact j_vret M dX2_hangOn_10 (Nat.le_refl _) (Nat.le_refl _) ⟨rfl, (show uM (uM S 22 a (some b)) 14 b (some a) = m_hangOn K S a b from rfl)⟩
def m_lieOn (K : Nat → Nat) (S : PS) (a : Nat) (x : Int32) : PS :=
  uI (uM S 22 a none) 21 a x
theorem cf_X2_lieOn : CFv yX2_lieOn RX2 cX2_lieOn 2 none 1 := ⟨wC_X2_lieOn, wI_X2_lieOn, wV_X2_X2_lieOn, wN_X2, by decide +kernel⟩
set_option maxHeartbeats 4000000 in
set_option maxRecDepth 100000 in
theorem c_lieOn {l : Launch} {E : EV} {K : Nat → Nat} {S : PS} (hW : WS K S) (hA : AW S) (hM : WM S) {a : Nat} (haL : a ∈ sL S) (haK : sK S a = 2) (x : Int32) : CT l yX2_lieOn cX2_lieOn 2 none 0 0 0 0 E [.ref a, .int x] S (p0 (m_lieOn K S a x)) := by
  refine CT.of (by decide) (Nat.le_of_ble_eq_true rfl) ?_
  intro p e s m below meth c M hin
  have M : MC E p s m _ meth c cX2_lieOn RX2 2 none := M
  show J p l e _ s m _ below meth c _ E 2 0 [(0, .ref a), (1, .int x)] [] S 0 0
  refine j_aload_n M dX2_lieOn_0 rfl ?_
  refine j_null M dX2_lieOn_1 ?_
  refine j_put (host := "") (S2 := uM S 22 a none) M haL (pAt_2 E _ haK) rfl inU_X2 3 (by decide) tyX2 tyX2_ok nmX2 wF_X2_7 (fun _ h => h) rfl (tyX2_ok 3 (by decide)) rfl rfl (Nat.le_of_ble_eq_true rfl) rfl (pUp_22 E S haK none) dX2_lieOn_2 ?_
  refine j_aload_n M dX2_lieOn_5 rfl ?_
  refine j_iload_n M dX2_lieOn_6 rfl ?_
  refine j_put (host := "") (S2 := uI (uM S 22 a none) 21 a x) M haL (pAt_2 E _ haK) rfl inU_X2 2 (by decide) tyX2 tyX2_ok nmX2 wF_X2_17 (fun _ h => h) rfl (tyX2_ok 2 (by decide)) rfl rfl (Nat.le_of_ble_eq_true rfl) rfl (pUp_21 E (uM S 22 a none) haK _) dX2_lieOn_7 ?_
  exact j_vret M dX2_lieOn_10 (Nat.le_refl _) (Nat.le_refl _) ⟨rfl, (show uI (uM S 22 a none) 21 a x = m_lieOn K S a x from rfl)⟩
def m_build (K : Nat → Nat) (S : PS) (x : Int32) (h : Int32) : PS :=
  if x < 0 then
    S
  else
    if (nI (sN S (K 6))) ≤ x then
      S
    else
      uA S (K 6) (upd (sA S (K 6)) x.toNatClampNeg h)
theorem cf_X1_build : CFv yX1_build RX1 cX1_build 3 none 2 := ⟨wC_X1_build, wI_X1_build, wV_X1_X1_build, wN_X1, by decide +kernel⟩
set_option maxHeartbeats 4000000 in
set_option maxRecDepth 100000 in
theorem c_build {l : Launch} {E : EV} {K : Nat → Nat} {S : PS} (hW : WS K S) (hA : AW S) (hM : WM S) (x : Int32) (h : Int32) : CT l yX1_build cX1_build 3 none 0 0 0 0 E [.ref (K 2), .int x, .int h] S (p0 (m_build K S x h)) := by
  refine CT.of (by decide) (Nat.le_of_ble_eq_true rfl) ?_
  intro p e s m below meth c M hin
  have M : MC E p s m _ meth c cX1_build RX1 3 none := M
  show J p l e _ s m _ below meth c _ E 3 0 [(0, .ref (K 2)), (1, .int x), (2, .int h)] [] S 0 0
  refine j_iload_n M dX1_build_0 rfl ?_
  refine j_if_lt (tgt := 20) M dX1_build_1 (by decide) (fun c1 => ?_) (fun c1 => ?_)
  · exact j_vret M dX1_build_20 (Nat.le_refl _) (Nat.le_refl _) ⟨rfl, (show S = m_build K S x h from (by unfold m_build; rw [if_pos c1]))⟩
  · refine j_iload_n M dX1_build_4 rfl ?_
    refine j_aload_n M dX1_build_5 rfl ?_
    refine j_get (v := .ref (K 6)) M hW.k2.1 (pAt_1 E _ hW.k2.2) rfl inU_X1 0 (by decide) wF_X1_9 (fun _ h => h) (rfv hW.r16) dX1_build_6 ?_
    refine j_alen M hW.k6.1 hW.k6.2 dX1_build_9 ?_
    refine j_icmp_ge (tgt := 20) M dX1_build_10 (by decide) (fun c2 => ?_) (fun c2 => ?_)
    · exact j_vret M dX1_build_20 (Nat.le_refl _) (Nat.le_refl _) ⟨rfl, (show S = m_build K S x h from (by unfold m_build; rw [if_neg c1, if_pos c2]))⟩
    · refine j_aload_n M dX1_build_13 rfl ?_
      refine j_get (v := .ref (K 6)) M hW.k2.1 (pAt_1 E _ hW.k2.2) rfl inU_X1 0 (by decide) wF_X1_9 (fun _ h => h) (rfv hW.r16) dX1_build_14 ?_
      refine j_iload_n M dX1_build_17 rfl ?_
      refine j_iload_n M dX1_build_18 rfl ?_
      refine j_iast M hW.k6.1 hW.k6.2 (vp_of (by rw [hW.n6]; decide) c1 c2) dX1_build_19 ?_
      exact j_vret M dX1_build_20 (Nat.le_refl _) (Nat.le_refl _) ⟨rfl, (show uA S (K 6) (upd (sA S (K 6)) x.toNatClampNeg h) = m_build K S x h from (by unfold m_build; rw [if_neg c1, if_neg c2]))⟩
def m_faceN (K : Nat → Nat) (S : PS) (a : Nat) (b : Int32) : Nat → Nat → Nat
  | 0, j => j
  | r + 1, j => if (sI S 6 a) ≤ (nI j) then j else if (m_hasPlace K (uI (uI S 8 a b) 9 a (nI j)) (m_rowAt K (uI (uI S 8 a b) 9 a (nI j)) a ((nI j) + 1)) (m_columnAt K (uI (uI S 8 a b) 9 a (nI j)) a ((nI j) + 1))) = 0 then j else m_faceN K S a b r (j + 1)
def m_face (K : Nat → Nat) (S : PS) (a : Nat) (b : Int32) : PS :=
  uI (uI S 8 a b) 9 a (nI (m_faceN K S a b 21 0))
theorem cf_X0_face : CFv yX0_face RX0 cX0_face 2 none 1 := ⟨wC_X0_face, wI_X0_face, wV_X0_X0_face, wN_X0, by decide +kernel⟩
set_option maxHeartbeats 4000000 in
set_option maxRecDepth 100000 in
theorem c_face {l : Launch} {E : EV} {K : Nat → Nat} {S : PS} (hW : WS K S) (hA : AW S) (hM : WM S) {a : Nat} (haL : a ∈ sL S) (haK : sK S a = 0) (b : Int32) : CT l yX0_face cX0_face 2 none 1 22 0 0 E [.ref a, .int b] S (p0 (m_face K S a b)) := by
  refine CT.of (by decide) (Nat.le_of_ble_eq_true rfl) ?_
  intro p e s m below meth c M hin
  have M : MC E p s m _ meth c cX0_face RX0 2 none := M
  show J p l e _ s m _ below meth c _ E 2 0 [(0, .ref a), (1, .int b)] [] S 0 0
  refine j_aload_n M dX0_face_0 rfl ?_
  refine j_iload_n M dX0_face_1 rfl ?_
  refine j_put (host := "") (S2 := uI S 8 a b) M haL (pAt_0 E _ haK) rfl inU_X0 8 (by decide) tyX0 tyX0_ok nmX0 wF_X0_9 (fun _ h => h) rfl (tyX0_ok 8 (by decide)) rfl rfl (Nat.le_of_ble_eq_true rfl) rfl (pUp_8 E S haK _) dX0_face_2 ?_
  refine j_aload_n M dX0_face_5 rfl ?_
  refine j_iconst (v := 0) M dX0_face_6 (by decide) ?_
  refine j_put (host := "") (S2 := uI (uI S 8 a b) 9 a 0) M haL (pAt_0 E _ haK) rfl inU_X0 9 (by decide) tyX0 tyX0_ok nmX0 wF_X0_15 (fun _ h => h) rfl (tyX0_ok 9 (by decide)) rfl rfl (Nat.le_of_ble_eq_true rfl) rfl (pUp_9 E (uI S 8 a b) haK _) dX0_face_7 ?_
  have hR := (hA a ⟨haL, haK⟩).2.2
  have lp : ∀ (r j : Nat), j + r = 21 → m_faceN K S a b r j = m_faceN K S a b 21 0 → J p l e { frames := 1, cells := 0, slots := 0, locals := 22 } s m ([.ref a, .int b] : List Value).toArray below meth c (MQ below (QC E (p0 (m_face K S a b))) ([.ref a, .int b] : List Value).toArray s 0 0 (AE E)) E 2 10 [(0, .ref a), (1, .int b)] [] (uI (uI S 8 a b) 9 a (nI j)) 0 0 := by
    intro r
    induction r with
    | zero =>
      intro j hj hq
      refine j_aload_n M dX0_face_10 rfl ?_
      refine j_get (v := .int (nI j)) M haL (pAt_0 E _ haK) rfl inU_X0 9 (by decide) wF_X0_15 (fun _ h => h) (ivu (g := sI (uI S 8 a b)) (f := 9) (a := a) (v := (nI j))) dX0_face_11 ?_
      refine j_aload_n M dX0_face_14 rfl ?_
      refine j_get (v := .int (sI S 6 a)) M haL (pAt_0 E _ haK) rfl inU_X0 6 (by decide) wF_X0_62 (fun _ h => h) rfl dX0_face_15 ?_
      refine j_icmp_ge (tgt := 64) M dX0_face_18 (by decide) (fun _ => ?_) (fun z => absurd (cap_end hR (by omega) (by omega)) z)
      exact j_vret M dX0_face_64 (Nat.le_refl _) (Nat.le_refl _) ⟨rfl, (show uI (uI S 8 a b) 9 a (nI j) = m_face K S a b from by unfold m_face; rw [← hq]; simp only [m_faceN])⟩
    | succ r ih =>
      intro j hj hq
      refine j_aload_n M dX0_face_10 rfl ?_
      refine j_get (v := .int (nI j)) M haL (pAt_0 E _ haK) rfl inU_X0 9 (by decide) wF_X0_15 (fun _ h => h) (ivu (g := sI (uI S 8 a b)) (f := 9) (a := a) (v := (nI j))) dX0_face_11 ?_
      refine j_aload_n M dX0_face_14 rfl ?_
      refine j_get (v := .int (sI S 6 a)) M haL (pAt_0 E _ haK) rfl inU_X0 6 (by decide) wF_X0_62 (fun _ h => h) rfl dX0_face_15 ?_
      refine j_icmp_ge (tgt := 64) M dX0_face_18 (by decide) (fun c1 => ?_) (fun c1 => ?_)
      · exact j_vret M dX0_face_64 (Nat.le_refl _) (Nat.le_refl _) ⟨rfl, (show uI (uI S 8 a b) 9 a (nI j) = m_face K S a b from by unfold m_face; rw [← hq]; simp only [m_faceN, if_pos c1])⟩
      · refine j_aload_n M dX0_face_21 rfl ?_
        refine j_get (v := .ref (K 2)) M haL (pAt_0 E _ haK) rfl inU_X0 0 (by decide) wF_X0_34 (fun _ h => h) (rfv ((WS.uI (WS.uI hW)).r0 ⟨haL, haK⟩)) dX0_face_22 ?_
        refine j_aload_n M dX0_face_25 rfl ?_
        refine j_aload_n M dX0_face_26 rfl ?_
        refine j_get (v := .int (nI j)) M haL (pAt_0 E _ haK) rfl inU_X0 9 (by decide) wF_X0_15 (fun _ h => h) (ivu (g := sI (uI S 8 a b)) (f := 9) (a := a) (v := (nI j))) dX0_face_27 ?_
        refine j_iconst (v := 1) M dX0_face_30 (by decide) ?_
        refine j_iadd M dX0_face_31 ?_
        refine j_callV1 (As := [.int ((nI j) + 1)]) M cf_X0_rowAt wM_X0_71 (c_rowAt (S := uI (uI S 8 a b) 9 a (nI j)) (WS.uI (WS.uI hW)) haL haK ((nI j) + 1)) haL (pAt_0 E _ haK) rfl rfl ⟨Nat.le_of_ble_eq_true rfl, Nat.le_of_ble_eq_true rfl⟩ (Nat.le_of_ble_eq_true rfl) ⟨Nat.zero_le _, Nat.zero_le _⟩ dX0_face_32 rfl ?_
        refine j_aload_n M dX0_face_35 rfl ?_
        refine j_aload_n M dX0_face_36 rfl ?_
        refine j_get (v := .int (nI j)) M haL (pAt_0 E _ haK) rfl inU_X0 9 (by decide) wF_X0_15 (fun _ h => h) (ivu (g := sI (uI S 8 a b)) (f := 9) (a := a) (v := (nI j))) dX0_face_37 ?_
        refine j_iconst (v := 1) M dX0_face_40 (by decide) ?_
        refine j_iadd M dX0_face_41 ?_
        refine j_callV1 (As := [.int ((nI j) + 1)]) M cf_X0_columnAt wM_X0_74 (c_columnAt (S := uI (uI S 8 a b) 9 a (nI j)) (WS.uI (WS.uI hW)) haL haK ((nI j) + 1)) haL (pAt_0 E _ haK) rfl rfl ⟨Nat.le_of_ble_eq_true rfl, Nat.le_of_ble_eq_true rfl⟩ (Nat.le_of_ble_eq_true rfl) ⟨Nat.zero_le _, Nat.zero_le _⟩ dX0_face_42 rfl ?_
        refine j_callV1 (As := [.int (m_rowAt K (uI (uI S 8 a b) 9 a (nI j)) a ((nI j) + 1)), .int (m_columnAt K (uI (uI S 8 a b) 9 a (nI j)) a ((nI j) + 1))]) M cf_X1_hasPlace wM_X0_77 (c_hasPlace (S := uI (uI S 8 a b) 9 a (nI j)) (WS.uI (WS.uI hW)) (m_rowAt K (uI (uI S 8 a b) 9 a (nI j)) a ((nI j) + 1)) (m_columnAt K (uI (uI S 8 a b) 9 a (nI j)) a ((nI j) + 1))) ((WS.uI (WS.uI hW)).k2.1) (pAt_1 E _ ((WS.uI (WS.uI hW)).k2.2)) rfl rfl ⟨Nat.le_of_ble_eq_true rfl, Nat.le_of_ble_eq_true rfl⟩ (Nat.le_of_ble_eq_true rfl) ⟨Nat.zero_le _, Nat.zero_le _⟩ dX0_face_45 rfl ?_
        refine j_if_eq (tgt := 64) M dX0_face_48 (by decide) (fun c2 => ?_) (fun c2 => ?_)
        · exact j_vret M dX0_face_64 (Nat.le_refl _) (Nat.le_refl _) ⟨rfl, (show uI (uI S 8 a b) 9 a (nI j) = m_face K S a b from by unfold m_face; rw [← hq]; simp only [m_faceN, if_neg c1, if_pos c2])⟩
        · refine j_aload_n M dX0_face_51 rfl ?_
          refine j_dup M dX0_face_52 rfl ?_
          refine j_get (v := .int (nI j)) M haL (pAt_0 E _ haK) rfl inU_X0 9 (by decide) wF_X0_15 (fun _ h => h) (ivu (g := sI (uI S 8 a b)) (f := 9) (a := a) (v := (nI j))) dX0_face_53 ?_
          refine j_iconst (v := 1) M dX0_face_56 (by decide) ?_
          refine j_iadd M dX0_face_57 ?_
          refine j_put (host := "") (S2 := uI (uI (uI S 8 a b) 9 a (nI j)) 9 a ((nI j) + 1)) M haL (pAt_0 E _ haK) rfl inU_X0 9 (by decide) tyX0 tyX0_ok nmX0 wF_X0_15 (fun _ h => h) rfl (tyX0_ok 9 (by decide)) rfl rfl (Nat.le_of_ble_eq_true rfl) rfl (pUp_9 E (uI (uI S 8 a b) 9 a (nI j)) haK _) dX0_face_58 ?_
          refine j_goto (tgt := 10) M dX0_face_61 (by decide) ?_
          refine j_pick [0, 1] rfl ?_
          refine j_eq (S2 := uI (uI S 8 a b) 9 a (nI (j + 1))) rfl rfl ((congrArg (fun z => uI (uI (uI S 8 a b) 9 a (nI j)) 9 a z) (nI_1 j)).trans (uI_uI _ 9 a _ _)) ?_
          exact ih (j + 1) (by omega) (Eq.trans (by simp only [m_faceN, if_neg c1, if_neg c2]) hq)
  refine j_pick [0, 1] rfl ?_
  exact lp 21 0 (by omega) rfl
