/-! asking changes no answer -/
theorem s_many {K : Nat → Nat} {S T : PS} (hk : KD K) (hG : GW K S) (hT : GW K T) (ht : TO K S) (h : AG K S T) (tT : TO K T) (x : Int32) : (m_many K T x).1 = (m_many K S x).1 := by
  have hW := hG.1
  have td : (m_takeDown K T).1 = (m_takeDown K S).1 := by rw [(td_at hk hT.1 tT).1, (td_at hk hW ht).1, s_ord hW ht h]
  unfold m_many
  by_cases c0 : x = 0
  · rw [if_pos c0, if_pos c0]; exact s_cells hW h
  rw [if_neg c0, if_neg c0]
  by_cases c1 : x = 1
  · rw [if_pos c1, if_pos c1]; exact h.i 39 hW.n1
  rw [if_neg c1, if_neg c1]
  by_cases c2 : x = 2
  · rw [if_pos c2, if_pos c2]; exact s_hour hW h
  rw [if_neg c2, if_neg c2]
  by_cases c3 : x = 3
  · rw [if_pos c3, if_pos c3]; exact congrArg nI (h.z (K 13))
  rw [if_neg c3, if_neg c3]
  by_cases c4 : x = 4
  · rw [if_pos c4, if_pos c4]; exact congrArg nI (h.z (K 14))
  rw [if_neg c4, if_neg c4]
  by_cases c5 : x = 5
  · rw [if_pos c5, if_pos c5]; exact congrArg nI (h.z (K 12))
  rw [if_neg c5, if_neg c5]
  by_cases c6 : x = 6
  · rw [if_pos c6, if_pos c6]; exact s_force hW h
  rw [if_neg c6, if_neg c6]
  by_cases c7 : x = 7
  · rw [if_pos c7, if_pos c7]; exact s_windBearing hW h
  rw [if_neg c7, if_neg c7]
  by_cases c8 : x = 8
  · rw [if_pos c8, if_pos c8]; exact s_pairs ht h
  rw [if_neg c8, if_neg c8]
  by_cases c9 : x = 9
  · rw [if_pos c9, if_pos c9]; exact s_near ht h
  rw [if_neg c9, if_neg c9]
  by_cases c10 : x = 10
  · rw [if_pos c10, if_pos c10]; exact h.i 40 hW.n1
  rw [if_neg c10, if_neg c10]
  by_cases c11 : x = 11
  · rw [if_pos c11, if_pos c11]; exact h.i 41 hW.n1
  rw [if_neg c11, if_neg c11]
  by_cases c12 : x = 12
  · rw [if_pos c12, if_pos c12]; exact s_hang hW h
  rw [if_neg c12, if_neg c12]
  by_cases c13 : x = 13
  · rw [if_pos c13, if_pos c13]; exact td
  rw [if_neg c13, if_neg c13]
  exact h.i 50 hW.n0
theorem obs_of {K : Nat → Nat} {S : PS} (hk : KD K) (hG : GW K S) (ht : TO K S) (hc : TC K S) : OBS K S := fun T hT hQ => by
  have h := hQ.ag hk
  have tT := ht.ss hQ.1
  exact ⟨s_many hk hG hT ht h tT, s_ofCell hG.1 ht h, s_ofCrane hG.1 hG.2.2 ht h, fun k x hkk => s_would hk hG ht h k x hkk, fun k hkk => s_field hk hG hT ht h k hkk, fun k b hkk => s_swing hk hG ht h k b hkk, fun k x hkk => s_ofLoad hG.1 ht hc h k x hkk, s_isSound hG.1 hG.2.2 ht hc h, s_cells hG.1 h⟩
/-- answers of single questions -/
theorem many_1 {K : Nat → Nat} {S : PS} : m_many K S 1 = (sI S 39 (K 1), S) := by simp [m_many]
theorem many_0 {K : Nat → Nat} {S : PS} : m_many K S 0 = (m_cells K S, S) := by simp [m_many]
theorem many_2 {K : Nat → Nat} {S : PS} : m_many K S 2 = (m_hour K S, S) := by simp [m_many]
theorem many_3 {K : Nat → Nat} {S : PS} : m_many K S 3 = (nI (sZ S (K 13)), S) := by simp [m_many]
theorem many_4 {K : Nat → Nat} {S : PS} : m_many K S 4 = (nI (sZ S (K 14)), S) := by simp [m_many]
theorem many_8 {K : Nat → Nat} {S : PS} : m_many K S 8 = (m_clashingPairs K S, S) := by simp [m_many]
theorem many_9 {K : Nat → Nat} {S : PS} : m_many K S 9 = (m_nearMisses K S, S) := by simp [m_many]
theorem many_10 {K : Nat → Nat} {S : PS} : m_many K S 10 = (sI S 40 (K 1), S) := by simp [m_many]
theorem many_12 {K : Nat → Nat} {S : PS} : m_many K S 12 = (m_hangingLoads K S, S) := by simp [m_many]
