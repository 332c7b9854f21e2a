/-! exploring answers the same -/
theorem s_exp_lp {K : Nat → Nat} {a : Nat} (hk : KD K) {S0 T0 : PS} (hc : m_clashesOf K (m_fill K T0 (K 7) (-1)) a = m_clashesOf K (m_fill K S0 (K 7) (-1)) a) : ∀ (r j o f : Nat) (S T : PS), GW K S → TO K S → AT K S T → RW K f S T → j < f → f ≤ 72 → (m_explore_lp K T0 a r j o f T).1 = (m_explore_lp K S0 a r j o f S).1
  | 0, j, o, f, S, T, _, _, _, _, _, _ => rfl
  | r + 1, j, o, f, S, T, hG, ht, h, hr, hj, hf => by
    have ih := s_exp_lp (K := K) (a := a) hk hc r
    simp only [m_explore_lp]
    rw [hc, h.1.1.2.2.1, nI_clamp (show j < 2 ^ 31 by omega), hr.2 j hj]
    generalize hp : sA S (K 8) j = p
    have g1 := g_assume hG.1 hG.2.1 hG.2.2 p
    have g2 := g_move g1.1.1 g1.1.2.1 g1.1.2.2 g1.1.1.k4.1 g1.1.1.k4.2 (nI o)
    have h1 := h.assume hG.1 p
    have h2 := h1.move g1.1.1 (nI o)
    have t2 := (ht.ss g1.2).ss g2.2
    have r2 : RW K f (m_move K (m_assume K S p) (K 4) (nI o)) (m_move K (m_assume K T p) (K 4) (nI o)) := hr.q move_A move_A
    rw [s_plumb g1.1.1 h1.1 h1.2]
    generalize m_plumb K (m_assume K S p) (K 4) = here
    generalize m_move K (m_assume K T p) (K 4) (nI o) = T2 at h2 r2 ⊢
    generalize m_move K (m_assume K S p) (K 4) (nI o) = S2 at h2 g2 t2 r2 ⊢
    rw [s_plumb g2.1.1 h2.1 h2.2, h2.1.1.2.2.1]
    generalize hnx : m_plumb K S2 (K 4) = nx
    have n7 : sN S2 (K 7) = 196 := g2.1.1.n7
    have n8 : sN S2 (K 8) = 72 := g2.1.1.n8
    rw [n7, n8, s_hindT g2.1 t2 h2]
    by_cases c1 : 3 < nI o
    · rw [if_pos c1, if_pos c1]
      by_cases c2 : nI f ≤ nI (j + 1)
      · rw [if_pos c2, if_pos c2]
      · rw [if_neg c2, if_neg c2]
        by_cases c3 : nI (sN S (K 8)) ≤ nI (j + 1)
        · rw [if_pos c3, if_pos c3]
        · rw [if_neg c3, if_neg c3]
          rw [nI_leI (by omega) (by omega)] at c2
          exact ih (j + 1) 0 f S T hG ht h hr (by omega) hf
    · rw [if_neg c1, if_neg c1]
      by_cases c2 : here < 0
      · rw [if_pos c2, if_pos c2]; exact ih j (o + 1) f _ _ g2.1 t2 h2 r2 hj hf
      rw [if_neg c2, if_neg c2]
      by_cases c3 : nI 196 ≤ here
      · rw [if_pos c3, if_pos c3]; exact ih j (o + 1) f _ _ g2.1 t2 h2 r2 hj hf
      rw [if_neg c3, if_neg c3]
      by_cases c4 : nx < 0
      · rw [if_pos c4, if_pos c4]; exact ih j (o + 1) f _ _ g2.1 t2 h2 r2 hj hf
      rw [if_neg c4, if_neg c4]
      by_cases c5 : nI 196 ≤ nx
      · rw [if_pos c5, if_pos c5]; exact ih j (o + 1) f _ _ g2.1 t2 h2 r2 hj hf
      rw [if_neg c5, if_neg c5]
      have b1 := clampB c2 c3 (by decide)
      have b2 := clampB c4 c5 (by decide)
      rw [r2.1 _ b2]
      have gA : ∀ (q : Nat) (v : Nat → Int32), GW K (uA S2 q v) := fun q v => ⟨g2.1.1.uA, g2.1.2.1.uA, g2.1.2.2.uA⟩
      have tA : ∀ (q : Nat) (v : Nat → Int32), TO K (uA S2 q v) := fun q v => t2
      by_cases c6 : sA S2 (K 7) nx.toNatClampNeg = -1
      · rw [if_pos c6, if_pos c6]
        by_cases c7 : nI 72 ≤ nI f
        · rw [if_pos c7, if_pos c7]
          exact ih j (o + 1) f _ _ (gA _ _) (tA _ _) (h2.uA hk.1.1 _ _) (r2.up7 hk rfl) hj hf
        · rw [if_neg c7, if_neg c7]
          by_cases c8 : m_hindrance K S2 (K 4) 1 (m_clashesOf K (m_fill K S0 (K 7) (-1)) a) = 0
          · rw [if_pos c8, if_pos c8]
            rw [nI_leI (by decide) (by omega)] at c7
            have r3 := r2.up7 hk (i := nx.toNatClampNeg) (v := sA S2 (K 7) here.toNatClampNeg + 1) (w := sA T2 (K 7) here.toNatClampNeg + 1) (by rw [r2.1 _ b1])
            have ep : m_poseOf K (uA T2 (K 7) (upd (sA T2 (K 7)) nx.toNatClampNeg (sA T2 (K 7) here.toNatClampNeg + 1))) (K 4) = m_poseOf K (uA S2 (K 7) (upd (sA S2 (K 7)) nx.toNatClampNeg (sA S2 (K 7) here.toNatClampNeg + 1))) (K 4) := by
              show sI T2 8 (K 4) * 10 + sI T2 10 (K 4) = sI S2 8 (K 4) * 10 + sI S2 10 (K 4)
              rw [h2.2.1 8 (by decide) (by decide), h2.2.1 10 (by decide) (by decide)]
            exact ih j (o + 1) (f + 1) _ _ ⟨(gA (K 7) _).1.uA, (gA (K 7) _).2.1.uA, (gA (K 7) _).2.2.uA⟩ t2 ((h2.uA hk.1.1 _ _).uA hk.1.2.1 _ _) (r3.up8 hk ep.symm (by omega)) (by omega) (by omega)
          · rw [if_neg c8, if_neg c8]
            exact ih j (o + 1) f _ _ (gA _ _) (tA _ _) (h2.uA hk.1.1 _ _) (r2.up7 hk rfl) hj hf
      · rw [if_neg c6, if_neg c6]
        exact ih j (o + 1) f _ _ g2.1 t2 h2 r2 hj hf
theorem fill_o {K : Nat → Nat} {S : PS} {a : Nat} {v : Int32} : ∀ (r j : Nat) (T : PS), sI (m_fill_lp K S a v r j T) = sI T ∧ sM (m_fill_lp K S a v r j T) = sM T ∧ SS T (m_fill_lp K S a v r j T)
  | 0, j, T => ⟨rfl, rfl, SS.rf⟩
  | r + 1, j, T => by
    simp only [m_fill_lp]
    exact fill_o r (j + 1) _
theorem AG.fill {K : Nat → Nat} {S : PS} (hk : KD K) (v : Int32) : AG K S (m_fill K S (K 7) v) := (q_fill (K := K) (S := S) (v := v)).ag hk
theorem fill7 {K : Nat → Nat} {S : PS} (hW : WS K S) (v : Int32) {i : Nat} (hi : i < 196) : sA (m_fill K S (K 7) v) (K 7) i = v := by
  unfold m_fill
  rw [hW.n7]
  exact (fill_at 196 0 S (by decide)).1 i (Nat.zero_le _) (by omega)
theorem s_explore {K : Nat → Nat} {S T : PS} {a : Nat} (hk : KD K) (hG : GW K S) (hT : GW K T) (ht : TO K S) (h : AG K S T) (hka : InK S a 0) (ha : a ≠ K 4) : (m_explore K T a).1 = (m_explore K S a).1 := by
  have g1 := g_fill (v := -1) hG.1 hG.2.1 hG.2.2 hG.1.k7.1 hG.1.k7.2
  have hF : AG K (m_fill K S (K 7) (-1)) (m_fill K T (K 7) (-1)) := (AG.fill hk (-1)).sy.tr (h.tr (AG.fill hk (-1)))
  have tF := ht.ss g1.2
  have g2 := g_mimic g1.1.1 g1.1.2.1 g1.1.2.2 g1.1.1.k4.1 g1.1.1.k4.2 (g1.2.inL hka.1) (g1.2.inK hka.2)
  have hM := AT.mimic hk hF ha
  have tM := tF.ss g2.2
  have hc : m_clashesOf K (m_fill K T (K 7) (-1)) a = m_clashesOf K (m_fill K S (K 7) (-1)) a := s_clashesOf tF hF (hF.sm ha)
  have rM : RW K 0 (m_mimic K (m_fill K S (K 7) (-1)) (K 4) a) (m_mimic K (m_fill K T (K 7) (-1)) (K 4) a) :=
    ⟨fun i hi => (fill7 hT.1 (-1) hi).trans (fill7 hG.1 (-1) hi).symm, fun i hi => by omega⟩
  unfold m_explore
  rw [s_plumb g1.1.1 hF (hF.sm ha), hF.1.2.2.1, hM.1.1.2.2.1]
  generalize hpl : m_plumb K (m_fill K S (K 7) (-1)) a = pl
  by_cases c1 : pl < 0
  · rw [if_pos c1, if_pos c1]
  rw [if_neg c1, if_neg c1]
  by_cases c2 : pl < nI (sN (m_fill K S (K 7) (-1)) (K 7))
  · rw [if_pos c2, if_pos c2]
    by_cases c3 : nI (sN (m_mimic K (m_fill K S (K 7) (-1)) (K 4) a) (K 8)) ≤ 0
    · rw [if_pos c3, if_pos c3]
    · rw [if_neg c3, if_neg c3]
      have ep : m_poseOf K (uA (m_mimic K (m_fill K T (K 7) (-1)) (K 4) a) (K 7) (upd (sA (m_mimic K (m_fill K T (K 7) (-1)) (K 4) a) (K 7)) pl.toNatClampNeg 0)) a = m_poseOf K (uA (m_mimic K (m_fill K S (K 7) (-1)) (K 4) a) (K 7) (upd (sA (m_mimic K (m_fill K S (K 7) (-1)) (K 4) a) (K 7)) pl.toNatClampNeg 0)) a := by
        show sI (m_mimic K (m_fill K T (K 7) (-1)) (K 4) a) 8 a * 10 + sI (m_mimic K (m_fill K T (K 7) (-1)) (K 4) a) 10 a = sI (m_mimic K (m_fill K S (K 7) (-1)) (K 4) a) 8 a * 10 + sI (m_mimic K (m_fill K S (K 7) (-1)) (K 4) a) 10 a
        rw [hM.1.i 8 ha, hM.1.i 10 ha]
      generalize m_mimic K (m_fill K T (K 7) (-1)) (K 4) a = T2 at hM rM ep ⊢
      generalize m_mimic K (m_fill K S (K 7) (-1)) (K 4) a = S2 at hM rM ep g2 tM ⊢
      have r3 := (rM.up7 hk (i := pl.toNatClampNeg) (v := 0) (w := 0) rfl).up8 hk (f := 0) ep.symm (by decide)
      exact s_exp_lp hk hc 360 0 0 1 _ _ ⟨g2.1.1.uA.uA, g2.1.2.1.uA.uA, g2.1.2.2.uA.uA⟩ tM ((hM.uA hk.1.1 _ _).uA hk.1.2.1 _ _) r3 (by decide) (by decide)
  · rw [if_neg c2, if_neg c2]
theorem s_field {K : Nat → Nat} {S T : PS} (hk : KD K) (hG : GW K S) (hT : GW K T) (ht : TO K S) (h : AG K S T) (k : Nat) (hkk : k < sZ S (K 13)) : (m_field K T k).1 = (m_field K S k).1 := by
  simp only [m_field]
  rw [h.el]
  exact s_explore hk hG hT ht h (LSt.el hG.1.l13 hkk) (ht k hkk)
