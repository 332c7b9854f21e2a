/-! the trial crane stands the same after the same steps -/
section TRI
variable {K : Nat → Nat} {S T : PS} {a b : Nat}
theorem TO.of (h : TO K S) (hz : sZ T = sZ S) (he : sE T = sE S) (ho : sO T = sO S) : TO K T := by
  intro j hj
  unfold el
  rw [he, ho]
  exact h j (by rw [← hz]; exact hj)
theorem TO.ss (h : TO K S) (s : SS S T) : TO K T := h.of s.2.2.2.2.1 s.2.2.2.1 s.2.2.2.2.2.2
theorem AT.uI (h : AT K S T) (f : Nat) (v : Int32) : AT K (uI S f (K 4) v) (uI T f (K 4) v) := by
  refine ⟨⟨h.1.1, fun g c hc => ?_, h.1.2.2.1, h.1.2.2.2⟩, fun g g1 g2 => ?_, h.2.2⟩
  · exact (up2_a _ _ _ _ hc).trans ((h.1.2.1 g c hc).trans (up2_a _ _ _ _ hc).symm)
  · by_cases e : g = f
    · subst e
      exact (up2_s _ _ _ _).trans (up2_s _ _ _ _).symm
    · exact (up2_f _ _ _ _ e).trans ((h.2.1 g g1 g2).trans (up2_f _ _ _ _ e).symm)
theorem mimic_f (hab : a ≠ b) : ∀ f, 1 ≤ f → f ≤ 11 → sI (m_mimic K S b a) f b = sI S f a := by
  intro f h1 h2
  have hf : f = 1 ∨ f = 2 ∨ f = 3 ∨ f = 4 ∨ f = 5 ∨ f = 6 ∨ f = 7 ∨ f = 8 ∨ f = 9 ∨ f = 10 ∨ f = 11 := by omega
  rcases hf with rfl | rfl | rfl | rfl | rfl | rfl | rfl | rfl | rfl | rfl | rfl <;> simp [m_mimic, up2, hab, sI, sR, sM, sL, sK, sE, sZ, sN, sA, sO]
theorem mimic_m : sM (m_mimic K S b a) 14 b = sM S 14 a := by
  simp [m_mimic, up2, sI, sR, sM, sL, sK, sE, sZ, sN, sA, sO]
theorem AT.mimic (hk : KD K) (h : AG K S T) (ha : a ≠ K 4) : AT K (m_mimic K S (K 4) a) (m_mimic K T (K 4) a) :=
  ⟨((q_mimic (S := S) a).ag hk).sy.tr (h.tr ((q_mimic (S := T) a).ag hk)), fun f h1 h2 => by rw [mimic_f ha f h1 h2, mimic_f ha f h1 h2]; exact h.i f ha, by rw [mimic_m, mimic_m]; exact h.m 14 ha⟩
theorem s_faceN (hW : WS K S) (h : AT K S T) (x : Int32) : ∀ (r j : Nat), m_faceN K T (K 4) x r j = m_faceN K S (K 4) x r j
  | 0, j => rfl
  | r + 1, j => by
    have h2 := (h.uI 8 x).uI 9 (nI j)
    simp only [m_faceN]
    rw [h.2.1 6 (by decide) (by decide), s_faceN hW h x r (j + 1), s_hasPlace (S := uI (uI S 8 (K 4) x) 9 (K 4) (nI j)) hW.uI.uI h2.1, s_row h2.2, s_col h2.2]
theorem AT.face (hW : WS K S) (h : AT K S T) (x : Int32) : AT K (m_face K S (K 4) x) (m_face K T (K 4) x) := by
  unfold m_face
  rw [s_faceN hW h]
  exact (h.uI 8 x).uI 9 _
theorem AT.move (hW : WS K S) (h : AT K S T) (x : Int32) : AT K (m_move K S (K 4) x) (m_move K T (K 4) x) := by
  unfold m_move
  rw [h.2.1 8 (by decide) (by decide), h.2.1 10 (by decide) (by decide), h.2.1 11 (by decide) (by decide)]
  repeat' split
  · exact h.face hW _
  · exact h.face hW _
  · exact h.uI 10 _
  · exact h.uI 10 _
  · exact h.uI 11 _
  · exact h.uI 11 _
  · exact h
theorem AT.assume (hW : WS K S) (h : AT K S T) (x : Int32) : AT K (m_assume K S x) (m_assume K T x) := (h.face hW _).uI 10 _
theorem s_hindT (hG : GW K S) (ht : TO K S) (h : AT K S T) (q t : Int32) : m_hindrance K T (K 4) q t = m_hindrance K S (K 4) q t := s_hind hG.1 hG.2.2 hG.1.k4 ht h.1 h.2 q t
theorem s_reason (hk : KD K) (hG : GW K S) (ht : TO K S) (h : AG K S T) (hka : InK S a 0) (ha : a ≠ K 4) (x : Int32) : (m_reasonAgainst K T a x).1 = (m_reasonAgainst K S a x).1 := by
  have g1 := g_mimic hG.1 hG.2.1 hG.2.2 hG.1.k4.1 hG.1.k4.2 hka.1 hka.2
  have g2 := g_move g1.1.1 g1.1.2.1 g1.1.2.2 g1.1.1.k4.1 g1.1.1.k4.2 x
  have h2 := (AT.mimic hk h ha).move g1.1.1 x
  have t2 := (ht.ss g1.2).ss g2.2
  unfold m_reasonAgainst
  generalize m_move K (m_mimic K T (K 4) a) (K 4) x = T2 at h2 ⊢
  generalize m_move K (m_mimic K S (K 4) a) (K 4) x = S2 at h2 g2 t2 ⊢
  rw [s_hindT g2.1 t2 h2, s_hindT g2.1 t2 h2, s_clashesOf t2 h2.1 (h2.1.sm ha), s_force g2.1.1 h2.1, h2.1.i 13 ha]
  repeat' split
  all_goals rfl
theorem s_would (hk : KD K) (hG : GW K S) (ht : TO K S) (h : AG K S T) (k : Nat) (x : Int32) (hkk : k < sZ S (K 13)) : (m_would K T k x).1 = (m_would K S k x).1 := by
  unfold m_would
  rw [h.i 39 hG.1.n1, h.el]
  split
  · exact s_reason hk hG ht h (LSt.el hG.1.l13 hkk) (ht k hkk) x
  · rfl
theorem s_swings_lp (c1 c2 : Int32) (hc : c1 = c2) (x : Int32) : ∀ (r j : Nat) (S T : PS), GW K S → TO K S → AT K S T → ∀ (S0 T0 : PS), m_clashesOf K S0 a = c1 → m_clashesOf K T0 a = c2 → (m_swings_lp K T0 a x r j T).1 = (m_swings_lp K S0 a x r j S).1
  | 0, j, S, T, _, _, _, _, _, _, _ => rfl
  | r + 1, j, S, T, hG, ht, h, S0, T0, e1, e2 => by
    have g2 := g_move hG.1 hG.2.1 hG.2.2 hG.1.k4.1 hG.1.k4.2 x
    have h2 := h.move hG.1 x
    have t2 := ht.ss g2.2
    simp only [m_swings_lp]
    rw [s_hindT g2.1 t2 h2, e1, e2, hc]
    split
    · exact s_swings_lp c1 c2 hc x r (j + 1) _ _ g2.1 t2 h2 S0 T0 e1 e2
    · rfl
theorem s_swings (hk : KD K) (hG : GW K S) (ht : TO K S) (h : AG K S T) (hka : InK S a 0) (ha : a ≠ K 4) (x : Int32) : (m_swings K T a x).1 = (m_swings K S a x).1 := by
  have g1 := g_mimic hG.1 hG.2.1 hG.2.2 hG.1.k4.1 hG.1.k4.2 hka.1 hka.2
  unfold m_swings
  exact s_swings_lp _ _ (s_clashesOf ht h (h.sm ha)).symm x 7 0 _ _ g1.1 (ht.ss g1.2) (AT.mimic hk h ha) S T rfl rfl
theorem s_swing (hk : KD K) (hG : GW K S) (ht : TO K S) (h : AG K S T) (k : Nat) (x : Int32) (hkk : k < sZ S (K 13)) : (m_swing K T k x).1 = (m_swing K S k x).1 := by
  unfold m_swing
  rw [h.el]
  split
  · exact s_swings hk hG ht h (LSt.el hG.1.l13 hkk) (ht k hkk) _
  · exact s_swings hk hG ht h (LSt.el hG.1.l13 hkk) (ht k hkk) _
end TRI
/-! rows -/
theorem fill_at {K : Nat → Nat} {S : PS} {a : Nat} {v : Int32} : ∀ (r j : Nat) (T : PS), j + r < 2 ^ 31 → (∀ i, j ≤ i → i < j + r → sA (m_fill_lp K S a v r j T) a i = v) ∧ (∀ i, i < j ∨ j + r ≤ i → sA (m_fill_lp K S a v r j T) a i = sA T a i) ∧ (∀ c, c ≠ a → sA (m_fill_lp K S a v r j T) c = sA T c)
  | 0, j, T, _ => ⟨fun i h1 h2 => by omega, fun _ _ => rfl, fun _ _ => rfl⟩
  | r + 1, j, T, hj => by
    simp only [m_fill_lp]
    obtain ⟨h1, h2, h3⟩ := fill_at (K := K) (S := S) (a := a) (v := v) r (j + 1) (uA T a (upd (sA T a) (nI j).toNatClampNeg v)) (by omega)
    rw [nI_clamp (by omega)] at h1 h2 h3 ⊢
    refine ⟨fun i i1 i2 => ?_, fun i hi => ?_, fun c hc => ?_⟩
    · by_cases e : i = j
      · subst e
        rw [h2 i (Or.inl (by omega))]
        show va_up (sA T) a _ a i = v
        rw [va_up_self]
        unfold upd
        rw [if_pos rfl]
      · exact h1 i (by omega) (by omega)
    · rw [h2 i (by omega)]
      show va_up (sA T) a _ a i = _
      rw [va_up_self]
      unfold upd
      rw [if_neg (by omega)]
    · rw [h3 c hc]
      exact va_up_ne _ _ hc
section EXP
variable {K : Nat → Nat}
/-- the plans' two rows as far as they are read -/
def RW (K : Nat → Nat) (f : Nat) (S T : PS) : Prop := (∀ i, i < 196 → sA T (K 7) i = sA S (K 7) i) ∧ (∀ i, i < f → sA T (K 8) i = sA S (K 8) i)
theorem AT.uA {S T : PS} (h : AT K S T) {r : Nat} (hr : K 6 ≠ r) (v w : Nat → Int32) : AT K (uA S r v) (uA T r w) :=
  ⟨⟨h.1.1, h.1.2.1, h.1.2.2.1, (va_up_ne _ _ hr).trans (h.1.2.2.2.trans (va_up_ne _ _ hr).symm)⟩, h.2⟩
theorem RW.q {f : Nat} {S T S2 T2 : PS} (h : RW K f S T) (h1 : sA S2 = sA S) (h2 : sA T2 = sA T) : RW K f S2 T2 := by unfold RW; rw [h1, h2]; exact h
theorem move_A {S : PS} {a : Nat} {x : Int32} : sA (m_move K S a x) = sA S := by
  unfold m_move
  repeat' split
  all_goals rfl
theorem clampB {x : Int32} {n : Nat} (h1 : ¬ x < 0) (h2 : ¬ nI n ≤ x) (hn : n < 2 ^ 31) : x.toNatClampNeg < n := by
  obtain ⟨j, hj, rfl⟩ := nI_of h1
  rw [nI_leI hn hj] at h2
  rw [nI_clamp hj]
  omega
theorem RW.up7 {f : Nat} {S T : PS} (h : RW K f S T) (hk : KD K) {i : Nat} {v w : Int32} (hv : v = w) : RW K f (uA S (K 7) (upd (sA S (K 7)) i v)) (uA T (K 7) (upd (sA T (K 7)) i w)) := by
  subst hv
  refine ⟨fun j hj => ?_, fun j hj => ?_⟩
  · show va_up (sA T) (K 7) _ (K 7) j = va_up (sA S) (K 7) _ (K 7) j
    rw [va_up_self, va_up_self]
    unfold upd
    rw [h.1 j hj]
  · show va_up (sA T) (K 7) _ (K 8) j = va_up (sA S) (K 7) _ (K 8) j
    rw [va_up_ne _ _ hk.2.1.1.symm, va_up_ne _ _ hk.2.1.1.symm]
    exact h.2 j hj
theorem RW.up8 {f : Nat} {S T : PS} (h : RW K f S T) (hk : KD K) {v w : Int32} (hv : v = w) (hf : f < 2 ^ 31) : RW K (f + 1) (uA S (K 8) (upd (sA S (K 8)) (nI f).toNatClampNeg v)) (uA T (K 8) (upd (sA T (K 8)) (nI f).toNatClampNeg w)) := by
  subst hv
  refine ⟨fun j hj => ?_, fun j hj => ?_⟩
  · show va_up (sA T) (K 8) _ (K 7) j = va_up (sA S) (K 8) _ (K 7) j
    rw [va_up_ne _ _ hk.2.1.1, va_up_ne _ _ hk.2.1.1]
    exact h.1 j hj
  · show va_up (sA T) (K 8) _ (K 8) j = va_up (sA S) (K 8) _ (K 8) j
    rw [va_up_self, va_up_self, nI_clamp hf]
    unfold upd
    by_cases e : j = f
    · rw [if_pos e, if_pos e]
    · rw [if_neg e, if_neg e]
      exact h.2 j (by omega)
end EXP
