/-! ways, fields and swings of a crane as it stands -/
/-- a crane of the yard as it stands -/
def CA (K : Nat → Nat) (S : PS) (a b0 r0 R t : Nat) : Prop := (InK S a 0 ∧ a ≠ K 4) ∧ (sI S 8 a = nI b0 ∧ b0 < 8) ∧ (sI S 10 a = nI r0 ∧ 1 ≤ r0 ∧ r0 ≤ R) ∧ ((sI S 6 a).toInt = R ∧ R ≤ 9) ∧ TW K S a ∧
  inY K S ((sI S 3 a).toInt + (r0 : Int) * cR b0) ((sI S 4 a).toInt + (r0 : Int) * cC b0) ∧ sI S 2 a = nI t ∧ t < 196 ∧ (t : Int) = (sI S 3 a).toInt * (sI S 17 (K 2)).toInt + (sI S 4 a).toInt
theorem fill_i {K : Nat → Nat} {S : PS} {a : Nat} {v : Int32} : sI (m_fill K S a v) = sI S := (fill_o (K := K) (S := S) (a := a) (v := v) (sN S a) 0 S).1
theorem fill_m {K : Nat → Nat} {S : PS} {a : Nat} {v : Int32} : sM (m_fill K S a v) = sM S := (fill_o (K := K) (S := S) (a := a) (v := v) (sN S a) 0 S).2.1
theorem mimic_a {S : PS} {K : Nat → Nat} {a b c : Nat} (hc : c ≠ b) (f : Nat) : sI (m_mimic K S b a) f c = sI S f c := by
  simp [m_mimic, up2, hc, sI, sR, sM, sL, sK, sE, sZ, sN, sA, sO]
section AS
variable {K : Nat → Nat} {S : PS} {a b0 r0 R t : Nat}
def mF (K : Nat → Nat) (S : PS) (a : Nat) : PS := m_mimic K (m_fill K S (K 7) (-1)) (K 4) a
theorem mF_f (h : CA K S a b0 r0 R t) {f : Nat} (h1 : 1 ≤ f) (h2 : f ≤ 11) : sI (mF K S a) f (K 4) = sI S f a := (mimic_f h.1.2 f h1 h2).trans (by rw [fill_i])
theorem mF_a {c f : Nat} (hc : c ≠ K 4) : sI (mF K S a) f c = sI S f c := (mimic_a hc f).trans (by rw [fill_i])
theorem gw_mF (hG : GW K S) (hka : InK S a 0) : GW K (mF K S a) ∧ SS S (mF K S a) := by
  have g1 := g_fill (v := -1) hG.1 hG.2.1 hG.2.2 hG.1.k7.1 hG.1.k7.2
  have g2 := g_mimic g1.1.1 g1.1.2.1 g1.1.2.2 g1.1.1.k4.1 g1.1.1.k4.2 (g1.2.inL hka.1) (g1.2.inK hka.2)
  exact ⟨g2.1, g1.2.tr g2.2⟩
theorem pb_mF (hk : KD K) (hG : GW K S) (ht : TO K S) (hY : YD K S) (h : CA K S a b0 r0 R t) : PB K (mF K S a) R := by
  obtain ⟨g1, g2⟩ := gw_mF hG h.1.1
  have y : ∀ {r q : Int}, inY K (mF K S a) r q ↔ inY K S r q := fun {r q} => by unfold inY; rw [mF_a hG.1.n2, mF_a hG.1.n2]
  refine ⟨⟨g1, ht.ss g2, hk⟩, ⟨?_, ?_⟩, ?_, h.2.2.2.1.2⟩
  · unfold YD; rw [mF_a hG.1.n2, mF_a hG.1.n2]; exact hY
  · unfold TW
    rw [y, mF_f h (by decide) (by decide), mF_f h (by decide) (by decide), mF_f h (by decide) (by decide)]
    exact h.2.2.2.2.1
  · rw [mF_f h (by decide) (by decide)]; exact h.2.2.2.1.1
theorem yp_mF (hW : WS K S) (h : CA K S a b0 r0 R t) {p : Nat × Nat} : yp K (mF K S a) p ↔ inY K S ((sI S 3 a).toInt + (p.2 : Int) * cR p.1) ((sI S 4 a).toInt + (p.2 : Int) * cC p.1) := by
  unfold yp inY
  rw [mF_f h (by decide) (by decide), mF_f h (by decide) (by decide), mF_a hW.n2, mF_a hW.n2]
/-- where the crane's own hook hangs -/
theorem pl_own (hW : WS K S) (h : CA K S a b0 r0 R t) : m_plumb K S a = pl K (mF K S a) (b0, r0) := by
  unfold pl m_plumb m_rowAt m_columnAt m_cellAt m_hasPlace
  rw [PZ_8, PZ_10, PZ_f (by decide) (by decide) (by decide), PZ_f (by decide) (by decide) (by decide), PZ_f (by decide) (by decide) (by decide), PZ_f (by decide) (by decide) (by decide), mF_f h (by decide) (by decide), mF_f h (by decide) (by decide), mF_a hW.n2, mF_a hW.n2, h.2.1.1, h.2.2.1.1]
theorem ex_at (hk : KD K) (hG : GW K S) (ht : TO K S) (hY : YD K S) (h : CA K S a b0 r0 R t) : ∃ (f : Nat) (P : Nat → Nat × Nat), (m_explore K S a).1 = nI f ∧ EI K (mF K S a) (m_clashesOf K (m_fill K S (K 7) (-1)) a) R (m_explore K S a).2 f P ∧
    (∀ i q, i < f → q < 4 → okp K (mF K S a) (m_clashesOf K (m_fill K S (K 7) (-1)) a) (mvp q (P i)) → ∃ i2, i2 < f ∧ P i2 = mvp q (P i)) ∧ P 0 = (b0, r0) := by
  have B := pb_mF hk hG ht hY h
  have g1 := g_fill (v := -1) hG.1 hG.2.1 hG.2.2 hG.1.k7.1 hG.1.k7.2
  have y0 : yp K (mF K S a) (b0, r0) := (yp_mF hG.1 h).mpr h.2.2.2.2.2.1
  have hr20 : r0 ≤ 20 := by have := h.2.2.1.2.2; have := h.2.2.2.1.2; omega
  have pn := pl_lt B.2.1.1 B.2.1.2 (p := (b0, r0)) h.2.1.2 hr20 y0
  have pN := plN_lt B (p := (b0, r0)) h.2.1.2 hr20 y0
  have ep : m_plumb K (m_fill K S (K 7) (-1)) a = pl K (mF K S a) (b0, r0) := by
    rw [← pl_own hG.1 h]
    exact s_plumb hG.1 (AG.fill hk (-1)) ((AG.fill hk (-1)).sm h.1.2)
  unfold m_explore
  rw [ep, g1.1.1.n7]
  rw [if_neg (show ¬ pl K (mF K S a) (b0, r0) < 0 from by rw [Int32.lt_iff_toInt_lt, ti_0]; omega), if_pos (show pl K (mF K S a) (b0, r0) < nI 196 from by rw [Int32.lt_iff_toInt_lt, nI_toInt (by decide)]; omega)]
  have n8 : sN (m_mimic K (m_fill K S (K 7) (-1)) (K 4) a) (K 8) = 72 := B.1.1.1.n8
  rw [n8, if_neg (show ¬ nI 72 ≤ 0 from by decide)]
  have epo : m_poseOf K (uA (m_mimic K (m_fill K S (K 7) (-1)) (K 4) a) (K 7) (upd (sA (m_mimic K (m_fill K S (K 7) (-1)) (K 4) a) (K 7)) (pl K (mF K S a) (b0, r0)).toNatClampNeg 0)) a = nI (b0 * 10 + r0) := by
    show sI (mF K S a) 8 a * 10 + sI (mF K S a) 10 a = _
    rw [mF_a h.1.2, mF_a h.1.2, h.2.1.1, h.2.2.1.1]
    have hm : ∀ b, b < 8 → nI b * 10 = nI (b * 10) := by decide +kernel
    rw [hm _ h.2.1.2, nI_add]
  rw [epo]
  have f7 : ∀ w, w < 196 → sA (mF K S a) (K 7) w = -1 := fun w hw => fill7 hG.1 (-1) hw
  show ∃ (f : Nat) (P : Nat → Nat × Nat), (m_explore_lp K S a 360 0 0 1 (uA (uA (mF K S a) (K 7) (upd (sA (mF K S a) (K 7)) (plN K (mF K S a) (b0, r0)) 0)) (K 8) (upd (sA (uA (mF K S a) (K 7) (upd (sA (mF K S a) (K 7)) (plN K (mF K S a) (b0, r0)) 0)) (K 8)) (0 : Int32).toNatClampNeg (nI (b0 * 10 + r0))))).1 = nI f ∧
    EI K (mF K S a) (m_clashesOf K (m_fill K S (K 7) (-1)) a) R (m_explore_lp K S a 360 0 0 1 (uA (uA (mF K S a) (K 7) (upd (sA (mF K S a) (K 7)) (plN K (mF K S a) (b0, r0)) 0)) (K 8) (upd (sA (uA (mF K S a) (K 7) (upd (sA (mF K S a) (K 7)) (plN K (mF K S a) (b0, r0)) 0)) (K 8)) (0 : Int32).toNatClampNeg (nI (b0 * 10 + r0))))).2 f P ∧ _
  have hK := B.1.2.2
  have q7 : ∀ w, sA (uA (uA (mF K S a) (K 7) (upd (sA (mF K S a) (K 7)) (plN K (mF K S a) (b0, r0)) 0)) (K 8) (upd (sA (uA (mF K S a) (K 7) (upd (sA (mF K S a) (K 7)) (plN K (mF K S a) (b0, r0)) 0)) (K 8)) (0 : Int32).toNatClampNeg (nI (b0 * 10 + r0)))) (K 7) w = if w = plN K (mF K S a) (b0, r0) then 0 else sA (mF K S a) (K 7) w := fun w => by
    show va_up (va_up (sA (mF K S a)) (K 7) (upd (sA (mF K S a) (K 7)) (plN K (mF K S a) (b0, r0)) 0)) (K 8) _ (K 7) w = _
    rw [va_up_ne _ _ hK.2.1.1, va_up_self]
    rfl
  have q8 : sA (uA (uA (mF K S a) (K 7) (upd (sA (mF K S a) (K 7)) (plN K (mF K S a) (b0, r0)) 0)) (K 8) (upd (sA (uA (mF K S a) (K 7) (upd (sA (mF K S a) (K 7)) (plN K (mF K S a) (b0, r0)) 0)) (K 8)) (0 : Int32).toNatClampNeg (nI (b0 * 10 + r0)))) (K 8) 0 = nI (b0 * 10 + r0) := by
    show va_up (va_up (sA (mF K S a)) (K 7) (upd (sA (mF K S a) (K 7)) (plN K (mF K S a) (b0, r0)) 0)) (K 8) _ (K 8) 0 = _
    rw [va_up_self]
    exact upd_s _ 0 _
  have hAF : AF K (mF K S a) (uA (uA (mF K S a) (K 7) (upd (sA (mF K S a) (K 7)) (plN K (mF K S a) (b0, r0)) 0)) (K 8) (upd (sA (uA (mF K S a) (K 7) (upd (sA (mF K S a) (K 7)) (plN K (mF K S a) (b0, r0)) 0)) (K 8)) (0 : Int32).toNatClampNeg (nI (b0 * 10 + r0)))) := (AF.rf.uA hK.1.1 _).uA hK.1.2.1 _
  generalize uA (uA (mF K S a) (K 7) (upd (sA (mF K S a) (K 7)) (plN K (mF K S a) (b0, r0)) 0)) (K 8) (upd (sA (uA (mF K S a) (K 7) (upd (sA (mF K S a) (K 7)) (plN K (mF K S a) (b0, r0)) 0)) (K 8)) (0 : Int32).toNatClampNeg (nI (b0 * 10 + r0))) = V at q7 q8 hAF ⊢
  refine ex_lp B rfl 360 0 0 1 V (fun _ => (b0, r0)) ⟨hAF, fun i hi => ?_, fun i hi => ⟨h.2.1.2, h.2.2.1.2.1, h.2.2.1.2.2, y0⟩, fun i j hi hj _ => by omega, fun i hi => ⟨0, Nat.zero_le _, ?_⟩, fun w hw => ?_, fun p hp => ?_, by decide, ?_⟩ (fun i q hi hq hiq _ => by omega) (by decide) (by decide) rfl
  · rw [show i = 0 by omega]; exact q8
  · rw [q7, if_pos rfl]; rfl
  · rw [q7]
    by_cases e : w = plN K (mF K S a) (b0, r0)
    · exact Or.inr (Or.inr ⟨0, by decide, e⟩)
    · rw [if_neg e]; exact Or.inl (f7 w hw)
  · rw [q7]
    by_cases e : plN K (mF K S a) p = plN K (mF K S a) (b0, r0)
    · rw [if_pos e]; decide
    · rw [if_neg e, f7 _ (plN_lt B hp.1 hp.2.1 (okp_in B hp).2.2).1]; decide
  · rw [q7, if_pos rfl]
theorem steps_row {f : Nat} {P : Nat → Nat × Nat} {C : Int32} (hW : WS K (mF K S a)) {U : PS} (hE : EI K (mF K S a) C R U f P) (x : Int32) (hf : f < 2 ^ 31) : (m_stepsTo K U x = -1) ∨ ∃ i s, i < f ∧ s ≤ i ∧ m_stepsTo K U x = nI s ∧ x.toNatClampNeg = plN K (mF K S a) (P i) := by
  have n7 : sN U (K 7) = 196 := by rw [hE.1.1.1.2.2.1]; exact hW.n7
  unfold m_stepsTo
  rw [n7]
  by_cases c1 : x < 0
  · rw [if_pos c1]; exact Or.inl rfl
  rw [if_neg c1]
  by_cases c2 : nI 196 ≤ x
  · rw [if_pos c2]; exact Or.inl rfl
  rw [if_neg c2]
  by_cases c3 : sA U (K 7) x.toNatClampNeg < 0
  · rw [if_pos c3]; exact Or.inl rfl
  rw [if_neg c3]
  have hw := clampB c1 c2 (by decide)
  rcases hE.2.2.2.2.2.1 _ hw with e | e | ⟨i, i1, i2⟩
  · rw [e] at c3; exact absurd (by decide) c3
  · rw [e] at c3; exact absurd (by decide) c3
  · obtain ⟨s, s1, s2⟩ := hE.2.2.2.2.1 i i1
    refine Or.inr ⟨i, s, i1, s1, ?_, i2⟩
    rw [i2]; exact s2
/-- the answers of way and field -/
theorem way_at (hk : KD K) (hG : GW K S) (ht : TO K S) (hY : YD K S) (h : CA K S a b0 r0 R t) : ∃ f : Nat, (m_explore K S a).1 = nI f ∧ 1 ≤ f ∧ f ≤ 8 * R ∧ m_stepsTo K (m_explore K S a).2 (m_plumb K S a) = 0 ∧ m_stepsTo K (m_explore K S a).2 (sI S 2 a) = -1 ∧
    ∀ x, m_stepsTo K (m_explore K S a).2 x = -1 ∨ ∃ s, s < f ∧ m_stepsTo K (m_explore K S a).2 x = nI s := by
  have B := pb_mF hk hG ht hY h
  obtain ⟨f, P, e1, hE, hc, e0⟩ := ex_at hk hG ht hY h
  have hf8 := pose_pig (R := R) f P (fun i hi => ⟨(hE.2.2.1 i hi).1, (hE.2.2.1 i hi).2.1, (hE.2.2.1 i hi).2.2.1⟩) hE.2.2.2.1
  have hR9 := h.2.2.2.1.2
  have hf1 : 0 < f := hE.2.2.2.2.2.2.2.1
  refine ⟨f, e1, hf1, hf8, ?_, ?_, fun x => ?_⟩
  · have y0 : yp K (mF K S a) (b0, r0) := (yp_mF hG.1 h).mpr h.2.2.2.2.2.1
    have pn := pl_lt B.2.1.1 B.2.1.2 (p := (b0, r0)) h.2.1.2 (by have := h.2.2.1.2.2; simp only; omega) y0
    have e9 := hE.2.2.2.2.2.2.2.2
    rw [e0] at e9
    have n7 : sN (m_explore K S a).2 (K 7) = 196 := by rw [hE.1.1.1.2.2.1]; exact B.1.1.1.n7
    rw [pl_own hG.1 h]
    unfold m_stepsTo
    rw [if_neg (show ¬ pl K (mF K S a) (b0, r0) < 0 from by rw [Int32.lt_iff_toInt_lt, ti_0]; omega), n7, if_neg (show ¬ nI 196 ≤ pl K (mF K S a) (b0, r0) from by rw [Int32.le_iff_toInt_le, nI_toInt (by decide)]; omega)]
    show (if sA (m_explore K S a).2 (K 7) (plN K (mF K S a) (b0, r0)) < 0 then (-1 : Int32) else sA (m_explore K S a).2 (K 7) (plN K (mF K S a) (b0, r0))) = 0
    rw [e9]
    decide
  · rcases steps_row B.1.1.1 hE (sI S 2 a) (by omega) with e | ⟨i, s, i1, -, -, i3⟩
    · exact e
    · exfalso
      have y0 : yp K (mF K S a) (0, 0) := by
        rw [yp_mF hG.1 h]
        show inY K S ((sI S 3 a).toInt + ((0 : Nat) : Int) * cR 0) ((sI S 4 a).toInt + ((0 : Nat) : Int) * cC 0)
        rw [show ((0 : Nat) : Int) = 0 from rfl, Int.zero_mul, Int.zero_mul, Int.add_zero, Int.add_zero]
        exact h.2.2.2.2.1.1
      have p0 := (pl_at B.2.1.1 B.2.1.2 (p := (0, 0)) (by decide) (by decide)).1 y0
      have q0 := (plN_lt B (p := (0, 0)) (by decide) (by decide) y0).2
      rw [p0] at q0
      have hh := h
      obtain ⟨-, -, -, -, -, -, ht1, ht2, ht3⟩ := h
      rw [mF_f hh (by decide) (by decide), mF_f hh (by decide) (by decide), mF_a hG.1.n2] at q0
      simp only [show ((0 : Nat) : Int) = 0 from rfl, Int.zero_mul, Int.add_zero] at q0
      have et : t = plN K (mF K S a) (0, 0) := by omega
      rw [ht1, nI_clamp (by omega)] at i3
      obtain ⟨t1, t2, t3, t4⟩ := hE.2.2.1 i i1
      have := plN_inj B (p := P i) (q := (0, 0)) t1 (by omega) (by decide) (by decide) t2 t4 y0 (by rw [← i3, et])
      rw [this] at t2
      exact absurd t2 (by decide)
  · rcases steps_row B.1.1.1 hE x (by omega) with e | ⟨i, s, i1, i2, i3, -⟩
    · exact Or.inl e
    · exact Or.inr ⟨s, by omega, i3⟩
/-! swings -/
theorem sw_7 {x : Int32} : ∀ (r j : Nat) (T : PS), j + r = 7 → ∃ s, s ≤ 7 ∧ (m_swings_lp K S a x r j T).1 = nI s
  | 0, j, T, _ => ⟨7, by decide, rfl⟩
  | r + 1, j, T, hj => by
    simp only [m_swings_lp]
    split
    · exact sw_7 r (j + 1) _ (by omega)
    · exact ⟨j, by omega, rfl⟩
theorem sw_lp (hG : GW K S) (ht : TO K S) {M : PS} (hGM : GW K M) (htM : TO K M) (hr : 1 ≤ r0 ∧ r0 ≤ 9) : ∀ (r j : Nat) (T : PS), j + r = 7 → AF K M T → sI T 8 (K 4) = nI ((b0 + j) % 8) → sI T 10 (K 4) = nI r0 → (∀ i, 1 ≤ i → i ≤ j → okp K M (m_clashesOf K S a) ((b0 + i) % 8, r0)) →
    ∃ s, s ≤ 7 ∧ (m_swings_lp K S a 0 r j T).1 = nI s ∧ ∀ i, 1 ≤ i → i ≤ s → okp K M (m_clashesOf K S a) ((b0 + i) % 8, r0)
  | 0, j, T, hj, _, _, _, ho => ⟨7, by decide, rfl, fun i h1 h2 => ho i h1 (by omega)⟩
  | r + 1, j, T, hj, hA, h8, h10, ho => by
    have hm : AP K M (m_move K T (K 4) 0) ((b0 + (j + 1)) % 8) r0 := by
      have a1 := (and7 ((b0 + j) % 8) (by omega)).1
      unfold m_move
      rw [if_pos rfl, h8, a1, show ((b0 + j) % 8 + 1) % 8 = (b0 + (j + 1)) % 8 by omega]
      obtain ⟨f1, f2, f3⟩ := ap_face hGM.1 hA ((b0 + (j + 1)) % 8)
      exact ⟨f1, f2, f3, (face_f (by decide) (by decide) _).trans h10⟩
    simp only [m_swings_lp]
    rw [s_hindT (gw_pz hGM _ _) htM hm.at]
    by_cases c : m_hindrance K (PZ K M ((b0 + (j + 1)) % 8) r0) (K 4) 1 (m_clashesOf K S a) = 0
    · rw [if_pos c]
      refine sw_lp hG ht hGM htM hr r (j + 1) _ (by omega) hm.1 hm.2.1 hm.2.2.2 (fun i h1 h2 => ?_)
      by_cases e : i = j + 1
      · subst e; exact ⟨by simp only; omega, by simp only; omega, c⟩
      · exact ho i h1 (by omega)
    · rw [if_neg c]
      exact ⟨j, by omega, rfl, ho⟩
theorem okp_eq {M N : PS} (hG : GW K M) (ht : TO K M) (h : AF K M N) {C : Int32} {p : Nat × Nat} : okp K M C p → okp K N C p := by
  rintro ⟨h1, h2, h3⟩
  refine ⟨h1, h2, ?_⟩
  have : AP K M (PZ K N p.1 p.2) p.1 p.2 := by
    obtain ⟨f1, f2, f3⟩ := ap_face hG.1 h p.1
    exact ⟨f1.uI (Or.inr (Or.inr rfl)) _, (uI_f (by decide)).trans f2, (uI_f (by decide)).trans f3, uI_s⟩
  rw [s_hindT (gw_pz hG _ _) ht this.at]
  exact h3
theorem swing_at (hk : KD K) (hG : GW K S) (ht : TO K S) (hY : YD K S) (h : CA K S a b0 r0 R t) : ∃ s f : Nat, (m_swings K S a 0).1 = nI s ∧ s ≤ 7 ∧ (m_explore K S a).1 = nI f ∧ s + 1 ≤ f ∧ f ≤ 72 := by
  have B := pb_mF hk hG ht hY h
  obtain ⟨f, P, e1, hE, hc, e0⟩ := ex_at hk hG ht hY h
  have hf8 := pose_pig (R := R) f P (fun i hi => ⟨(hE.2.2.1 i hi).1, (hE.2.2.1 i hi).2.1, (hE.2.2.1 i hi).2.2.1⟩) hE.2.2.2.1
  have hR9 := h.2.2.2.1.2
  have hr9 := h.2.2.1.2
  have g1 := g_mimic hG.1 hG.2.1 hG.2.2 hG.1.k4.1 hG.1.k4.2 h.1.1.1 h.1.1.2
  have tM : TO K (m_mimic K S (K 4) a) := ht.ss g1.2
  have m8 : sI (m_mimic K S (K 4) a) 8 (K 4) = nI ((b0 + 0) % 8) := by rw [mimic_f h.1.2 8 (by decide) (by decide), h.2.1.1, Nat.add_zero, Nat.mod_eq_of_lt h.2.1.2]
  have m10 : sI (m_mimic K S (K 4) a) 10 (K 4) = nI r0 := by rw [mimic_f h.1.2 10 (by decide) (by decide)]; exact h.2.2.1.1
  obtain ⟨s, s1, s2, s3⟩ := sw_lp (a := a) (b0 := b0) (r0 := r0) hG ht g1.1 tM ⟨hr9.1, by omega⟩ 7 0 (m_mimic K S (K 4) a) rfl AF.rf m8 m10 (fun i h1 h2 => by omega)
  have hAT : AT K (m_mimic K S (K 4) a) (mF K S a) := AT.mimic hk (AG.fill hk (-1)) h.1.2
  have hAF : AF K (m_mimic K S (K 4) a) (mF K S a) := ⟨hAT.1, fun g g1 g2 _ _ _ => hAT.2.1 g g1 g2, hAT.2.2⟩
  have hC : m_clashesOf K (m_fill K S (K 7) (-1)) a = m_clashesOf K S a := s_clashesOf ht (AG.fill hk (-1)) ((AG.fill hk (-1)).sm h.1.2)
  rw [hC] at hE hc
  have reach : ∀ i, i ≤ s → ∃ k, k < f ∧ P k = ((b0 + i) % 8, r0) := by
    intro i
    induction i with
    | zero => intro _; exact ⟨0, hE.2.2.2.2.2.2.2.1, by rw [e0, Nat.add_zero, Nat.mod_eq_of_lt h.2.1.2]⟩
    | succ i ih =>
      intro hi
      obtain ⟨k, k1, k2⟩ := ih (by omega)
      have em : mvp 0 (P k) = ((b0 + (i + 1)) % 8, r0) := by
        rw [k2]
        unfold mvp
        rw [if_pos rfl]
        exact Prod.ext (by simp only; omega) rfl
      obtain ⟨k2, y1, y2⟩ := hc k 0 k1 (by decide) (by rw [em]; exact okp_eq g1.1 tM hAF (s3 (i + 1) (by omega) hi))
      exact ⟨k2, y1, by rw [y2, em]⟩
  refine ⟨s, f, s2, s1, e1, ?_, by omega⟩
  classical
  have hx : ∀ i, i < s + 1 → ∃ k, k < f ∧ P k = ((b0 + i) % 8, r0) := fun i hi => reach i (by omega)
  refine pig f (s + 1) (fun i => if hi : i < s + 1 then Classical.choose (hx i hi) else 0) (fun i hi => ?_) (fun i j hi hj e => ?_)
  · show (if hi : i < s + 1 then Classical.choose (hx i hi) else 0) < f
    rw [dif_pos hi]
    exact (Classical.choose_spec (hx i hi)).1
  · have e' : (if hi : i < s + 1 then Classical.choose (hx i hi) else 0) = (if hi : j < s + 1 then Classical.choose (hx j hi) else 0) := e
    rw [dif_pos hi, dif_pos hj] at e'
    have p1 := (Classical.choose_spec (hx i hi)).2
    have p2 := (Classical.choose_spec (hx j hj)).2
    rw [e', p2] at p1
    have := congrArg Prod.fst p1
    simp only at this
    omega
end AS
