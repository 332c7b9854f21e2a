/-! what exploring finds -/
theorem poss_of {K : Nat → Nat} {S : PS} {a : Nat} (h : ¬ m_isPossible K S a = 0) : 1 ≤ (sI S 10 a).toInt ∧ (sI S 10 a).toInt ≤ (sI S 9 a).toInt ∧ ¬ (sI S 5 a - 1 < sI S 11 a) := by
  unfold m_isPossible at h
  by_cases c1 : sI S 10 a < 1
  · rw [if_pos c1] at h; exact absurd rfl h
  rw [if_neg c1] at h
  by_cases c2 : sI S 9 a < sI S 10 a
  · rw [if_pos c2] at h; exact absurd rfl h
  rw [if_neg c2] at h
  by_cases c3 : sI S 5 a - 1 < sI S 11 a
  · rw [if_pos c3] at h; exact absurd rfl h
  rw [Int32.lt_iff_toInt_lt, show (1 : Int32).toInt = 1 from by decide] at c1
  rw [Int32.lt_iff_toInt_lt] at c2
  exact ⟨by omega, by omega, c3⟩
section WY
variable {K : Nat → Nat} {M : PS} {C : Int32} {R : Nat}
def okp (K : Nat → Nat) (M : PS) (C : Int32) (p : Nat × Nat) : Prop := p.1 < 8 ∧ p.2 ≤ 20 ∧ m_hindrance K (PZ K M p.1 p.2) (K 4) 1 C = 0
/-- what a plan starts from -/
def PB (K : Nat → Nat) (M : PS) (R : Nat) : Prop := (GW K M ∧ TO K M ∧ KD K) ∧ (YD K M ∧ TW K M (K 4)) ∧ (sI M 6 (K 4)).toInt = R ∧ R ≤ 9
theorem gw_pz (hG : GW K M) (b r : Nat) : GW K (PZ K M b r) := by
  have g := g_face hG.1 hG.2.1 hG.2.2 hG.1.k4.1 hG.1.k4.2 (nI b)
  exact ⟨g.1.1.uI, AW.uI (by decide) (by decide) g.1.2.1, WM.uI g.1.2.2⟩
theorem okp_in (B : PB K M R) {p : Nat × Nat} (h : okp K M C p) : 1 ≤ p.2 ∧ p.2 ≤ R ∧ yp K M p := by
  obtain ⟨h1, h2, h3⟩ := h
  have f := poss_of (free_of h3).1
  have h10 : (sI (PZ K M p.1 p.2) 10 (K 4)).toInt = p.2 := by rw [PZ_10, nI_toInt (by omega)]
  obtain ⟨s1, s2, s3⟩ := PZ_arm (r := p.2) B.2.1.2 h1
  rw [h10] at f
  have hR := B.2.2.1
  refine ⟨by omega, by omega, s1 p.2 (by omega) (by omega)⟩
def plN (K : Nat → Nat) (M : PS) (p : Nat × Nat) : Nat := (pl K M p).toNatClampNeg
theorem tnc (x : Int32) : (x.toNatClampNeg : Int) = max x.toInt 0 := Int32.toNatClampNeg.eq_1 _ ▸ Int.toNat_eq_max _
theorem plN_lt (B : PB K M R) {p : Nat × Nat} (hb : p.1 < 8) (hr : p.2 ≤ 20) (h : yp K M p) : plN K M p < 196 ∧ ((plN K M p : Nat) : Int) = (pl K M p).toInt := by
  have := pl_lt B.2.1.1 B.2.1.2 hb hr h
  have t := tnc (pl K M p)
  unfold plN
  omega
theorem plN_inj (B : PB K M R) {p q : Nat × Nat} (hb : p.1 < 8) (hr : p.2 ≤ 20) (hb2 : q.1 < 8) (hr2 : q.2 ≤ 20) (h1 : 1 ≤ p.2) (hp : yp K M p) (hq : yp K M q) (e : plN K M p = plN K M q) : p = q := by
  have a1 := (plN_lt B hb hr hp).2
  have a2 := (plN_lt B hb2 hr2 hq).2
  exact pl_inj B.2.1.1 B.2.1.2 hb hr hb2 hr2 h1 hp hq (by omega)
def EI (K : Nat → Nat) (M : PS) (C : Int32) (R : Nat) (T : PS) (f : Nat) (P : Nat → Nat × Nat) : Prop :=
  AF K M T ∧ (∀ i, i < f → sA T (K 8) i = nI ((P i).1 * 10 + (P i).2)) ∧ (∀ i, i < f → (P i).1 < 8 ∧ 1 ≤ (P i).2 ∧ (P i).2 ≤ R ∧ yp K M (P i)) ∧ (∀ i j, i < f → j < f → P i = P j → i = j) ∧
  (∀ i, i < f → ∃ s, s ≤ i ∧ sA T (K 7) (plN K M (P i)) = nI s) ∧ (∀ w, w < 196 → sA T (K 7) w = -1 ∨ sA T (K 7) w = -2 ∨ ∃ i, i < f ∧ w = plN K M (P i)) ∧ (∀ p, okp K M C p → sA T (K 7) (plN K M p) ≠ -2) ∧ 0 < f ∧ sA T (K 7) (plN K M (P 0)) = 0
def CL (K : Nat → Nat) (M : PS) (C : Int32) (f : Nat) (P : Nat → Nat × Nat) (j o : Nat) : Prop := ∀ i q, i < f → q < 4 → (i < j ∨ (i = j ∧ q < o)) → okp K M C (mvp q (P i)) → ∃ i2, i2 < f ∧ P i2 = mvp q (P i)
theorem EI.q {T U : PS} {f : Nat} {P : Nat → Nat × Nat} (h : EI K M C R T f P) (h1 : AF K M U) (h2 : sA U = sA T) : EI K M C R U f P := by
  obtain ⟨-, e⟩ := h
  refine ⟨h1, ?_⟩
  rw [h2]
  exact e
theorem pose_pig (f : Nat) (P : Nat → Nat × Nat) (h : ∀ i, i < f → (P i).1 < 8 ∧ 1 ≤ (P i).2 ∧ (P i).2 ≤ R) (hd : ∀ i j, i < f → j < f → P i = P j → i = j) : f ≤ 8 * R := by
  refine pig (8 * R) f (fun i => (P i).1 * R + ((P i).2 - 1)) (fun i hi => ?_) (fun i j hi hj e => hd i j hi hj ?_)
  · obtain ⟨h1, h2, h3⟩ := h i hi
    have : (P i).1 * R ≤ 7 * R := Nat.mul_le_mul_right R (by omega)
    show (P i).1 * R + ((P i).2 - 1) < 8 * R
    omega
  · obtain ⟨h1, h2, h3⟩ := h i hi
    obtain ⟨g1, g2, g3⟩ := h j hj
    have e2 : (P i).1 * R + ((P i).2 - 1) = (P j).1 * R + ((P j).2 - 1) := e
    have k1 : ∀ x y : Nat, y < R → (x * R + y) / R = x ∧ (x * R + y) % R = y := fun x y hy => by
      constructor
      · rw [Nat.mul_comm, Nat.mul_add_div (by omega), Nat.div_eq_of_lt hy, Nat.add_zero]
      · rw [Nat.mul_comm, Nat.mul_add_mod, Nat.mod_eq_of_lt hy]
    have a1 := k1 (P i).1 ((P i).2 - 1) (by omega)
    have a2 := k1 (P j).1 ((P j).2 - 1) (by omega)
    rw [e2] at a1
    exact Prod.ext (a1.1.symm.trans a2.1) (by have := a1.2.symm.trans a2.2; omega)
theorem mvp_le {o : Nat} {p : Nat × Nat} (h : p.1 < 8) (hr : p.2 ≤ 9) : (mvp o p).1 < 8 ∧ (mvp o p).2 ≤ 10 := by
  unfold mvp
  repeat' split
  all_goals (simp only; omega)
theorem upd_s (f : Nat → Int32) (k : Nat) (x : Int32) : upd f k x k = x := by unfold upd; rw [if_pos rfl]
theorem upd_n (f : Nat → Int32) {k j : Nat} (x : Int32) (h : j ≠ k) : upd f k x j = f j := by unfold upd; rw [if_neg h]
theorem nIne {s : Nat} (h : s < 2 ^ 31) : nI s ≠ -1 ∧ nI s ≠ -2 := by
  constructor <;> intro e <;> have := congrArg Int32.toInt e <;> rw [nI_toInt h] at this <;> simp at this <;> omega
theorem ex_lp (B : PB K M R) {S0 : PS} {a : Nat} (hC : C = m_clashesOf K (m_fill K S0 (K 7) (-1)) a) : ∀ (r j o f : Nat) (T : PS) (P : Nat → Nat × Nat), EI K M C R T f P → CL K M C f P j o → j < f → o ≤ 4 → 5 * j + o + r = 360 →
    ∃ (f2 : Nat) (P2 : Nat → Nat × Nat), (m_explore_lp K S0 a r j o f T).1 = nI f2 ∧ EI K M C R (m_explore_lp K S0 a r j o f T).2 f2 P2 ∧ (∀ i q, i < f2 → q < 4 → okp K M C (mvp q (P2 i)) → ∃ i2, i2 < f2 ∧ P2 i2 = mvp q (P2 i)) ∧ P2 0 = P 0
  | 0, j, o, f, T, P, hE, hc, hj, ho, hf => by
    have := pose_pig (R := R) f P (fun i hi => ⟨(hE.2.2.1 i hi).1, (hE.2.2.1 i hi).2.1, (hE.2.2.1 i hi).2.2.1⟩) hE.2.2.2.1
    have := B.2.2.2
    omega
  | r + 1, j, o, f, T, P, hE, hc, hj, ho, hf => by
    have hle := pose_pig (R := R) f P (fun i hi => ⟨(hE.2.2.1 i hi).1, (hE.2.2.1 i hi).2.1, (hE.2.2.1 i hi).2.2.1⟩) hE.2.2.2.1
    have hR := B.2.2.2
    obtain ⟨⟨hG, hT0, hK⟩, ⟨hY, hTW⟩, hR1, -⟩ := B
    have B : PB K M R := ⟨⟨hG, hT0, hK⟩, ⟨hY, hTW⟩, hR1, hR⟩
    obtain ⟨b1, b2, b3, b4⟩ := hE.2.2.1 j hj
    have ih := ex_lp B hC r
    simp only [m_explore_lp]
    rw [← hC, nI_clamp (show j < 2 ^ 31 by omega), hE.2.1 j hj]
    have hA := ap_assume hG.1 hE.1 (b := (P j).1) (r := (P j).2) b1 (by omega)
    have sA1 : sA (m_assume K T (nI ((P j).1 * 10 + (P j).2))) = sA T := rfl
    generalize m_assume K T (nI ((P j).1 * 10 + (P j).2)) = A at hA sA1 ⊢
    have n8 : sN T (K 8) = 72 := by rw [hE.1.1.1.2.2.1]; exact hG.1.n8
    by_cases c1 : o = 4
    · subst c1
      have call : f ≤ j + 1 → ∀ i q, i < f → q < 4 → okp K M C (mvp q (P i)) → ∃ i2, i2 < f ∧ P i2 = mvp q (P i) := fun hfj i q hi hq hok => hc i q hi hq (by omega) hok
      rw [if_pos (by decide), n8]
      by_cases c2 : nI f ≤ nI (j + 1)
      · rw [if_pos c2]
        rw [nI_leI (by omega) (by omega)] at c2
        exact ⟨f, P, rfl, hE, call c2, rfl⟩
      · rw [if_neg c2]
        by_cases c3 : nI 72 ≤ nI (j + 1)
        · rw [if_pos c3]
          rw [nI_leI (by decide) (by omega)] at c3
          exact ⟨f, P, rfl, hE, call (by omega), rfl⟩
        · rw [if_neg c3]
          rw [nI_leI (by omega) (by omega)] at c2
          refine ih (j + 1) 0 f T P hE (fun i q hi hq hiq hok => ?_) (by omega) (by omega) (by omega)
          exact hc i q hi hq (by omega) hok
    · have ho4 : o < 4 := by omega
      rw [if_neg (show ¬ (3 < nI o) from fun h => by have h2 : nI 3 < nI o := h; rw [nI_ltI (by decide) (by omega)] at h2; omega)]
      have hU : AP K M (m_move K A (K 4) (nI o)) (mvp o (P j)).1 (mvp o (P j)).2 := ap_move hG.1 hA b1 b2 (by omega) ho4
      have sAU : sA (m_move K A (K 4) (nI o)) = sA T := move_A.trans sA1
      have bm := mvp_le (o := o) (p := P j) b1 (by omega)
      generalize hp' : mvp o (P j) = p' at hU bm
      generalize m_move K A (K 4) (nI o) = U at hU sAU ⊢
      have eh : m_plumb K A (K 4) = pl K M (P j) := s_plumb (gw_pz hG _ _).1 hA.at.1 hA.at.2
      have en : m_plumb K U (K 4) = pl K M p' := s_plumb (gw_pz hG _ _).1 hU.at.1 hU.at.2
      have m7 : sN U (K 7) = 196 := by rw [hU.1.1.1.2.2.1]; exact hG.1.n7
      have m8 : sN U (K 8) = 72 := by rw [hU.1.1.1.2.2.1]; exact hG.1.n8
      have ph := pl_lt hY hTW b1 (by omega) b4
      rw [eh, en, m7, m8, s_hindT (gw_pz hG _ _) hT0 hU.at]
      rw [if_neg (show ¬ pl K M (P j) < 0 from by rw [Int32.lt_iff_toInt_lt, ti_0]; omega), if_neg (show ¬ nI 196 ≤ pl K M (P j) from by rw [Int32.le_iff_toInt_le, nI_toInt (by decide)]; omega)]
      have hEU : EI K M C R U f P := hE.q hU.1 sAU
      have go : (okp K M C p' → ∃ i2, i2 < f ∧ P i2 = p') → CL K M C f P j (o + 1) := fun h i q hi hq hiq hok => by
        by_cases e : i = j ∧ q = o
        · obtain ⟨rfl, rfl⟩ := e
          rw [hp'] at hok ⊢
          exact h hok
        · exact hc i q hi hq (by omega) hok
      by_cases cy : yp K M p'
      · have pn := pl_lt hY hTW bm.1 (by omega) cy
        have pN := plN_lt B bm.1 (show p'.2 ≤ 20 by omega) cy
        rw [if_neg (show ¬ pl K M p' < 0 from by rw [Int32.lt_iff_toInt_lt, ti_0]; omega), if_neg (show ¬ nI 196 ≤ pl K M p' from by rw [Int32.le_iff_toInt_le, nI_toInt (by decide)]; omega)]
        show ∃ (f2 : Nat) (P2 : Nat → Nat × Nat), (if sA U (K 7) (plN K M p') = -1 then _ else _ : Int32 × PS).1 = nI f2 ∧ EI K M C R (if sA U (K 7) (plN K M p') = -1 then _ else _ : Int32 × PS).2 f2 P2 ∧ _
        by_cases c6 : sA U (K 7) (plN K M p') = -1
        · rw [if_pos c6]
          have fresh : ∀ i, i < f → plN K M (P i) ≠ plN K M p' := fun i hi e => by
            obtain ⟨s, s1, s2⟩ := hEU.2.2.2.2.1 i hi
            rw [e, c6] at s2
            exact (nIne (show s < 2 ^ 31 by omega)).1 s2.symm
          have r7 : ∀ v w, sA (uA U (K 7) (upd (sA U (K 7)) (plN K M p') v)) (K 7) w = if w = plN K M p' then v else sA U (K 7) w := fun v w => by
            show va_up (sA U) (K 7) _ (K 7) w = _
            rw [va_up_self]
            rfl
          have r8 : ∀ v, sA (uA U (K 7) (upd (sA U (K 7)) (plN K M p') v)) (K 8) = sA U (K 8) := fun v => va_up_ne _ _ hK.2.1.1.symm
          have bar : ¬ okp K M C p' → EI K M C R (uA U (K 7) (upd (sA U (K 7)) (plN K M p') (-2))) f P := fun hno => by
            obtain ⟨e1, e2, e3, e4, e5, e6, e7, e8, e9⟩ := hEU
            refine ⟨e1.uA hK.1.1 _, fun i hi => by rw [r8]; exact e2 i hi, e3, e4, fun i hi => ?_, fun w hw => ?_, fun p hp => ?_, e8, ?_⟩
            · rw [r7, if_neg (fresh i hi)]; exact e5 i hi
            · rw [r7]
              by_cases e : w = plN K M p'
              · rw [if_pos e]; exact Or.inr (Or.inl rfl)
              · rw [if_neg e]; exact e6 w hw
            · rw [r7]
              by_cases e : plN K M p = plN K M p'
              · have o1 := okp_in B hp
                have := plN_inj B hp.1 hp.2.1 bm.1 (by omega) o1.1 o1.2.2 cy e
                exact absurd (this ▸ hp) hno
              · rw [if_neg e]; exact e7 p hp
            · rw [r7, if_neg (fresh 0 e8)]; exact e9
          have notin : okp K M C p' → f + 1 ≤ 8 * R := fun hok => by
            have o1 := okp_in B hok
            refine pose_pig (R := R) (f + 1) (fun i => if i < f then P i else p') (fun i hi => ?_) (fun i k hi hk e => ?_)
            · show (if i < f then P i else p').1 < 8 ∧ 1 ≤ (if i < f then P i else p').2 ∧ (if i < f then P i else p').2 ≤ R
              by_cases e : i < f
              · rw [if_pos e]; exact ⟨(hE.2.2.1 i e).1, (hE.2.2.1 i e).2.1, (hE.2.2.1 i e).2.2.1⟩
              · rw [if_neg e]; exact ⟨hok.1, o1.1, o1.2.1⟩
            · have e' : (if i < f then P i else p') = (if k < f then P k else p') := e
              by_cases c : i < f <;> by_cases d : k < f
              · rw [if_pos c, if_pos d] at e'; exact hE.2.2.2.1 i k c d e'
              · rw [if_pos c, if_neg d] at e'; exact absurd (congrArg (plN K M) e') (fresh i c)
              · rw [if_neg c, if_pos d] at e'; exact absurd (congrArg (plN K M) e'.symm) (fresh k d)
              · omega
          by_cases c7 : nI 72 ≤ nI f
          · rw [if_pos c7]
            rw [nI_leI (by decide) (by omega)] at c7
            have hno : ¬ okp K M C p' := fun h => by have := notin h; omega
            exact ih j (o + 1) f _ P (bar hno) (go (fun h => absurd h hno)) hj (by omega) (by omega)
          · rw [if_neg c7]
            by_cases c8 : m_hindrance K (PZ K M p'.1 p'.2) (K 4) 1 C = 0
            · rw [if_pos c8]
              have hok : okp K M C p' := ⟨bm.1, by omega, c8⟩
              have o1 := okp_in B hok
              have hf8 := notin hok
              obtain ⟨s, s1, s2⟩ := hEU.2.2.2.2.1 j hj
              have ep : m_poseOf K (uA U (K 7) (upd (sA U (K 7)) (pl K M p').toNatClampNeg (sA U (K 7) (pl K M (P j)).toNatClampNeg + 1))) (K 4) = nI (p'.1 * 10 + p'.2) := by
                show sI U 8 (K 4) * 10 + sI U 10 (K 4) = _
                rw [hU.2.1, hU.2.2.2]
                have hm : ∀ b, b < 8 → nI b * 10 = nI (b * 10) := by decide +kernel
                rw [hm _ bm.1, nI_add]
              have es : sA U (K 7) (pl K M (P j)).toNatClampNeg + 1 = nI (s + 1) := by
                show sA U (K 7) (plN K M (P j)) + 1 = _
                rw [s2, nI_1]
              rw [ep, es, nI_clamp (show f < 2 ^ 31 by omega)]
              show ∃ (f2 : Nat) (P2 : Nat → Nat × Nat), (m_explore_lp K S0 a r j (o + 1) (f + 1) (uA (uA U (K 7) (upd (sA U (K 7)) (plN K M p') (nI (s + 1)))) (K 8) (upd (sA (uA U (K 7) (upd (sA U (K 7)) (plN K M p') (nI (s + 1)))) (K 8)) f (nI (p'.1 * 10 + p'.2))))).1 = nI f2 ∧ EI K M C R (m_explore_lp K S0 a r j (o + 1) (f + 1) (uA (uA U (K 7) (upd (sA U (K 7)) (plN K M p') (nI (s + 1)))) (K 8) (upd (sA (uA U (K 7) (upd (sA U (K 7)) (plN K M p') (nI (s + 1)))) (K 8)) f (nI (p'.1 * 10 + p'.2))))).2 f2 P2 ∧ _
              have q8 : ∀ i, sA (uA (uA U (K 7) (upd (sA U (K 7)) (plN K M p') (nI (s + 1)))) (K 8) (upd (sA (uA U (K 7) (upd (sA U (K 7)) (plN K M p') (nI (s + 1)))) (K 8)) f (nI (p'.1 * 10 + p'.2)))) (K 8) i = if i = f then nI (p'.1 * 10 + p'.2) else sA U (K 8) i := fun i => by
                show va_up (sA (uA U (K 7) (upd (sA U (K 7)) (plN K M p') (nI (s + 1))))) (K 8) _ (K 8) i = _
                rw [va_up_self]
                by_cases e : i = f
                · rw [e, upd_s, if_pos rfl]
                · rw [upd_n _ _ e, if_neg e, r8]
              have q7 : ∀ w, sA (uA (uA U (K 7) (upd (sA U (K 7)) (plN K M p') (nI (s + 1)))) (K 8) (upd (sA (uA U (K 7) (upd (sA U (K 7)) (plN K M p') (nI (s + 1)))) (K 8)) f (nI (p'.1 * 10 + p'.2)))) (K 7) w = if w = plN K M p' then nI (s + 1) else sA U (K 7) w := fun w => by
                show va_up (sA (uA U (K 7) (upd (sA U (K 7)) (plN K M p') (nI (s + 1))))) (K 8) _ (K 7) w = _
                rw [va_up_ne _ _ hK.2.1.1]
                exact r7 _ w
              have hAF : AF K M (uA (uA U (K 7) (upd (sA U (K 7)) (plN K M p') (nI (s + 1)))) (K 8) (upd (sA (uA U (K 7) (upd (sA U (K 7)) (plN K M p') (nI (s + 1)))) (K 8)) f (nI (p'.1 * 10 + p'.2)))) := (hEU.1.uA hK.1.1 _).uA hK.1.2.1 _
              generalize uA (uA U (K 7) (upd (sA U (K 7)) (plN K M p') (nI (s + 1)))) (K 8) (upd (sA (uA U (K 7) (upd (sA U (K 7)) (plN K M p') (nI (s + 1)))) (K 8)) f (nI (p'.1 * 10 + p'.2))) = V at q7 q8 hAF ⊢
              obtain ⟨e1, e2, e3, e4, e5, e6, e7, e8, e9⟩ := hEU
              have hP : ∀ i, i < f → (fun i => if i = f then p' else P i) i = P i := fun i hi => if_neg (by omega)
              have hPf : (fun i => if i = f then p' else P i) f = p' := if_pos rfl
              obtain ⟨f2, P2, g1, g2, g3, g4⟩ := ih j (o + 1) (f + 1) V (fun i => if i = f then p' else P i) (by
                refine ⟨hAF, fun i hi => ?_, fun i hi => ?_, fun i k hi hk e => ?_, fun i hi => ?_, fun w hw => ?_, fun p hp => ?_, by omega, ?_⟩
                · by_cases e : i = f
                  · subst e; rw [q8, if_pos rfl, hPf]
                  · rw [q8, if_neg e, hP i (by omega)]; exact e2 i (by omega)
                · by_cases e : i = f
                  · subst e; rw [hPf]; exact ⟨hok.1, o1.1, o1.2.1, o1.2.2⟩
                  · rw [hP i (by omega)]; exact e3 i (by omega)
                · by_cases c : i = f <;> by_cases d : k = f
                  · omega
                  · subst c; rw [hPf, hP k (by omega)] at e; exact absurd (congrArg (plN K M) e.symm) (fresh k (by omega))
                  · subst d; rw [hPf, hP i (by omega)] at e; exact absurd (congrArg (plN K M) e) (fresh i (by omega))
                  · rw [hP i (by omega), hP k (by omega)] at e; exact e4 i k (by omega) (by omega) e
                · by_cases e : i = f
                  · subst e; rw [hPf, q7, if_pos rfl]; exact ⟨s + 1, by omega, rfl⟩
                  · rw [hP i (by omega), q7, if_neg (fresh i (by omega))]; exact e5 i (by omega)
                · rw [q7]
                  by_cases e : w = plN K M p'
                  · exact Or.inr (Or.inr ⟨f, by omega, by rw [hPf]; exact e⟩)
                  · rw [if_neg e]
                    rcases e6 w hw with h | h | ⟨i, i1, i2⟩
                    · exact Or.inl h
                    · exact Or.inr (Or.inl h)
                    · exact Or.inr (Or.inr ⟨i, by omega, by rw [hP i i1]; exact i2⟩)
                · rw [q7]
                  by_cases e : plN K M p = plN K M p'
                  · rw [if_pos e]; exact (nIne (show s + 1 < 2 ^ 31 by omega)).2
                  · rw [if_neg e]; exact e7 p hp
                · rw [hP 0 e8, q7, if_neg (fresh 0 e8)]; exact e9) (by
                intro i q hi hq hiq hok2
                have hi2 : i < f := by omega
                rw [hP i hi2] at hok2 ⊢
                by_cases e : i = j ∧ q = o
                · obtain ⟨rfl, rfl⟩ := e
                  rw [hp']
                  exact ⟨f, by omega, hPf⟩
                · obtain ⟨i2, y1, y2⟩ := hc i q hi2 hq (by omega) hok2
                  exact ⟨i2, by omega, by rw [hP i2 y1]; exact y2⟩) (by omega) (by omega) (by omega)
              exact ⟨f2, P2, g1, g2, g3, g4.trans (hP 0 e8)⟩
            · rw [if_neg c8]
              have hno : ¬ okp K M C p' := fun h => c8 h.2.2
              exact ih j (o + 1) f _ P (bar hno) (go (fun h => absurd h hno)) hj (by omega) (by omega)
        · rw [if_neg c6]
          refine ih j (o + 1) f U P hEU (go (fun hok => ?_)) hj (by omega) (by omega)
          rcases hEU.2.2.2.2.2.1 _ pN.1 with h | h | ⟨i, i1, i2⟩
          · exact absurd h c6
          · exact absurd h (hEU.2.2.2.2.2.2.1 p' hok)
          · have t := hE.2.2.1 i i1
            exact ⟨i, i1, (plN_inj B (okp_in B hok |> fun _ => bm.1) (by omega) t.1 (by omega) (okp_in B hok).1 cy t.2.2.2 i2).symm⟩
      · have hpl := (pl_at hY hTW bm.1 (show p'.2 ≤ 20 by omega)).2 cy
        rw [if_pos (show pl K M p' < 0 from by rw [hpl]; decide)]
        exact ih j (o + 1) f U P hEU (go (fun hok => absurd (okp_in B hok).2.2 cy)) hj (by omega) (by omega)
end WY
