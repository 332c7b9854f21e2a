/-! level, hang, set, hand keep what holds -/
def sg (S T : PS) (a : Nat) : Prop := ∀ f, 1 ≤ f → f ≤ 11 → sI T f a = sI S f a
section SG
variable {E : EV} {K : Nat → Nat} {S T u : PS} {a b N : Nat}
theorem t_row (ha : sg S T a) (d : Int32) : m_rowAt K T a d = m_rowAt K S a d := by unfold m_rowAt; rw [ha 3 (by decide) (by decide), ha 8 (by decide) (by decide)]
theorem t_col (ha : sg S T a) (d : Int32) : m_columnAt K T a d = m_columnAt K S a d := by unfold m_columnAt; rw [ha 4 (by decide) (by decide), ha 8 (by decide) (by decide)]
theorem t_apart (ha : sg S T a) (r q : Int32) : m_apartFromJib K T a r q = m_apartFromJib K S a r q := by
  unfold m_apartFromJib; rw [ha 3 (by decide) (by decide), ha 4 (by decide) (by decide), ha 8 (by decide) (by decide), ha 9 (by decide) (by decide)]
theorem t_apOf_lp (ha : sg S T a) (hb : sg S T b) : ∀ (r j : Nat) (n : Int32), m_apartFromJibOf_lp K T a b r j n = m_apartFromJibOf_lp K S a b r j n
  | 0, j, n => rfl
  | r + 1, j, n => by simp only [m_apartFromJibOf_lp]; rw [t_apOf_lp ha hb r (j + 1), t_apart hb, t_row ha, t_col ha]
theorem t_apOf (ha : sg S T a) (hb : sg S T b) : m_apartFromJibOf K T a b = m_apartFromJibOf K S a b := by unfold m_apartFromJibOf; rw [t_apOf_lp ha hb, ha 9 (by decide) (by decide)]
theorem t_sweeps (ha : sg S T a) (hb : sg S T b) (t : Int32) : m_sweepsOn K T a b t = m_sweepsOn K S a b t := by
  unfold m_sweepsOn; rw [t_apart ha, ha 5 (by decide) (by decide), hb 5 (by decide) (by decide), hb 3 (by decide) (by decide), hb 4 (by decide) (by decide)]
theorem t_clash (ha : sg S T a) (hb : sg S T b) (t : Int32) : m_clashRule K T a b t = m_clashRule K S a b t := by
  unfold m_clashRule
  rw [ha 5 (by decide) (by decide), hb 5 (by decide) (by decide), ha 10 (by decide) (by decide), hb 10 (by decide) (by decide), ha 11 (by decide) (by decide), hb 11 (by decide) (by decide), t_sweeps ha hb, t_sweeps hb ha, t_apOf ha hb, t_apOf hb ha, t_apOf hb hb, t_apart hb, t_apart hb, t_apart ha, t_row ha, t_col ha, t_row hb, t_col hb]
theorem uM_s {f a : Nat} {v : Option Nat} : sM (uM S f a v) f a = v := up2_s _ _ _ _
theorem uM_f {f g a c : Nat} {v : Option Nat} (h : g ≠ f) : sM (uM S f a v) g c = sM S g c := up2_f _ _ _ _ h
theorem uM_a {f g a c : Nat} {v : Option Nat} (h : c ≠ a) : sM (uM S f a v) g c = sM S g c := up2_a _ _ _ _ h
theorem SS.cr (s : SS S u) (k : Nat) : CSlewyardLaw_law_r4819_b4f950.cr K u k = CSlewyardLaw_law_r4819_b4f950.cr K S k := s.elem _ _
theorem SS.ld (s : SS S u) (k : Nat) : CSlewyardLaw_law_r4819_b4f950.ld K u k = CSlewyardLaw_law_r4819_b4f950.ld K S k := s.elem _ _
/-- what an act keeps -/
def KP (E : EV) (K : Nat → Nat) (S u : PS) (N : Nat) : Prop := IV E K u N ∧ MO K S u ∧ NC K S u ∧ TT K S u
theorem KP.rf (h : IV E K S N) : KP E K S S N := ⟨h, MO.rf, NC.rf, TT.rf⟩
theorem iv_keep (h : IV E K S N) (hG : GW K u) (hs : SS S u) (hI : ∀ f a, f ≠ 21 → sI u f a = sI S f a) (hL : LI K u) (hlv : ∀ k, k < sZ S (K 13) → (m_levelOf K u (m_plumb K S (cr K S k))).toInt < (sI S 11 (cr K S k)).toInt)
    (hl0 : ∀ k, k < sZ S (K 13) → m_levelOf K u (sI S 2 (cr K S k)) = 0) (hlvl : ∀ i, i < 196 → 0 ≤ (sA u (K 6) i).toInt ∧ (sA u (K 6) i).toInt ≤ 20) : KP E K S u N := by
  have z := hs.z
  have hcl : m_cells K u = m_cells K S := by unfold m_cells; rw [hI 17 _ (by decide), hI 18 _ (by decide)]
  refine ⟨⟨⟨hG, h.l.ss hs, h.kd, ?_⟩, fun k hk => ?_, fun i j hi hj e => ?_, fun k hk => ?_, hL, hlvl, ?_, h.rb.of h.g.1 (hs.z _) (fun j _ => hs.elem _ _) (fun c _ => hI 31 c (by decide))⟩, ⟨⟨?_, ?_, ?_⟩, ⟨?_, ?_, ?_⟩, fun k hk => ?_, hcl⟩, ⟨z _, fun i j hi hj _ hc => ?_⟩, ?_⟩
  · unfold YD; rw [hI 17 _ (by decide), hI 18 _ (by decide)]; exact h.y
  · rw [z] at hk
    rw [hs.cr]
    exact (h.c hk).same (hs.kk.mpr (h.c hk).1.1) (fun f hf => hI f _ (by omega)) (hI 17 _ (by decide)) (hI 18 _ (by decide)) (by rw [hI 40 _ (by decide)]; exact Int.le_refl _) (hlv k hk)
  · rw [z] at hi hj
    rw [hs.cr, hs.cr, hI 2 _ (by decide), hI 2 _ (by decide)] at e
    exact h.tw i j hi hj e
  · rw [z] at hk
    rw [hs.cr, hI 2 _ (by decide)]
    exact hl0 k hk
  · have t := h.ti
    unfold TI at t ⊢
    rw [hI 39 _ (by decide), hI 40 _ (by decide), hI 41 _ (by decide), hI 50 _ (by decide)]
    exact t
  · rw [z]; exact Nat.le_refl _
  · rw [z]; exact Nat.le_refl _
  · rw [z]; exact Nat.le_refl _
  · rw [hI 39 _ (by decide)]; exact Int.le_refl _
  · rw [hI 40 _ (by decide)]; exact Int.le_refl _
  · rw [hI 41 _ (by decide)]; exact Int.le_refl _
  · rw [hs.cr, hI 15 _ (by decide)]; exact Int.le_refl _
  · have e : m_clash K u i j = m_clash K S i j := by
      unfold m_clash
      rw [hs.elem, hs.elem]
      exact t_clash (fun f f1 f2 => hI f _ (by omega)) (fun f f1 f2 => hI f _ (by omega)) 1
    rw [← e]; exact hc
  · unfold TT; rw [hI 39 _ (by decide), hI 40 _ (by decide)]
/-! level -/
theorem canBuild_lp {x v : Int32} : ∀ (r j : Nat), ¬ m_canBuild_lp K S x v r j = 0 → ∀ i, j ≤ i → i < j + r → m_plumb K S (cr K S i) = x → 1 ≤ sI S 11 (cr K S i) - v
  | 0, j, _, i, h1, h2, _ => by omega
  | r + 1, j, h, i, h1, h2, hp => by
    simp only [m_canBuild_lp] at h
    by_cases e : i = j
    · subst e
      have hp : m_plumb K S (el S (K 13) i) = x := hp
      by_cases c : sM S 14 (el S (K 13) i) = none
      · rw [if_pos c, if_pos hp] at h
        by_cases c2 : 1 ≤ sI S 11 (el S (K 13) i) - v
        · exact c2
        · rw [if_neg c2] at h; exact absurd rfl h
      · rw [if_neg c, if_pos hp] at h
        by_cases c2 : 2 ≤ sI S 11 (el S (K 13) i) - v
        · exact Int32.le_trans (by decide) c2
        · rw [if_neg c2] at h; exact absurd rfl h
    · have go : ¬ m_canBuild_lp K S x v r (j + 1) = 0 := by
        split at h
        · split at h
          · split at h
            · exact h
            · exact absurd rfl h
          · exact h
        · split at h
          · split at h
            · exact h
            · exact absurd rfl h
          · exact h
      exact canBuild_lp r (j + 1) go i (by omega) (by omega) hp
theorem build_lv {w v x : Int32} (n6 : sN S (K 6) = 196) (hw : 0 ≤ w.toInt ∧ w.toInt < 196) : m_levelOf K (uA S (K 6) (upd (sA S (K 6)) w.toNatClampNeg v)) x = if x = w then v else m_levelOf K S x := by
  have r : ∀ i, sA (uA S (K 6) (upd (sA S (K 6)) w.toNatClampNeg v)) (K 6) i = if i = w.toNatClampNeg then v else sA S (K 6) i := fun i => by
    show va_up (sA S) (K 6) _ (K 6) i = _
    rw [va_up_self]
    rfl
  unfold m_levelOf
  show (if x < 0 then (0 : Int32) else if nI (sN S (K 6)) ≤ x then 0 else sA (uA S (K 6) (upd (sA S (K 6)) w.toNatClampNeg v)) (K 6) x.toNatClampNeg) = _
  rw [r, n6]
  have tw := tnc w
  have tx := tnc x
  by_cases c1 : x < 0
  · rw [if_pos c1, if_pos c1, if_neg (fun e => by rw [e, Int32.lt_iff_toInt_lt, ti_0] at c1; omega)]
  · rw [if_neg c1, if_neg c1]
    by_cases c2 : nI 196 ≤ x
    · rw [if_pos c2, if_pos c2, if_neg (fun e => by rw [e, Int32.le_iff_toInt_le, nI_toInt (by decide)] at c2; omega)]
    · rw [if_neg c2, if_neg c2]
      rw [Int32.lt_iff_toInt_lt, ti_0] at c1
      by_cases e : x = w
      · rw [if_pos e, if_pos (by rw [e])]
      · rw [if_neg e, if_neg (fun e2 => e (by rw [← Int32.toInt_inj]; omega))]
theorem act_level (h : IV E K S N) (w v : Int32) : KP E K S (m_level K S w v).2.2 N := by
  unfold m_level
  by_cases c1 : m_hasCell K S w = 0
  · rw [if_pos c1]; exact KP.rf h
  rw [if_neg c1]
  by_cases c2 : OKw v 0 20
  · rw [if_pos c2]
    by_cases c3 : m_canBuild K S w v = 0
    · rw [if_pos c3]; exact KP.rf h
    rw [if_neg c3]
    have hc : 0 ≤ w.toInt ∧ w.toInt < 196 := by
      have hm := cells_int h.y
      have hy := h.y
      have cl : (sI S 17 (K 2)).toInt * (sI S 18 (K 2)).toInt ≤ 14 * 14 := Int.mul_le_mul hy.1.2 hy.2.2 (by have := hy.2; omega) (by omega)
      unfold m_hasCell at c1
      by_cases d1 : w < 0
      · rw [if_pos d1] at c1; exact absurd rfl c1
      rw [if_neg d1] at c1
      by_cases d2 : m_cells K S ≤ w
      · rw [if_pos d2] at c1; exact absurd rfl c1
      rw [Int32.lt_iff_toInt_lt, ti_0] at d1
      rw [Int32.le_iff_toInt_le] at d2
      omega
    have hb : m_build K S w v = uA S (K 6) (upd (sA S (K 6)) w.toNatClampNeg v) := by
      unfold m_build
      rw [if_neg (by rw [Int32.lt_iff_toInt_lt, ti_0]; omega), h.g.1.n6, if_neg (by rw [Int32.le_iff_toInt_le, nI_toInt (by decide)]; omega)]
    have hv : 0 ≤ v.toInt ∧ v.toInt ≤ 20 := by
      have a1 := c2.1
      have a2 := c2.2
      rw [Int32.lt_iff_toInt_lt, ti_0] at a1
      rw [Int32.lt_iff_toInt_lt, ti_20] at a2
      omega
    have g := g_build h.g.1 h.g.2.1 h.g.2.2 w v
    show KP E K S (m_build K S w v) N
    rw [hb] at g ⊢
    have lv := fun x => build_lv (K := K) (S := S) (v := v) (x := x) h.g.1.n6 hc
    unfold m_canBuild at c3
    by_cases d1 : m_towerOn K S w = -1
    · rw [if_pos d1] at c3
      by_cases d2 : m_loadsOn K S w ≤ 0
      · rw [if_pos d2] at c3
        refine iv_keep h g.1 g.2 (fun _ _ _ => rfl) h.li (fun k hk => ?_) (fun k hk => ?_) (fun i hi => ?_)
        · rw [lv]
          by_cases e : m_plumb K S (cr K S k) = w
          · rw [if_pos e]
            have := canBuild_lp _ 0 c3 k (Nat.zero_le _) (by omega) e
            have m := (h.c hk).2.2.2.1
            have p := level_in h (m_plumb K S (cr K S k))
            rw [Int32.le_iff_toInt_le, ti_1, ti_sub (by omega) (by omega)] at this
            omega
          · rw [if_neg e]; exact (h.c hk).2.2.2.1.2.2.2
        · rw [lv, if_neg (fun e => by rw [← e, w_tower h hk] at d1; exact (nIne (show k < 2 ^ 31 by have := h.n4; omega)).1 d1)]
          exact h.lv k hk
        · show 0 ≤ (va_up (sA S) (K 6) (upd (sA S (K 6)) w.toNatClampNeg v) (K 6) i).toInt ∧ (va_up (sA S) (K 6) (upd (sA S (K 6)) w.toNatClampNeg v) (K 6) i).toInt ≤ 20
          rw [va_up_self]
          by_cases e : i = w.toNatClampNeg
          · rw [e, upd_s]; exact hv
          · rw [upd_n _ _ e]; exact h.lvl i hi
      · rw [if_neg d2] at c3; exact absurd rfl c3
    · rw [if_neg d1] at c3; exact absurd rfl c3
  · rw [if_neg c2]; exact KP.rf h
/-! hang, set, hand -/
theorem first_lp {x : Int32} {q : Nat} : ∀ (r j : Nat), m_firstLoadOn_lp K S x r j = some q → ∃ i, j ≤ i ∧ i < j + r ∧ q = ld K S i ∧ sM S 22 q = none
  | 0, j, h => by cases h
  | r + 1, j, h => by
    simp only [m_firstLoadOn_lp] at h
    split at h
    · obtain ⟨i, h1, h2, h3⟩ := first_lp r (j + 1) h
      exact ⟨i, by omega, by omega, h3⟩
    · rename_i c
      have e : q = ld K S j := (Option.some.inj h).symm
      refine ⟨j, Nat.le_refl _, by omega, e, ?_⟩
      unfold m_liesOn at c
      split at c
      · rename_i c2; rw [e]; exact c2
      · exact absurd rfl c
theorem act_hang (h : IV E K S N) (k : Nat) : KP E K S (m_hang K S k).2.2 N := by
  unfold m_hang
  by_cases c1 : k < sZ S (K 13)
  · rw [if_pos c1]
    by_cases c2 : m_firstLoadOn K S (m_plumb K S (el S (K 13) k)) = none
    · rw [if_pos c2]; exact KP.rf h
    rw [if_neg c2]
    by_cases c3 : sM S 14 (el S (K 13) k) = none
    · rw [if_pos c3]
      by_cases c4 : m_isJustAbove K S (el S (K 13) k) = 0
      · rw [if_pos c4]; exact KP.rf h
      rw [if_neg c4]
      cases hq : m_firstLoadOn K S (m_plumb K S (el S (K 13) k)) with
      | none => exact absurd hq c2
      | some q =>
        obtain ⟨j, -, j2, j3, j4⟩ := first_lp _ _ hq
        rw [Nat.zero_add] at j2
        show KP E K S (if sI S 20 q ≤ m_capacityOf K S (el S (K 13) k) (sI S 10 (el S (K 13) k)) then (0, sI (m_hangOn K S q (el S (K 13) k)) 19 q, m_hangOn K S q (el S (K 13) k)) else (0, (-1), S) : Nat × Int32 × PS).2.2 N
        by_cases c5 : sI S 20 q ≤ m_capacityOf K S (el S (K 13) k) (sI S 10 (el S (K 13) k))
        · rw [if_pos c5]
          have ka := (h.c c1).1.1
          have kq : InK S q 2 := by rw [j3]; exact LSt.el h.g.1.l14 j2
          have g := g_hangOn h.g.1 h.g.2.1 h.g.2.2 kq.1 kq.2 ka.1 ka.2
          show KP E K S (m_hangOn K S q (cr K S k)) N
          have m22 : ∀ x, sM (m_hangOn K S q (cr K S k)) 22 x = if x = q then some (cr K S k) else sM S 22 x := fun x => by
            show sM (uM (uM S 22 q (some (cr K S k))) 14 (cr K S k) (some q)) 22 x = _
            rw [uM_f (by decide)]
            by_cases e : x = q
            · rw [e, uM_s, if_pos rfl]
            · rw [uM_a e, if_neg e]
          have m14 : ∀ x, sM (m_hangOn K S q (cr K S k)) 14 x = if x = cr K S k then some q else sM S 14 x := fun x => by
            show sM (uM (uM S 22 q (some (cr K S k))) 14 (cr K S k) (some q)) 14 x = _
            by_cases e : x = cr K S k
            · rw [e, uM_s, if_pos rfl]
            · rw [uM_a e, uM_f (by decide), if_neg e]
          refine iv_keep h g.1 g.2 (fun _ _ _ => rfl) ⟨fun i hi => h.li.1 i hi, fun i hi c hc => ?_, fun i hi x hx => ?_⟩ (fun i hi => (h.c hi).2.2.2.1.2.2.2) (fun i hi => h.lv i hi) h.lvl
          · have hc : sM (m_hangOn K S q (cr K S k)) 22 (ld K S i) = some c := hc
            show ∃ k2, k2 < sZ S (K 13) ∧ c = cr K S k2 ∧ sM (m_hangOn K S q (cr K S k)) 14 c = some (ld K S i)
            rw [m22] at hc
            by_cases e : ld K S i = q
            · rw [if_pos e] at hc
              cases hc
              exact ⟨k, c1, rfl, by rw [m14, if_pos rfl, e]⟩
            · rw [if_neg e] at hc
              obtain ⟨k2, k3, k4, k5⟩ := h.li.2.1 i hi c hc
              refine ⟨k2, k3, k4, ?_⟩
              rw [m14, if_neg (fun e2 => by rw [e2] at k5; rw [show sM S 14 (cr K S k) = none from c3] at k5; cases k5)]
              exact k5
          · have hx : sM (m_hangOn K S q (cr K S k)) 14 (cr K S i) = some x := hx
            show ∃ j2, j2 < sZ S (K 14) ∧ x = ld K S j2 ∧ sM (m_hangOn K S q (cr K S k)) 22 x = some (cr K S i)
            rw [m14] at hx
            by_cases e : cr K S i = cr K S k
            · rw [if_pos e] at hx
              cases hx
              exact ⟨j, j2, j3, by rw [m22, if_pos rfl, e]⟩
            · rw [if_neg e] at hx
              obtain ⟨i2, i3, i4, i5⟩ := h.li.2.2 i hi x hx
              refine ⟨i2, i3, i4, ?_⟩
              rw [m22, if_neg (fun e2 => by rw [e2, j4] at i5; cases i5)]
              exact i5
        · rw [if_neg c5]; exact KP.rf h
    · rw [if_neg c3]; exact KP.rf h
  · rw [if_neg c1]; exact KP.rf h
theorem act_set (h : IV E K S N) (k : Nat) : KP E K S (m_set K S k).2.2 N := by
  unfold m_set
  by_cases c1 : k < sZ S (K 13)
  · rw [if_pos c1]
    by_cases c2 : sM S 14 (el S (K 13) k) = none
    · rw [if_pos c2]; exact KP.rf h
    rw [if_neg c2]
    by_cases c3 : m_isJustAbove K S (el S (K 13) k) = 0
    · rw [if_pos c3]; exact KP.rf h
    rw [if_neg c3]
    by_cases c4 : m_towerOn K S (m_plumb K S (el S (K 13) k)) = -1
    · rw [if_pos c4]
      cases hq : sM S 14 (el S (K 13) k) with
      | none => exact absurd hq c2
      | some q =>
        obtain ⟨j, j2, j3, j4⟩ := h.li.2.2 k c1 q hq
        have ka := (h.c c1).1.1
        have kq : InK S q 2 := by rw [j3]; exact LSt.el h.g.1.l14 j2
        have g := g_lieOn (S := uM S 14 (cr K S k) none) h.g.1.uM (AW.uM h.g.2.1) (WM.uMn h.g.2.2) kq.1 kq.2 (m_plumb K S (cr K S k))
        have pl := (h.c c1).pl h.y
        show KP E K S (m_lieOn K (uM S 14 (cr K S k) none) q (m_plumb K S (cr K S k))) N
        have m22 : ∀ x, sM (m_lieOn K (uM S 14 (cr K S k) none) q (m_plumb K S (cr K S k))) 22 x = if x = q then none else sM S 22 x := fun x => by
          show sM (uM (uM S 14 (cr K S k) none) 22 q none) 22 x = _
          by_cases e : x = q
          · rw [e, uM_s, if_pos rfl]
          · rw [uM_a e, uM_f (by decide), if_neg e]
        have m14 : ∀ x, sM (m_lieOn K (uM S 14 (cr K S k) none) q (m_plumb K S (cr K S k))) 14 x = if x = cr K S k then none else sM S 14 x := fun x => by
          show sM (uM (uM S 14 (cr K S k) none) 22 q none) 14 x = _
          rw [uM_f (by decide)]
          by_cases e : x = cr K S k
          · rw [e, uM_s, if_pos rfl]
          · rw [uM_a e, if_neg e]
        have iI : ∀ f x, f ≠ 21 → sI (m_lieOn K (uM S 14 (cr K S k) none) q (m_plumb K S (cr K S k))) f x = sI S f x := fun f x hf => uI_f hf
        have i21 : ∀ x, sI (m_lieOn K (uM S 14 (cr K S k) none) q (m_plumb K S (cr K S k))) 21 x = if x = q then m_plumb K S (cr K S k) else sI S 21 x := fun x => by
          show sI (uI (uM (uM S 14 (cr K S k) none) 22 q none) 21 q (m_plumb K S (cr K S k))) 21 x = _
          by_cases e : x = q
          · rw [e, uI_s, if_pos rfl]
          · rw [uI_a e, if_neg e]
        have hcl : m_cells K (m_lieOn K (uM S 14 (cr K S k) none) q (m_plumb K S (cr K S k))) = m_cells K S := by unfold m_cells; rw [iI 17 _ (by decide), iI 18 _ (by decide)]
        have lv : ∀ x, m_levelOf K (m_lieOn K (uM S 14 (cr K S k) none) q (m_plumb K S (cr K S k))) x = m_levelOf K S x := fun _ => rfl
        have hA6 : sA (m_lieOn K (uM S 14 (cr K S k) none) q (m_plumb K S (cr K S k))) (K 6) = sA S (K 6) := rfl
        have hs : SS S (m_lieOn K (uM S 14 (cr K S k) none) q (m_plumb K S (cr K S k))) := g.2
        have hG := g.1
        generalize m_lieOn K (uM S 14 (cr K S k) none) q (m_plumb K S (cr K S k)) = u at hs hG m22 m14 iI i21 hcl lv hA6 ⊢
        refine iv_keep h hG hs iI ⟨fun i hi => ?_, fun i hi c hc => ?_, fun i hi x hx => ?_⟩ (fun i hi => by rw [lv]; exact (h.c hi).2.2.2.1.2.2.2) (fun i hi => by rw [lv]; exact h.lv i hi) (by rw [hA6]; exact h.lvl)
        · rw [hs.z] at hi
          rw [hs.ld, iI 19 _ (by decide), i21, hcl]
          have l0 := h.li.1 i hi
          refine ⟨l0.1, ?_⟩
          by_cases e : ld K S i = q
          · rw [if_pos e]; exact ⟨pl.2.1, pl.2.2.1⟩
          · rw [if_neg e]; exact l0.2
        · rw [hs.z] at hi
          rw [hs.ld, m22] at hc
          by_cases e : ld K S i = q
          · rw [if_pos e] at hc; cases hc
          · rw [if_neg e] at hc
            obtain ⟨k2, k3, k4, k5⟩ := h.li.2.1 i hi c hc
            refine ⟨k2, by rw [hs.z]; exact k3, by rw [hs.cr]; exact k4, ?_⟩
            rw [hs.ld, m14, if_neg (fun e2 => by rw [e2] at k5; exact e (Option.some.inj (k5.symm.trans (show sM S 14 (cr K S k) = some q from hq))))]
            exact k5
        · rw [hs.z] at hi
          rw [hs.cr, m14] at hx
          by_cases e : cr K S i = cr K S k
          · rw [if_pos e] at hx; cases hx
          · rw [if_neg e] at hx
            obtain ⟨i2, i3, i4, i5⟩ := h.li.2.2 i hi x hx
            refine ⟨i2, by rw [hs.z]; exact i3, by rw [hs.ld]; exact i4, ?_⟩
            rw [hs.cr, m22, if_neg (fun e2 => by rw [e2] at i5; exact e (Option.some.inj (i5.symm.trans (show sM S 22 q = some (cr K S k) from j4))))]
            exact i5
    · rw [if_neg c4]; exact KP.rf h
  · rw [if_neg c1]; exact KP.rf h
theorem act_hand (h : IV E K S N) (k q0 : Nat) : KP E K S (m_hand K S k q0).2.2 N := by
  unfold m_hand
  by_cases c1 : k < sZ S (K 13)
  · rw [if_pos c1]
    by_cases c0 : q0 < sZ S (K 13)
    · rw [if_pos c0]
      by_cases c2 : nI k = nI q0
      · rw [if_pos c2]; exact KP.rf h
      rw [if_neg c2]
      by_cases c3 : sM S 14 (el S (K 13) k) = none
      · rw [if_pos c3]; exact KP.rf h
      rw [if_neg c3]
      by_cases c4 : sM S 14 (el S (K 13) q0) = none
      · rw [if_pos c4]
        by_cases c5 : m_canMeet K S (el S (K 13) k) (el S (K 13) q0) = 0
        · rw [if_pos c5]; exact KP.rf h
        rw [if_neg c5]
        cases hq : sM S 14 (el S (K 13) k) with
        | none => exact absurd hq c3
        | some q =>
          show KP E K S (if m_capacityOf K S (el S (K 13) q0) (sI S 10 (el S (K 13) q0)) < sI S 20 q then (0, (-1), S) else if 2 ≤ m_above K S (el S (K 13) q0) then (0, sI (m_hangOn K (uM S 14 (el S (K 13) k) none) q (el S (K 13) q0)) 19 q, m_hangOn K (uM S 14 (el S (K 13) k) none) q (el S (K 13) q0)) else (0, (-1), S) : Nat × Int32 × PS).2.2 N
          by_cases c6 : m_capacityOf K S (el S (K 13) q0) (sI S 10 (el S (K 13) q0)) < sI S 20 q
          · rw [if_pos c6]; exact KP.rf h
          rw [if_neg c6]
          by_cases c7 : 2 ≤ m_above K S (el S (K 13) q0)
          · rw [if_pos c7]
            obtain ⟨j, j2, j3, j4⟩ := h.li.2.2 k c1 q hq
            have ka := (h.c c0).1.1
            have kq : InK S q 2 := by rw [j3]; exact LSt.el h.g.1.l14 j2
            have hac : cr K S k ≠ cr K S q0 := fun e => c2 (by rw [h.inj c1 c0 e])
            have g := g_hangOn (S := uM S 14 (cr K S k) none) h.g.1.uM (AW.uM h.g.2.1) (WM.uMn h.g.2.2) kq.1 kq.2 ka.1 ka.2
            show KP E K S (m_hangOn K (uM S 14 (cr K S k) none) q (cr K S q0)) N
            have m22 : ∀ x, sM (m_hangOn K (uM S 14 (cr K S k) none) q (cr K S q0)) 22 x = if x = q then some (cr K S q0) else sM S 22 x := fun x => by
              show sM (uM (uM (uM S 14 (cr K S k) none) 22 q (some (cr K S q0))) 14 (cr K S q0) (some q)) 22 x = _
              rw [uM_f (by decide)]
              by_cases e : x = q
              · rw [e, uM_s, if_pos rfl]
              · rw [uM_a e, uM_f (by decide), if_neg e]
            have m14 : ∀ x, sM (m_hangOn K (uM S 14 (cr K S k) none) q (cr K S q0)) 14 x = if x = cr K S q0 then some q else if x = cr K S k then none else sM S 14 x := fun x => by
              show sM (uM (uM (uM S 14 (cr K S k) none) 22 q (some (cr K S q0))) 14 (cr K S q0) (some q)) 14 x = _
              by_cases e : x = cr K S q0
              · rw [e, uM_s, if_pos rfl]
              · rw [uM_a e, uM_f (by decide), if_neg e]
                by_cases e2 : x = cr K S k
                · rw [e2, uM_s, if_pos rfl]
                · rw [uM_a e2, if_neg e2]
            have lv : ∀ x, m_levelOf K (m_hangOn K (uM S 14 (cr K S k) none) q (cr K S q0)) x = m_levelOf K S x := fun _ => rfl
            have hA6 : sA (m_hangOn K (uM S 14 (cr K S k) none) q (cr K S q0)) (K 6) = sA S (K 6) := rfl
            have hs : SS S (m_hangOn K (uM S 14 (cr K S k) none) q (cr K S q0)) := g.2
            have hG := g.1
            have hI : sI (m_hangOn K (uM S 14 (cr K S k) none) q (cr K S q0)) = sI S := rfl
            have hcl : m_cells K (m_hangOn K (uM S 14 (cr K S k) none) q (cr K S q0)) = m_cells K S := rfl
            generalize m_hangOn K (uM S 14 (cr K S k) none) q (cr K S q0) = u at hs hG m22 m14 lv hA6 hI hcl ⊢
            refine iv_keep h hG hs (fun _ _ _ => by rw [hI]) ⟨fun i hi => ?_, fun i hi c hc => ?_, fun i hi x hx => ?_⟩ (fun i hi => by rw [lv]; exact (h.c hi).2.2.2.1.2.2.2) (fun i hi => by rw [lv]; exact h.lv i hi) (by rw [hA6]; exact h.lvl)
            · rw [hs.z] at hi
              rw [hs.ld, hI, hcl]
              exact h.li.1 i hi
            · rw [hs.z] at hi
              rw [hs.ld, m22] at hc
              by_cases e : ld K S i = q
              · rw [if_pos e] at hc
                cases hc
                exact ⟨q0, by rw [hs.z]; exact c0, by rw [hs.cr], by rw [hs.ld, m14, if_pos rfl, e]⟩
              · rw [if_neg e] at hc
                obtain ⟨k2, k3, k4, k5⟩ := h.li.2.1 i hi c hc
                refine ⟨k2, by rw [hs.z]; exact k3, by rw [hs.cr]; exact k4, ?_⟩
                rw [hs.ld, m14, if_neg (fun e2 => by rw [e2, show sM S 14 (cr K S q0) = none from c4] at k5; cases k5), if_neg (fun e2 => by rw [e2] at k5; exact e (Option.some.inj (k5.symm.trans (show sM S 14 (cr K S k) = some q from hq))))]
                exact k5
            · rw [hs.z] at hi
              rw [hs.cr, m14] at hx
              by_cases e : cr K S i = cr K S q0
              · rw [if_pos e] at hx
                cases hx
                exact ⟨j, by rw [hs.z]; exact j2, by rw [hs.ld]; exact j3, by rw [hs.cr, m22, if_pos rfl, e]⟩
              · rw [if_neg e] at hx
                by_cases e2 : cr K S i = cr K S k
                · rw [if_pos e2] at hx; cases hx
                · rw [if_neg e2] at hx
                  obtain ⟨i2, i3, i4, i5⟩ := h.li.2.2 i hi x hx
                  refine ⟨i2, by rw [hs.z]; exact i3, by rw [hs.ld]; exact i4, ?_⟩
                  rw [hs.cr, m22, if_neg (fun e3 => by rw [e3] at i5; exact e2 (Option.some.inj (i5.symm.trans (show sM S 22 q = some (cr K S k) from j4))))]
                  exact i5
          · rw [if_neg c7]; exact KP.rf h
      · rw [if_neg c4]; exact KP.rf h
    · rw [if_neg c0]; exact KP.rf h
  · rw [if_neg c1]; exact KP.rf h
end SG
