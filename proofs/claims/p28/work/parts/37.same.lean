/-! what does not look at the trial crane answers the same (AG); what looks at it answers the same where it stands the same (AT) -/
def KD (K : Nat → Nat) : Prop := (K 6 ≠ K 7 ∧ K 6 ≠ K 8 ∧ K 6 ≠ K 9 ∧ K 6 ≠ K 10) ∧ (K 7 ≠ K 8 ∧ K 7 ≠ K 9 ∧ K 7 ≠ K 10) ∧ (K 8 ≠ K 9 ∧ K 8 ≠ K 10) ∧ K 9 ≠ K 10
/-- the trial crane is none of the yard's -/
def TO (K : Nat → Nat) (S : PS) : Prop := ∀ j, j < sZ S (K 13) → el S (K 13) j ≠ K 4
def AG (K : Nat → Nat) (S T : PS) : Prop := (sZ T = sZ S ∧ sE T = sE S ∧ sN T = sN S ∧ sO T = sO S) ∧ (∀ f a, a ≠ K 4 → sI T f a = sI S f a) ∧ (∀ f a, a ≠ K 4 → sM T f a = sM S f a) ∧ sA T (K 6) = sA S (K 6)
def sm (S T : PS) (a : Nat) : Prop := (∀ f, 1 ≤ f → f ≤ 11 → sI T f a = sI S f a) ∧ sM T 14 a = sM S 14 a
def AT (K : Nat → Nat) (S T : PS) : Prop := AG K S T ∧ sm S T (K 4)
theorem AG.rf {K : Nat → Nat} {S : PS} : AG K S S := ⟨⟨rfl, rfl, rfl, rfl⟩, fun _ _ _ => rfl, fun _ _ _ => rfl, rfl⟩
theorem QS.ag {K : Nat → Nat} {S T : PS} (hk : KD K) (h : QS K S T) : AG K S T :=
  ⟨⟨h.1.2.2.2.2.1, h.1.2.2.2.1, h.1.2.2.2.2.2.1, h.1.2.2.2.2.2.2⟩, h.2.1, h.2.2.1, h.2.2.2 _ hk.1.1 hk.1.2.1 hk.1.2.2.1 hk.1.2.2.2⟩
theorem AG.sm {K : Nat → Nat} {S T : PS} (h : AG K S T) {a : Nat} (ha : a ≠ K 4) : sm S T a := ⟨fun f _ _ => h.2.1 f a ha, h.2.2.1 14 a ha⟩
theorem AG.tr {K : Nat → Nat} {S T U : PS} (h : AG K S T) (h2 : AG K T U) : AG K S U :=
  ⟨⟨h2.1.1.trans h.1.1, h2.1.2.1.trans h.1.2.1, h2.1.2.2.1.trans h.1.2.2.1, h2.1.2.2.2.trans h.1.2.2.2⟩, fun f a e => (h2.2.1 f a e).trans (h.2.1 f a e), fun f a e => (h2.2.2.1 f a e).trans (h.2.2.1 f a e), h2.2.2.2.trans h.2.2.2⟩
theorem AG.sy {K : Nat → Nat} {S T : PS} (h : AG K S T) : AG K T S :=
  ⟨⟨h.1.1.symm, h.1.2.1.symm, h.1.2.2.1.symm, h.1.2.2.2.symm⟩, fun f a e => (h.2.1 f a e).symm, fun f a e => (h.2.2.1 f a e).symm, h.2.2.2.symm⟩
theorem ne_k {S : PS} {a b k k2 : Nat} (h1 : InK S a k) (h2 : InK S b k2) (h : k ≠ k2) : a ≠ b := fun e => h (by rw [← h1.2, ← h2.2, e])
section SAME
variable {K : Nat → Nat} {S T : PS} {a b : Nat}
theorem AG.el (h : AG K S T) (l j : Nat) : CSlewyardLaw_law_r4819_b4f950.el T l j = CSlewyardLaw_law_r4819_b4f950.el S l j := by unfold CSlewyardLaw_law_r4819_b4f950.el; rw [h.1.2.1, h.1.2.2.2]
theorem AG.z (h : AG K S T) (l : Nat) : sZ T l = sZ S l := by rw [h.1.1]
theorem AG.i (h : AG K S T) (f : Nat) {a : Nat} (ha : a ≠ K 4) : sI T f a = sI S f a := h.2.1 f a ha
theorem AG.m (h : AG K S T) (f : Nat) {a : Nat} (ha : a ≠ K 4) : sM T f a = sM S f a := h.2.2.1 f a ha
theorem WS.n1 (hW : WS K S) : K 1 ≠ K 4 := ne_k hW.k1 hW.k4 (by decide)
theorem WS.n2 (hW : WS K S) : K 2 ≠ K 4 := ne_k hW.k2 hW.k4 (by decide)
theorem WS.n0 (hW : WS K S) : K 0 ≠ K 4 := ne_k hW.k0 hW.k4 (by decide)
theorem WS.n5 (hW : WS K S) : K 5 ≠ K 4 := ne_k hW.k5 hW.k4 (by decide)
theorem s_row (ha : sm S T a) (d : Int32) : m_rowAt K T a d = m_rowAt K S a d := by unfold m_rowAt; rw [ha.1 3 (by decide) (by decide), ha.1 8 (by decide) (by decide)]
theorem s_col (ha : sm S T a) (d : Int32) : m_columnAt K T a d = m_columnAt K S a d := by unfold m_columnAt; rw [ha.1 4 (by decide) (by decide), ha.1 8 (by decide) (by decide)]
theorem s_apart (ha : sm S T a) (r q : Int32) : m_apartFromJib K T a r q = m_apartFromJib K S a r q := by
  unfold m_apartFromJib; rw [ha.1 3 (by decide) (by decide), ha.1 4 (by decide) (by decide), ha.1 8 (by decide) (by decide), ha.1 9 (by decide) (by decide)]
theorem s_apOf_lp (ha : sm S T a) (hb : sm S T b) : ∀ (r j : Nat) (n : Int32), m_apartFromJibOf_lp K T a b r j n = m_apartFromJibOf_lp K S a b r j n
  | 0, j, n => rfl
  | r + 1, j, n => by simp only [m_apartFromJibOf_lp]; rw [s_apOf_lp ha hb r (j + 1), s_apart hb, s_row ha, s_col ha]
theorem s_apOf (ha : sm S T a) (hb : sm S T b) : m_apartFromJibOf K T a b = m_apartFromJibOf K S a b := by unfold m_apartFromJibOf; rw [s_apOf_lp ha hb, ha.1 9 (by decide) (by decide)]
theorem s_sweeps (ha : sm S T a) (hb : sm S T b) (t : Int32) : m_sweepsOn K T a b t = m_sweepsOn K S a b t := by
  unfold m_sweepsOn; rw [s_apart ha, ha.1 5 (by decide) (by decide), hb.1 5 (by decide) (by decide), hb.1 3 (by decide) (by decide), hb.1 4 (by decide) (by decide)]
theorem s_clash (ha : sm S T a) (hb : sm S T b) (t : Int32) : m_clashRule K T a b t = m_clashRule K S a b t := by
  have a5 := ha.1 5 (by decide) (by decide)
  have b5 := hb.1 5 (by decide) (by decide)
  have a10 := ha.1 10 (by decide) (by decide)
  have b10 := hb.1 10 (by decide) (by decide)
  have a11 := ha.1 11 (by decide) (by decide)
  have b11 := hb.1 11 (by decide) (by decide)
  unfold m_clashRule
  rw [a5, b5, a10, b10, a11, b11, s_sweeps ha hb, s_sweeps hb ha, s_apOf ha hb, s_apOf hb ha, s_apOf hb hb, s_apart hb, s_apart hb, s_apart ha, s_row ha, s_col ha, s_row hb, s_col hb]
theorem s_hasPlace (hW : WS K S) (h : AG K S T) (r q : Int32) : m_hasPlace K T r q = m_hasPlace K S r q := by unfold m_hasPlace; rw [h.i 17 hW.n2, h.i 18 hW.n2]
theorem s_cellAt (hW : WS K S) (h : AG K S T) (r q : Int32) : m_cellAt K T r q = m_cellAt K S r q := by unfold m_cellAt; rw [s_hasPlace hW h, h.i 17 hW.n2]
theorem s_plumb (hW : WS K S) (h : AG K S T) (ha : sm S T a) : m_plumb K T a = m_plumb K S a := by unfold m_plumb; rw [s_cellAt hW h, s_row ha, s_col ha, ha.1 10 (by decide) (by decide)]
theorem s_level (h : AG K S T) (x : Int32) : m_levelOf K T x = m_levelOf K S x := by unfold m_levelOf; rw [h.1.2.2.1, h.2.2.2]
theorem s_rowOf (hW : WS K S) (h : AG K S T) (x : Int32) : m_rowOf K T x = m_rowOf K S x := by unfold m_rowOf; rw [h.i 17 hW.n2]
theorem s_columnOf (hW : WS K S) (h : AG K S T) (x : Int32) : m_columnOf K T x = m_columnOf K S x := by unfold m_columnOf; rw [h.i 17 hW.n2]
theorem s_cells (hW : WS K S) (h : AG K S T) : m_cells K T = m_cells K S := by unfold m_cells; rw [h.i 17 hW.n2, h.i 18 hW.n2]
theorem s_hasCell (hW : WS K S) (h : AG K S T) (x : Int32) : m_hasCell K T x = m_hasCell K S x := by unfold m_hasCell; rw [s_cells hW h]
theorem s_hour (hW : WS K S) (h : AG K S T) : m_hour K T = m_hour K S := by unfold m_hour; rw [h.i 39 hW.n1]
theorem s_possible (ha : sm S T a) : m_isPossible K T a = m_isPossible K S a := by unfold m_isPossible; rw [ha.1 10 (by decide) (by decide), ha.1 9 (by decide) (by decide), ha.1 5 (by decide) (by decide), ha.1 11 (by decide) (by decide)]
theorem s_windNow_lp (hW : WS K S) (h : AG K S T) : ∀ (r j u : Nat), j + r ≤ sZ S (K 11) → u ≠ K 4 → m_windNow_lp K T r j u = m_windNow_lp K S r j u ∧ m_windNow_lp K S r j u ≠ K 4
  | 0, j, u, _, hu => ⟨rfl, hu⟩
  | r + 1, j, u, hj, hu => by
    have he : CSlewyardLaw_law_r4819_b4f950.el S (K 11) j ≠ K 4 := ne_k (LSt.el hW.l11 (by omega)) hW.k4 (by decide)
    simp only [m_windNow_lp]
    rw [h.el, h.i 39 hW.n1, h.i 29 he, h.i 29 hu]
    split
    · exact s_windNow_lp hW h r (j + 1) u (by omega) hu
    · split
      · exact s_windNow_lp hW h r (j + 1) u (by omega) hu
      · exact s_windNow_lp hW h r (j + 1) _ (by omega) he
theorem s_windNow (hW : WS K S) (h : AG K S T) : m_windNow K T = m_windNow K S ∧ m_windNow K S ≠ K 4 := by
  unfold m_windNow
  rw [h.z]
  exact s_windNow_lp hW h _ _ _ (by omega) hW.n5
theorem s_force (hW : WS K S) (h : AG K S T) : m_force K T = m_force K S := by
  obtain ⟨h1, h2⟩ := s_windNow hW h
  unfold m_force; rw [h1, h.i 30 h2]
theorem s_windBearing (hW : WS K S) (h : AG K S T) : m_windBearing K T = m_windBearing K S := by
  obtain ⟨h1, h2⟩ := s_windNow hW h
  unfold m_windBearing; rw [h1, h.i 31 h2]
theorem s_capacity (hW : WS K S) (h : AG K S T) (ha : sm S T a) (d : Int32) : m_capacityOf K T a d = m_capacityOf K S a d := by
  obtain ⟨h1, h2⟩ := s_windNow hW h
  unfold m_capacityOf; rw [h1, h.i 30 h2, ha.1 7 (by decide) (by decide)]
theorem s_covers (h : AG K S T) (ha : a ≠ K 4) (r q : Int32) : m_covers K T a r q = m_covers K S a r q := by unfold m_covers; rw [h.i 42 ha, h.i 43 ha, h.i 44 ha, h.i 45 ha]
theorem s_shutAt (h : AG K S T) (ha : a ≠ K 4) (x : Int32) : m_isShutAt K T a x = m_isShutAt K S a x := by unfold m_isShutAt; rw [h.i 46 ha, h.i 47 ha]
theorem s_isShut_lp (hW : WS K S) (h : AG K S T) (x : Int32) : ∀ (r j : Nat), j + r ≤ sZ S (K 12) → m_isShut_lp K T x r j = m_isShut_lp K S x r j
  | 0, j, _ => rfl
  | r + 1, j, hj => by
    have he : CSlewyardLaw_law_r4819_b4f950.el S (K 12) j ≠ K 4 := ne_k (LSt.el hW.l12 (by omega)) hW.k4 (by decide)
    simp only [m_isShut_lp]
    rw [h.el, s_covers h he, s_shutAt h he, s_rowOf hW h, s_columnOf hW h, s_hour hW h, s_isShut_lp hW h x r (j + 1) (by omega)]
theorem s_isShut (hW : WS K S) (h : AG K S T) (x : Int32) : m_isShut K T x = m_isShut K S x := by unfold m_isShut; rw [h.z, s_isShut_lp hW h x _ _ (by omega)]
theorem s_hind_lp (ht : TO K S) (h : AG K S T) (ha : sm S T a) (q t : Int32) : ∀ (r j : Nat), j + r ≤ sZ S (K 13) → m_hindrance_lp K T a q t r j = m_hindrance_lp K S a q t r j
  | 0, j, _ => rfl
  | r + 1, j, hj => by
    simp only [m_hindrance_lp]
    rw [h.el, s_clash ha (h.sm (ht j (by omega))), ha.1 1 (by decide) (by decide), s_hind_lp ht h ha q t r (j + 1) (by omega)]
theorem s_hind (hW : WS K S) (hM : WM S) (hka : InK S a 0) (ht : TO K S) (h : AG K S T) (ha : sm S T a) (q t : Int32) : m_hindrance K T a q t = m_hindrance K S a q t := by
  have ld : ∀ x, sM S 14 a = some x → sI T 20 x = sI S 20 x := fun x hx => h.i 20 (ne_k (hM.1 a hka x hx) hW.k4 (by decide))
  have e20 : ¬ sM S 14 a = none → sI T 20 ((sM S 14 a).getD 0) = sI S 20 ((sM S 14 a).getD 0) := fun hn => by
    cases hx : sM S 14 a with
    | none => exact absurd hx hn
    | some x => exact ld x hx
  unfold m_hindrance
  rw [s_possible ha, ha.2, ha.1 11 (by decide) (by decide), s_plumb hW h ha, s_level h, h.z, s_hind_lp ht h ha q t _ _ (by omega), s_isShut hW h, s_capacity hW h ha, ha.1 10 (by decide) (by decide)]
  by_cases hn : sM S 14 a = none
  · rw [if_pos hn, if_pos hn]
  · rw [if_neg hn, if_neg hn, e20 hn]
theorem s_cb (ht : TO K S) (h : AG K S T) (ha : sm S T a) {j : Nat} (hj : j < sZ S (K 13)) : cb K T a j = cb K S a j := by
  unfold cb; rw [h.el, s_clash ha (h.sm (ht j hj)), ha.1 1 (by decide) (by decide)]
theorem orlp_eq {p q : Nat → Bool} : ∀ (r j : Nat) (n : Int32), (∀ i, j ≤ i → i < j + r → p i = q i) → orlp p r j n = orlp q r j n
  | 0, j, n, _ => rfl
  | r + 1, j, n, h => by
    simp only [orlp]
    rw [h j (Nat.le_refl _) (by omega), orlp_eq r (j + 1) _ (fun i h1 h2 => h i (by omega) (by omega))]
theorem s_clashesOf (ht : TO K S) (h : AG K S T) (ha : sm S T a) : m_clashesOf K T a = m_clashesOf K S a := by
  rw [clashesOf_or, clashesOf_or, h.z, orlp_eq _ _ _ (fun i h1 h2 => s_cb ht h ha (by omega))]
theorem s_towerOn_lp (ht : TO K S) (h : AG K S T) (x : Int32) : ∀ (r j : Nat), j + r ≤ sZ S (K 13) → m_towerOn_lp K T x r j = m_towerOn_lp K S x r j
  | 0, j, _ => rfl
  | r + 1, j, hj => by
    simp only [m_towerOn_lp]
    rw [h.el, h.i 2 (ht j (by omega)), s_towerOn_lp ht h x r (j + 1) (by omega)]
theorem s_towerOn (ht : TO K S) (h : AG K S T) (x : Int32) : m_towerOn K T x = m_towerOn K S x := by unfold m_towerOn; rw [h.z, s_towerOn_lp ht h x _ _ (by omega)]
theorem s_ldne (hW : WS K S) {j : Nat} (hj : j < sZ S (K 14)) : CSlewyardLaw_law_r4819_b4f950.el S (K 14) j ≠ K 4 := ne_k (LSt.el hW.l14 hj) hW.k4 (by decide)
theorem s_loadsOn_lp (hW : WS K S) (h : AG K S T) (x : Int32) : ∀ (r j : Nat) (n : Int32), j + r ≤ sZ S (K 14) → m_loadsOn_lp K T x r j n = m_loadsOn_lp K S x r j n
  | 0, j, n, _ => rfl
  | r + 1, j, n, hj => by
    have he := s_ldne hW (j := j) (by omega)
    have e : m_liesOn K T (CSlewyardLaw_law_r4819_b4f950.el T (K 14) j) x = m_liesOn K S (CSlewyardLaw_law_r4819_b4f950.el S (K 14) j) x := by
      unfold m_liesOn; rw [h.el, h.m 22 he, h.i 21 he]
    simp only [m_loadsOn_lp]
    rw [e, s_loadsOn_lp hW h x r (j + 1) n (by omega), s_loadsOn_lp hW h x r (j + 1) (n + 1) (by omega)]
theorem s_loadsOn (hW : WS K S) (h : AG K S T) (x : Int32) : m_loadsOn K T x = m_loadsOn K S x := by unfold m_loadsOn; rw [h.z, s_loadsOn_lp hW h x _ _ _ (by omega)]
theorem s_jibs_lp (hW : WS K S) (ht : TO K S) (h : AG K S T) (x : Int32) : ∀ (r j : Nat) (n : Int32), j + r ≤ sZ S (K 13) → m_jibsOver_lp K T x r j n = m_jibsOver_lp K S x r j n
  | 0, j, n, _ => rfl
  | r + 1, j, n, hj => by
    simp only [m_jibsOver_lp]
    rw [h.el, s_apart (h.sm (ht j (by omega))), s_rowOf hW h, s_columnOf hW h, s_jibs_lp hW ht h x r (j + 1) n (by omega), s_jibs_lp hW ht h x r (j + 1) _ (by omega)]
theorem s_jibs (hW : WS K S) (ht : TO K S) (h : AG K S T) (x : Int32) : m_jibsOver K T x = m_jibsOver K S x := by unfold m_jibsOver; rw [h.z, s_jibs_lp hW ht h x _ _ _ (by omega)]
theorem s_ofCell (hW : WS K S) (ht : TO K S) (h : AG K S T) (w x : Int32) : m_ofCell K T w x = m_ofCell K S w x := by
  unfold m_ofCell; rw [s_level h, s_loadsOn hW h, s_jibs hW ht h, s_towerOn ht h, s_isShut hW h]
theorem s_ofCrane (hW : WS K S) (hM : WM S) (ht : TO K S) (h : AG K S T) (k : Nat) (x : Int32) (hk : k < sZ S (K 13)) : m_ofCrane K T k x = m_ofCrane K S k x := by
  have he := ht k hk
  have ha := h.sm he
  have hka := LSt.el hW.l13 hk
  unfold m_ofCrane
  rw [h.el]
  generalize CSlewyardLaw_law_r4819_b4f950.el S (K 13) k = a at *
  have ld : ∀ y, sM S 14 a = some y → sI T 19 y = sI S 19 y := fun y hy => h.i 19 (ne_k (hM.1 a hka y hy) hW.k4 (by decide))
  rw [h.i 2 he, h.i 5 he, h.i 6 he, h.i 7 he, h.i 8 he, h.i 10 he, h.i 11 he, h.i 12 he, h.i 13 he, h.m 14 he, s_plumb hW h ha, s_capacity hW h ha, h.i 9 he, s_clashesOf ht h ha, h.i 15 he]
  cases hx : sM S 14 a with
  | none => rfl
  | some y => rw [show (some y).getD 0 = y from rfl, ld y hx]
theorem s_canLift (hW : WS K S) (h : AG K S T) (ha : a ≠ K 4) (x g : Int32) : m_canLift K T a x g = m_canLift K S a x g := by
  unfold m_canLift; simp only [s_rowOf hW h, s_columnOf hW h, s_capacity hW h (h.sm ha), h.i 3 ha, h.i 4 ha, h.i 6 ha]
theorem s_lifters_lp (hW : WS K S) (ht : TO K S) (h : AG K S T) (x g : Int32) : ∀ (r j : Nat) (n : Int32), j + r ≤ sZ S (K 13) → m_liftersFrom_lp K T x g r j n = m_liftersFrom_lp K S x g r j n
  | 0, j, n, _ => rfl
  | r + 1, j, n, hj => by
    simp only [m_liftersFrom_lp]
    rw [h.el, s_canLift hW h (ht j (by omega)), s_lifters_lp hW ht h x g r (j + 1) n (by omega), s_lifters_lp hW ht h x g r (j + 1) _ (by omega)]
theorem s_lifters (hW : WS K S) (ht : TO K S) (h : AG K S T) (x g : Int32) : m_liftersFrom K T x g = m_liftersFrom K S x g := by unfold m_liftersFrom; rw [h.z, s_lifters_lp hW ht h x g _ _ _ (by omega)]
/-- no load hangs on the trial crane -/
def TC (K : Nat → Nat) (S : PS) : Prop := ∀ j, j < sZ S (K 14) → sM S 22 (CSlewyardLaw_law_r4819_b4f950.el S (K 14) j) ≠ some (K 4)
theorem s_ofLoad (hW : WS K S) (ht : TO K S) (hc : TC K S) (h : AG K S T) (k : Nat) (x : Int32) (hk : k < sZ S (K 14)) : m_ofLoad K T k x = m_ofLoad K S k x := by
  have he := s_ldne hW hk
  have hcc := hc k hk
  unfold m_ofLoad m_place
  rw [h.el]
  generalize CSlewyardLaw_law_r4819_b4f950.el S (K 14) k = a at *
  rw [h.i 20 he, h.i 21 he, h.m 22 he]
  cases hx : sM S 22 a with
  | none => simp only [if_true]; rw [s_lifters hW ht h]
  | some y =>
    have hy : y ≠ K 4 := fun e => hcc (by rw [hx, e])
    rw [show (some y).getD 0 = y from rfl, s_plumb hW h (h.sm hy), h.i 1 hy, s_lifters hW ht h]
theorem s_areLoads_lp (hW : WS K S) (hc : TC K S) (h : AG K S T) : ∀ (r j : Nat), j + r ≤ sZ S (K 14) → m_areLoadsSound_lp K T r j = m_areLoadsSound_lp K S r j
  | 0, j, _ => rfl
  | r + 1, j, hj => by
    have he := s_ldne hW (j := j) (by omega)
    have hcc := hc j (by omega)
    simp only [m_areLoadsSound_lp]
    rw [s_areLoads_lp hW hc h r (j + 1) (by omega), h.el, h.m 22 he]
    cases hx : sM S 22 (CSlewyardLaw_law_r4819_b4f950.el S (K 14) j) with
    | none => rfl
    | some y =>
      have hy : y ≠ K 4 := fun e => hcc (by rw [hx, e])
      rw [show (some y).getD 0 = y from rfl, h.m 14 hy]
theorem s_within (hW : WS K S) (h : AG K S T) (ha : a ≠ K 4) : m_isWithinBounds K T a = m_isWithinBounds K S a := by
  unfold m_isWithinBounds; rw [h.i 10 ha, h.i 6 ha, h.i 11 ha, h.i 5 ha, h.i 12 ha, s_plumb hW h (h.sm ha)]
theorem s_areCranes_lp (hW : WS K S) (hM : WM S) (ht : TO K S) (h : AG K S T) : ∀ (r j : Nat), j + r ≤ sZ S (K 13) → m_areCranesSound_lp K T r j = m_areCranesSound_lp K S r j
  | 0, j, _ => rfl
  | r + 1, j, hj => by
    have he := ht j (by omega)
    have hka := LSt.el hW.l13 (j := j) (by omega)
    simp only [m_areCranesSound_lp]
    rw [s_areCranes_lp hW hM ht h r (j + 1) (by omega), h.el]
    generalize CSlewyardLaw_law_r4819_b4f950.el S (K 13) j = a at *
    rw [h.i 2 he, h.m 14 he, s_towerOn ht h, s_level h, s_within hW h he]
    cases hx : sM S 14 a with
    | none => rfl
    | some y => rw [show (some y).getD 0 = y from rfl, h.m 22 (ne_k (hM.1 a hka y hx) hW.k4 (by decide))]
theorem s_isSound (hW : WS K S) (hM : WM S) (ht : TO K S) (hc : TC K S) (h : AG K S T) : m_isSound K T = m_isSound K S := by
  unfold m_isSound m_areCranesSound m_areLoadsSound
  rw [h.z, h.z, s_areCranes_lp hW hM ht h _ _ (by omega), s_areLoads_lp hW hc h _ _ (by omega)]
theorem s_pairs_lp (ht : TO K S) (h : AG K S T) : ∀ (r j : Nat) (n : Int32), j + r ≤ sZ S (K 13) → m_clashingPairs_lp K T r j n = m_clashingPairs_lp K S r j n
  | 0, j, n, _ => rfl
  | r + 1, j, n, hj => by
    simp only [m_clashingPairs_lp]
    rw [h.el, s_clashesOf ht h (h.sm (ht j (by omega))), s_pairs_lp ht h r (j + 1) _ (by omega)]
    rfl
theorem s_pairs (ht : TO K S) (h : AG K S T) : m_clashingPairs K T = m_clashingPairs K S := by unfold m_clashingPairs; rw [h.z, s_pairs_lp ht h _ _ _ (by omega)]
theorem s_near_lp (ht : TO K S) (h : AG K S T) : ∀ (r j : Nat) (n : Int32), j + r ≤ sZ S (K 13) → m_nearMisses_lp K T r j n = m_nearMisses_lp K S r j n
  | 0, j, n, _ => rfl
  | r + 1, j, n, hj => by
    simp only [m_nearMisses_lp]
    rw [h.el, h.i 15 (ht j (by omega)), s_near_lp ht h r (j + 1) _ (by omega)]
theorem s_near (ht : TO K S) (h : AG K S T) : m_nearMisses K T = m_nearMisses K S := by unfold m_nearMisses; rw [h.z, s_near_lp ht h _ _ _ (by omega)]
theorem s_hang_lp (hW : WS K S) (h : AG K S T) : ∀ (r j : Nat) (n : Int32), j + r ≤ sZ S (K 14) → m_hangingLoads_lp K T r j n = m_hangingLoads_lp K S r j n
  | 0, j, n, _ => rfl
  | r + 1, j, n, hj => by
    simp only [m_hangingLoads_lp]
    rw [h.el, h.m 22 (s_ldne hW (j := j) (by omega)), s_hang_lp hW h r (j + 1) n (by omega), s_hang_lp hW h r (j + 1) (n + 1) (by omega)]
theorem s_hang (hW : WS K S) (h : AG K S T) : m_hangingLoads K T = m_hangingLoads K S := by unfold m_hangingLoads; rw [h.z, s_hang_lp hW h _ _ _ (by omega)]
theorem s_takers_lp (hW : WS K S) (ht : TO K S) (h : AG K S T) (ha : a ≠ K 4) : ∀ (r j : Nat) (n : Int32), j + r ≤ sZ S (K 13) → m_takersOf_lp K T a r j n = m_takersOf_lp K S a r j n
  | 0, j, n, _ => rfl
  | r + 1, j, n, hj => by
    have he := ht j (by omega)
    have ew : m_weight K T a = m_weight K S a := by unfold m_weight; rw [h.i 5 ha, h.i 6 ha]
    simp only [m_takersOf_lp]
    rw [h.el, h.i 5 he, h.i 5 ha, h.i 2 ha, ew, s_canLift hW h he, s_takers_lp hW ht h ha r (j + 1) n (by omega), s_takers_lp hW ht h ha r (j + 1) _ (by omega)]
theorem s_takers (hW : WS K S) (ht : TO K S) (h : AG K S T) (ha : a ≠ K 4) : m_takersOf K T a = m_takersOf K S a := by
  unfold m_takersOf; rw [h.i 5 ha, h.i 1 ha, h.z, s_takers_lp hW ht h ha _ _ _ (by omega), s_takers_lp hW ht h ha _ _ _ (by omega)]
end SAME
