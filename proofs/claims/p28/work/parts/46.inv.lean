/-! what holds of a site at all times -/
def cr (K : Nat → Nat) (S : PS) (k : Nat) : Nat := el S (K 13) k
def ld (K : Nat → Nat) (S : PS) (k : Nat) : Nat := el S (K 14) k
def CI (K : Nat → Nat) (S : PS) (k a : Nat) : Prop :=
  (InK S a 0 ∧ a ≠ K 4 ∧ sI S 1 a = nI k) ∧
  (TW K S a ∧ 2 ≤ (sI S 6 a).toInt ∧ (sI S 6 a).toInt ≤ 9 ∧ (sI S 2 a).toInt = (sI S 3 a).toInt * (sI S 17 (K 2)).toInt + (sI S 4 a).toInt) ∧
  (0 ≤ (sI S 8 a).toInt ∧ (sI S 8 a).toInt ≤ 7 ∧ AY K S a ∧ (sI S 9 a).toInt ≤ (sI S 6 a).toInt ∧ 1 ≤ (sI S 10 a).toInt ∧ (sI S 10 a).toInt ≤ (sI S 9 a).toInt) ∧
  (3 ≤ (sI S 5 a).toInt ∧ (sI S 5 a).toInt ≤ 30 ∧ (sI S 11 a).toInt ≤ (sI S 5 a).toInt - 1 ∧ (m_levelOf K S (m_plumb K S a)).toInt < (sI S 11 a).toInt) ∧
  (0 ≤ (sI S 12 a).toInt ∧ (sI S 12 a).toInt ≤ 20) ∧ (0 ≤ (sI S 13 a).toInt ∧ (sI S 13 a).toInt ≤ 30) ∧ 0 ≤ (sI S 15 a).toInt ∧ (sI S 15 a).toInt ≤ 4 * (sI S 40 (K 1)).toInt
/-- loads: numbered, in the yard; what hangs and what carries name each other -/
def LI (K : Nat → Nat) (S : PS) : Prop :=
  (∀ j, j < sZ S (K 14) → sI S 19 (ld K S j) = nI j ∧ 0 ≤ (sI S 21 (ld K S j)).toInt ∧ (sI S 21 (ld K S j)).toInt < (m_cells K S).toInt) ∧
  (∀ j, j < sZ S (K 14) → ∀ c, sM S 22 (ld K S j) = some c → ∃ k, k < sZ S (K 13) ∧ c = cr K S k ∧ sM S 14 c = some (ld K S j)) ∧
  (∀ k, k < sZ S (K 13) → ∀ q, sM S 14 (cr K S k) = some q → ∃ j, j < sZ S (K 14) ∧ q = ld K S j ∧ sM S 22 q = some (cr K S k))
/-- time, steps, refusals -/
def TI (K : Nat → Nat) (S : PS) (N : Nat) : Prop := (0 ≤ (sI S 39 (K 1)).toInt ∧ (sI S 39 (K 1)).toInt ≤ 600) ∧ (0 ≤ (sI S 40 (K 1)).toInt ∧ (sI S 40 (K 1)).toInt ≤ (sI S 39 (K 1)).toInt) ∧ (0 ≤ (sI S 41 (K 1)).toInt ∧ (sI S 41 (K 1)).toInt ≤ N) ∧ sI S 50 (K 0) = 0
/-- winds blow from somewhere -/
def RB (K : Nat → Nat) (S : PS) : Prop := (0 ≤ (sI S 31 (K 5)).toInt ∧ (sI S 31 (K 5)).toInt ≤ 7) ∧ ∀ j, j < sZ S (K 11) → 0 ≤ (sI S 31 (el S (K 11) j)).toInt ∧ (sI S 31 (el S (K 11) j)).toInt ≤ 7
theorem RB.of {K : Nat → Nat} {S u : PS} (hW : WS K S) (h : RB K S) (hz : sZ u (K 11) = sZ S (K 11)) (he : ∀ j, j < sZ S (K 11) → el u (K 11) j = el S (K 11) j) (h31 : ∀ c, InK S c 4 → sI u 31 c = sI S 31 c) : RB K u := by
  refine ⟨by rw [h31 _ hW.k5]; exact h.1, fun j hj => ?_⟩
  rw [hz] at hj
  rw [he j hj, h31 _ (LSt.el hW.l11 hj)]
  exact h.2 j hj
def IV (E : EV) (K : Nat → Nat) (S : PS) (N : Nat) : Prop :=
  (GW K S ∧ LW E K S ∧ KD K ∧ YD K S) ∧ (∀ k, k < sZ S (K 13) → CI K S k (cr K S k)) ∧
  (∀ i j, i < sZ S (K 13) → j < sZ S (K 13) → sI S 2 (cr K S i) = sI S 2 (cr K S j) → i = j) ∧ (∀ k, k < sZ S (K 13) → m_levelOf K S (sI S 2 (cr K S k)) = 0) ∧
  LI K S ∧ (∀ i, i < 196 → 0 ≤ (sA S (K 6) i).toInt ∧ (sA S (K 6) i).toInt ≤ 20) ∧ TI K S N ∧ RB K S
section INV
variable {E : EV} {K : Nat → Nat} {S T : PS} {N k a : Nat}
theorem IV.g (h : IV E K S N) : GW K S := h.1.1
theorem IV.l (h : IV E K S N) : LW E K S := h.1.2.1
theorem IV.kd (h : IV E K S N) : KD K := h.1.2.2.1
theorem IV.y (h : IV E K S N) : YD K S := h.1.2.2.2
theorem IV.c (h : IV E K S N) {k : Nat} (hk : k < sZ S (K 13)) : CI K S k (cr K S k) := h.2.1 k hk
theorem IV.tw (h : IV E K S N) : ∀ i j, i < sZ S (K 13) → j < sZ S (K 13) → sI S 2 (cr K S i) = sI S 2 (cr K S j) → i = j := h.2.2.1
theorem IV.lv (h : IV E K S N) : ∀ k, k < sZ S (K 13) → m_levelOf K S (sI S 2 (cr K S k)) = 0 := h.2.2.2.1
theorem IV.li (h : IV E K S N) : LI K S := h.2.2.2.2.1
theorem IV.lvl (h : IV E K S N) : ∀ i, i < 196 → 0 ≤ (sA S (K 6) i).toInt ∧ (sA S (K 6) i).toInt ≤ 20 := h.2.2.2.2.2.1
theorem IV.ti (h : IV E K S N) : TI K S N := h.2.2.2.2.2.2.1
theorem IV.rb (h : IV E K S N) : RB K S := h.2.2.2.2.2.2.2
theorem IV.n4 (h : IV E K S N) : sZ S (K 13) ≤ 4 := h.g.1.l13.2.1
theorem IV.n8 (h : IV E K S N) : sZ S (K 14) ≤ 8 := h.g.1.l14.2.1
theorem IV.to (h : IV E K S N) : TO K S := fun _ hj => (h.c hj).1.2.1
theorem IV.tc (h : IV E K S N) : TC K S := fun j hj e => by
  obtain ⟨k, k1, k2, -⟩ := h.li.2.1 j hj _ e
  exact (h.c k1).1.2.1 k2.symm
theorem IV.inj (h : IV E K S N) {i j : Nat} (hi : i < sZ S (K 13)) (hj : j < sZ S (K 13)) (e : cr K S i = cr K S j) : i = j := by
  have a1 := (h.c hi).1.2.2
  have a2 := (h.c hj).1.2.2
  have n4 := h.n4
  rw [e, a2] at a1
  exact ((nI_eq (by omega) (by omega)).mp a1).symm
theorem IV.linj (h : IV E K S N) {i j : Nat} (hi : i < sZ S (K 14)) (hj : j < sZ S (K 14)) (e : ld K S i = ld K S j) : i = j := by
  have a1 := (h.li.1 i hi).1
  have a2 := (h.li.1 j hj).1
  have n8 := h.n8
  rw [e, a2] at a1
  exact ((nI_eq (by omega) (by omega)).mp a1).symm
theorem CI.ge (h : CI K S k a) : GE S a := ⟨⟨h.2.1.1.1.1, h.2.1.1.2.1.1⟩, ⟨h.2.1.1.1.2.2.1, h.2.1.1.2.1.2⟩, by have := h.2.2.1; omega, by have := h.2.2.1; have := h.2.1; omega⟩
theorem bea_of {b0 : Nat} (hb : sI S 8 a = nI b0) (h8 : b0 < 8) : dR S a = cR b0 ∧ dC S a = cC b0 := by
  have : bea S a = b0 := by unfold bea; rw [hb, (and7 b0 h8).2.2, nI_clamp (by omega)]
  unfold dR dC
  rw [this]
  exact ⟨rfl, rfl⟩
theorem nat_of {x : Int32} {m : Nat} (h0 : 0 ≤ x.toInt) (h1 : x.toInt ≤ m) : ∃ n : Nat, n ≤ m ∧ x = nI n ∧ x.toInt = n := by
  have hx := x.toInt_lt
  refine ⟨x.toInt.toNat, by omega, ?_, by omega⟩
  rw [← Int32.toInt_inj, nI_toInt (by omega)]
  omega
theorem CI.ca (hY : YD K S) (h : CI K S k a) : ∃ b0 r0 R t, CA K S a b0 r0 R t := by
  obtain ⟨⟨h1, h2, h3⟩, ⟨t1, t2, t3, t4⟩, ⟨b1, b2, b3, b4, b5, b6⟩, -⟩ := h
  obtain ⟨b0, b01, b02, b03⟩ := nat_of b1 (m := 7) b2
  obtain ⟨r0, r01, r02, r03⟩ := nat_of (x := sI S 10 a) (m := 9) (by omega) (by omega)
  obtain ⟨R, R1, R2, R3⟩ := nat_of (x := sI S 6 a) (m := 9) (by omega) (by omega)
  have cl := cell_lt hY.1 hY.2 ⟨t1.1.1, t1.1.2.1⟩ t1.1.2.2
  obtain ⟨t, ta, tb, tc⟩ := nat_of (x := sI S 2 a) (m := 195) (by omega) (by omega)
  have dd := bea_of b02 (by omega)
  refine ⟨b0, r0, R, t, ⟨h1, h2⟩, ⟨b02, by omega⟩, ⟨r02, by omega, by omega⟩, ⟨R3, R1⟩, t1, ?_, tb, by omega, by omega⟩
  have := b3 (sI S 10 a).toInt (by omega) (by omega)
  rw [r03, dd.1, dd.2] at this
  exact this
/-- the hook hangs over the yard -/
theorem CI.pl (hY : YD K S) (h : CI K S k a) : (m_plumb K S a).toInt = ((sI S 3 a).toInt + (sI S 10 a).toInt * dR S a) * (sI S 17 (K 2)).toInt + ((sI S 4 a).toInt + (sI S 10 a).toInt * dC S a) ∧ 0 ≤ (m_plumb K S a).toInt ∧ (m_plumb K S a).toInt < (m_cells K S).toInt ∧ (m_plumb K S a).toInt < 196 := by
  have hb := h.2.2.1
  have hr := h.2.1
  have y := hb.2.2.1 (sI S 10 a).toInt (by omega) (by omega)
  have e := plumb_in hY h.ge (by omega) y
  have cl := cell_lt hY.1 hY.2 ⟨y.1, y.2.1⟩ y.2.2
  rw [cells_int hY, e]
  exact ⟨rfl, cl.1, cl.2.1, cl.2.2⟩
theorem CI.tower (hY : YD K S) (h : CI K S k a) : 0 ≤ (sI S 2 a).toInt ∧ (sI S 2 a).toInt < (m_cells K S).toInt ∧ (sI S 2 a).toInt < 196 := by
  have t := h.2.1
  have cl := cell_lt hY.1 hY.2 ⟨t.1.1.1, t.1.1.2.1⟩ t.1.1.2.2
  rw [cells_int hY, t.2.2.2]
  exact cl
theorem level_in (h : IV E K S N) (x : Int32) : 0 ≤ (m_levelOf K S x).toInt ∧ (m_levelOf K S x).toInt ≤ 20 := by
  unfold m_levelOf
  by_cases c1 : x < 0
  · rw [if_pos c1]; decide
  rw [if_neg c1]
  by_cases c2 : nI (sN S (K 6)) ≤ x
  · rw [if_pos c2]; decide
  rw [if_neg c2]
  rw [h.g.1.n6] at c2
  exact h.lvl _ (clampB c1 c2 (by decide))
/-! nothing of it goes by asking -/
theorem LW.ss (h : LW E K S) (hs : SS S T) : LW E K T := by
  obtain ⟨a, b, c, d, e, f, g, i, j, k⟩ := T
  obtain ⟨h1, h2, h3, h4, h5, h6, h7⟩ := hs
  simp only [sL, sK, sR, sE, sZ, sN, sO] at h1 h2 h3 h4 h5 h6 h7
  subst h1 h2 h3 h4 h5 h6 h7
  exact h
theorem AG.dr (h : AG K S T) (ha : a ≠ K 4) : dR T a = dR S a ∧ dC T a = dC S a := by
  unfold dR dC bea
  rw [h.i 8 ha]
  exact ⟨rfl, rfl⟩
theorem CI.ag (hW : WS K S) (h : CI K S k a) (hs : SS S T) (g : AG K S T) : CI K T k a := by
  have ha := h.1.2.1
  have d := g.dr ha
  have y : ∀ {r q : Int}, inY K T r q ↔ inY K S r q := fun {r q} => by unfold inY; rw [g.i 17 hW.n2, g.i 18 hW.n2]
  have i := fun f => g.i f ha
  unfold CI TW AY
  simp only [y]
  rw [i 1, i 2, i 3, i 4, i 5, i 6, i 8, i 9, i 10, i 11, i 12, i 13, i 15, d.1, d.2, g.i 17 hW.n2, g.i 40 hW.n1, s_plumb hW g (g.sm ha), s_level g]
  exact ⟨⟨hs.kk.mpr h.1.1, h.1.2⟩, h.2⟩
theorem AG.cr (g : AG K S T) (k : Nat) : CSlewyardLaw_law_r4819_b4f950.cr K T k = CSlewyardLaw_law_r4819_b4f950.cr K S k := g.el _ _
theorem AG.ld (g : AG K S T) (k : Nat) : CSlewyardLaw_law_r4819_b4f950.ld K T k = CSlewyardLaw_law_r4819_b4f950.ld K S k := g.el _ _
theorem ldne (hW : WS K S) {j : Nat} (hj : j < sZ S (K 14)) : CSlewyardLaw_law_r4819_b4f950.ld K S j ≠ K 4 := s_ldne hW hj
theorem IV.qs (h : IV E K S N) (hT : GW K T) (q : QS K S T) : IV E K T N := by
  have g := q.ag h.kd
  have hW := h.g.1
  have hy : YD K T := by unfold YD; rw [g.i 17 hW.n2, g.i 18 hW.n2]; exact h.y
  refine ⟨⟨hT, h.l.ss q.1, h.kd, hy⟩, fun k hk => ?_, fun i j hi hj e => ?_, fun k hk => ?_, ⟨fun j hj => ?_, fun j hj c hc => ?_, fun k hk x hx => ?_⟩, fun i hi => ?_, ?_, h.rb.of hW (g.z _) (fun j _ => g.el _ _) (fun c hc => g.i 31 (ne_k hc hW.k4 (by decide)))⟩
  · rw [g.z] at hk
    rw [g.cr]
    exact (h.c hk).ag hW q.1 g
  · rw [g.z] at hi hj
    rw [g.cr, g.cr, g.i 2 (h.c hi).1.2.1, g.i 2 (h.c hj).1.2.1] at e
    exact h.tw i j hi hj e
  · rw [g.z] at hk
    rw [g.cr, g.i 2 (h.c hk).1.2.1, s_level g]
    exact h.lv k hk
  · rw [g.z] at hj
    rw [g.ld, g.i 19 (ldne hW hj), g.i 21 (ldne hW hj), s_cells hW g]
    exact h.li.1 j hj
  · rw [g.z] at hj
    rw [g.ld, g.m 22 (ldne hW hj)] at hc
    obtain ⟨k, k1, k2, k3⟩ := h.li.2.1 j hj c hc
    refine ⟨k, by rw [g.z]; exact k1, by rw [g.cr]; exact k2, ?_⟩
    rw [g.ld, g.m 14 (by rw [k2]; exact (h.c k1).1.2.1)]
    exact k3
  · rw [g.z] at hk
    rw [g.cr, g.m 14 (h.c hk).1.2.1] at hx
    obtain ⟨j, j1, j2, j3⟩ := h.li.2.2 k hk x hx
    refine ⟨j, by rw [g.z]; exact j1, by rw [g.ld]; exact j2, ?_⟩
    rw [g.cr, g.m 22 (by rw [j2]; exact ldne hW j1)]
    exact j3
  · rw [g.2.2.2]; exact h.lvl i hi
  · have t := h.ti
    unfold TI at t ⊢
    rw [g.i 39 hW.n1, g.i 40 hW.n1, g.i 41 hW.n1, g.i 50 hW.n0]
    exact t
theorem IV.obs (h : IV E K S N) : OBS K S := obs_of h.kd h.g h.to h.tc
theorem IV.mono (h : IV E K S N) {N2 : Nat} (hn : N ≤ N2) : IV E K S N2 := by
  obtain ⟨a, b, c, d, e, f, t, r⟩ := h
  exact ⟨a, b, c, d, e, f, ⟨t.1, t.2.1, ⟨t.2.2.1.1, by have := t.2.2.1.2; omega⟩, t.2.2.2⟩, r⟩
end INV
