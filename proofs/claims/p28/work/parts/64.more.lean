/-! what grows -/
section MRE
variable {E : EV} {K : Nat → Nat} {S T u : PS} {N N2 wa : Nat}
theorem nS_at (h : IV E K S N) : ∀ k, k ≤ sZ S (K 13) → 0 ≤ (nS K S k).toInt ∧ (nS K S k).toInt ≤ 2400 * (k : Int)
  | 0, _ => ⟨show 0 ≤ (0 : Int32).toInt by decide, show (0 : Int32).toInt ≤ 2400 * ((0 : Nat) : Int) by decide⟩
  | k + 1, hk => by
    have a := nS_at h k (by omega)
    have b := (h.c (show k < sZ S (K 13) by omega)).2.2.2.2.2.2
    have t := h.ti
    have n4 := h.n4
    have e : (nS K S (k + 1)).toInt = (nS K S k).toInt + (sI S 15 (cr K S k)).toInt := by
      show (nS K S k + sI S 15 (cr K S k)).toInt = _
      exact ti_add (by have := t.1; have := t.2.1; omega) (by have := t.1; have := t.2.1; omega)
    rw [e]
    have := t.1
    have := t.2.1
    constructor
    · omega
    · push_cast
      omega
theorem nS_succ (h : IV E K S N) {k : Nat} (hk : k < sZ S (K 13)) : (nS K S (k + 1)).toInt = (nS K S k).toInt + (sI S 15 (cr K S k)).toInt := by
  have a := nS_at h k (by omega)
  have b := (h.c hk).2.2.2.2.2.2
  have t := h.ti
  have n4 := h.n4
  show (nS K S k + sI S 15 (cr K S k)).toInt = _
  exact ti_add (by have := t.1; have := t.2.1; omega) (by have := t.1; have := t.2.1; omega)
theorem nS_mo (h : IV E K S N) (hu : IV E K u N2) (m : MO K S u) : ∀ k, k ≤ sZ S (K 13) → (nS K S k).toInt ≤ (nS K u k).toInt
  | 0, _ => Int.le_refl _
  | k + 1, hk => by
    rw [nS_succ h (by omega), nS_succ hu (by have := m.1.1; omega)]
    have := nS_mo h hu m k (by omega)
    have := m.2.2.1 k (by omega)
    omega
theorem nS_up (hu : IV E K u N2) (a : Nat) : ∀ r, a + r ≤ sZ u (K 13) → (nS K u a).toInt ≤ (nS K u (a + r)).toInt
  | 0, _ => Int.le_refl _
  | r + 1, hr => by
    have := nS_up hu a r (by omega)
    have b := (hu.c (show a + r < sZ u (K 13) by omega)).2.2.2.2.2.2
    rw [show a + (r + 1) = (a + r) + 1 from rfl, nS_succ hu (by omega)]
    omega
theorem near_mo (h : IV E K S N) (hu : IV E K u N2) (m : MO K S u) : m_nearMisses K S ≤ m_nearMisses K u := by
  rw [w_near, w_near, Int32.le_iff_toInt_le]
  have a := nS_mo h hu m (sZ S (K 13)) (Nat.le_refl _)
  have b := nS_up hu (sZ S (K 13)) (sZ u (K 13) - sZ S (K 13)) (by have := m.1.1; omega)
  rw [show sZ S (K 13) + (sZ u (K 13) - sZ S (K 13)) = sZ u (K 13) by have := m.1.1; omega] at b
  omega
theorem WR.mo (w : WR K S wa) (h : IV E K S N) (hu : IV E K u N2) (m : MO K S u) (hr : sA u wa = sA S wa) : WR K u wa := by
  obtain ⟨⟨h1, h3, h4, h5⟩, h9, h10, h11, h14⟩ := w
  have n4 := hu.n4
  have n8 := hu.n8
  have n12 := hu.g.1.l12.2.1
  have z : ∀ {a b : Nat}, a ≤ b → b ≤ 14 → nI a ≤ nI b := fun {a b} h1 h2 => (nI_leI (by omega) (by omega)).mpr h1
  have i : ∀ {a b : Int32}, a.toInt ≤ b.toInt → a ≤ b := fun {a b} h => by rw [Int32.le_iff_toInt_le]; exact h
  unfold WR
  rw [hr]
  refine ⟨⟨Int32.le_trans h1 (i m.2.1.1), Int32.le_trans h3 (z m.1.1 (by omega)), Int32.le_trans h4 (z m.1.2.1 (by omega)), Int32.le_trans h5 (z m.1.2.2 (by omega))⟩, Int32.le_trans h9 (near_mo h hu m), Int32.le_trans h10 (i m.2.1.2.1), Int32.le_trans h11 (i m.2.1.2.2), ?_⟩
  rw [hu.ti.2.2.2]
  rw [h.ti.2.2.2] at h14
  exact h14
end MRE
