/-! sets of cranes as bits -/
def ob (b : Bool) (j : Nat) (n : Int32) : Int32 := if b = true then n ||| (1 <<< ((nI j) &&& 31)) else n
def orlp (p : Nat → Bool) : Nat → Nat → Int32 → Int32
  | 0, _, n => n
  | r + 1, j, n => orlp p r (j + 1) (ob (p j) j n)
def or4 (b0 b1 b2 b3 : Bool) : Int32 := ob b3 3 (ob b2 2 (ob b1 1 (ob b0 0 0)))
theorem orlp4 (p : Nat → Bool) (r : Nat) (hr : r ≤ 4) : orlp p r 0 0 = or4 (decide (0 < r) && p 0) (decide (1 < r) && p 1) (decide (2 < r) && p 2) (decide (3 < r) && p 3) := by
  have : r = 0 ∨ r = 1 ∨ r = 2 ∨ r = 3 ∨ r = 4 := by omega
  rcases this with rfl | rfl | rfl | rfl | rfl <;> simp [orlp, or4, ob]
theorem or4_bit : ∀ b0 b1 b2 b3 : Bool, (((or4 b0 b1 b2 b3 >>> ((nI 0) &&& 31)) &&& 1) = if b0 then 1 else 0) ∧ (((or4 b0 b1 b2 b3 >>> ((nI 1) &&& 31)) &&& 1) = if b1 then 1 else 0) ∧ (((or4 b0 b1 b2 b3 >>> ((nI 2) &&& 31)) &&& 1) = if b2 then 1 else 0) ∧ (((or4 b0 b1 b2 b3 >>> ((nI 3) &&& 31)) &&& 1) = if b3 then 1 else 0) := by decide +kernel
theorem orlp_bit (p : Nat → Bool) {r i : Nat} (hr : r ≤ 4) (hi : i < r) : ((orlp p r 0 0 >>> ((nI i) &&& 31)) &&& 1) = if p i then 1 else 0 := by
  rw [orlp4 p r hr]
  have h := or4_bit (decide (0 < r) && p 0) (decide (1 < r) && p 1) (decide (2 < r) && p 2) (decide (3 < r) && p 3)
  have hd : decide (i < r) = true := decide_eq_true hi
  have : i = 0 ∨ i = 1 ∨ i = 2 ∨ i = 3 := by omega
  rcases this with rfl | rfl | rfl | rfl
  · rw [h.1, hd, Bool.true_and]
  · rw [h.2.1, hd, Bool.true_and]
  · rw [h.2.2.1, hd, Bool.true_and]
  · rw [h.2.2.2, hd, Bool.true_and]
theorem or4_sub : ∀ b0 b1 b2 b3 d0 d1 d2 d3 : Bool, (b0 → d0) → (b1 → d1) → (b2 → d2) → (b3 → d3) → or4 b0 b1 b2 b3 ||| or4 d0 d1 d2 d3 = or4 d0 d1 d2 d3 := by decide +kernel
theorem orlp_sub {p q : Nat → Bool} {r : Nat} (hr : r ≤ 4) (h : ∀ i, i < r → p i = true → q i = true) : orlp p r 0 0 ||| orlp q r 0 0 = orlp q r 0 0 := by
  rw [orlp4 p r hr, orlp4 q r hr]
  refine or4_sub _ _ _ _ _ _ _ _ ?_ ?_ ?_ ?_
  all_goals
    intro h1
    rw [Bool.and_eq_true] at h1 ⊢
    exact ⟨h1.1, h _ (of_decide_eq_true h1.1) h1.2⟩
theorem bc_or4 {K : Nat → Nat} {S : PS} : ∀ b0 b1 b2 b3 : Bool, m_bitCount K S (or4 b0 b1 b2 b3) = nI (b0.toNat + b1.toNat + b2.toNat + b3.toNat) := by
  unfold m_bitCount
  decide +kernel
/-- how many of the first r -/
def cn (p : Nat → Bool) : Nat → Nat
  | 0 => 0
  | r + 1 => cn p r + (p r).toNat
theorem bc_orlp {K : Nat → Nat} {S : PS} (p : Nat → Bool) {r : Nat} (hr : r ≤ 4) : m_bitCount K S (orlp p r 0 0) = nI (cn p r) := by
  rw [orlp4 p r hr, bc_or4]
  have : r = 0 ∨ r = 1 ∨ r = 2 ∨ r = 3 ∨ r = 4 := by omega
  rcases this with rfl | rfl | rfl | rfl | rfl <;> simp [cn]
theorem cn_le (p : Nat → Bool) : ∀ r, cn p r ≤ r
  | 0 => Nat.le_refl _
  | r + 1 => by
    have := cn_le p r
    have : (p r).toNat ≤ 1 := by cases p r <;> decide
    show cn p r + (p r).toNat ≤ r + 1
    omega
theorem or4_pos : ∀ b0 b1 b2 b3 : Bool, 0 ≤ or4 b0 b1 b2 b3 ∧ or4 b0 b1 b2 b3 < 16 := by decide +kernel
/-! whom a crane clashes with -/
def cb (K : Nat → Nat) (S : PS) (a : Nat) (j : Nat) : Bool := !(decide (nI j = sI S 1 a)) && !(decide (m_clashRule K S a (el S (K 13) j) 1 = 0))
theorem clashesOf_lp {K : Nat → Nat} {S : PS} {a : Nat} : ∀ (r j : Nat) (n : Int32), m_clashesOf_lp K S a r j n = orlp (cb K S a) r j n
  | 0, j, n => rfl
  | r + 1, j, n => by
    simp only [m_clashesOf_lp, orlp]
    by_cases c1 : nI j = sI S 1 a
    · rw [if_pos c1, clashesOf_lp r (j + 1) n]
      simp [ob, cb, c1]
    · rw [if_neg c1]
      by_cases c2 : m_clashRule K S a (el S (K 13) j) 1 = 0
      · rw [if_pos c2, clashesOf_lp r (j + 1) n]
        simp [ob, cb, c2]
      · rw [if_neg c2, clashesOf_lp r (j + 1) _]
        simp [ob, cb, c1, c2]
theorem clashesOf_or {K : Nat → Nat} {S : PS} {a : Nat} : m_clashesOf K S a = orlp (cb K S a) (sZ S (K 13)) 0 0 := clashesOf_lp _ _ _
/-! what stands in the way of a crane, one after another -/
theorem hind_lp {K : Nat → Nat} {S : PS} {a : Nat} {q t : Int32} : ∀ (r j : Nat), m_hindrance_lp K S a q t r j = 0 ↔ ∀ i, j ≤ i → i < j + r → nI i = sI S 1 a ∨ ¬ (((t >>> ((nI i) &&& 31)) &&& 1) = 0) ∨ m_clashRule K S a (el S (K 13) i) 1 = 0
  | 0, j => by
    simp only [m_hindrance_lp]
    exact ⟨fun _ i h1 h2 => by omega, fun _ => trivial⟩
  | r + 1, j => by
    simp only [m_hindrance_lp]
    have ih := hind_lp (K := K) (S := S) (a := a) (q := q) (t := t) r (j + 1)
    have step : (nI j = sI S 1 a ∨ ¬ (((t >>> ((nI j) &&& 31)) &&& 1) = 0) ∨ m_clashRule K S a (el S (K 13) j) 1 = 0) → (m_hindrance_lp K S a q t r (j + 1) = 0 ↔ ∀ i, j ≤ i → i < j + (r + 1) → nI i = sI S 1 a ∨ ¬ (((t >>> ((nI i) &&& 31)) &&& 1) = 0) ∨ m_clashRule K S a (el S (K 13) i) 1 = 0) := by
      intro hj
      rw [ih]
      constructor
      · intro h i h1 h2
        by_cases e : i = j
        · rw [e]; exact hj
        · exact h i (by omega) (by omega)
      · intro h i h1 h2
        exact h i (by omega) (by omega)
    by_cases c1 : nI j = sI S 1 a
    · rw [if_pos c1]; exact step (Or.inl c1)
    · rw [if_neg c1]
      by_cases c2 : ((t >>> ((nI j) &&& 31)) &&& 1) = 0
      · rw [if_pos c2]
        by_cases c3 : m_clashRule K S a (el S (K 13) j) 1 = 0
        · rw [if_pos c3]; exact step (Or.inr (Or.inr c3))
        · rw [if_neg c3]
          constructor
          · intro h; exact absurd h (by decide)
          · intro h
            rcases h j (Nat.le_refl _) (by omega) with h | h | h
            · exact absurd h c1
            · exact absurd c2 h
            · exact absurd h c3
      · rw [if_neg c2]; exact step (Or.inr (Or.inl c2))
theorem hind_lpv {K : Nat → Nat} {S : PS} {a : Nat} {q t : Int32} : ∀ (r j : Nat), m_hindrance_lp K S a q t r j = 0 ∨ m_hindrance_lp K S a q t r j = 7
  | 0, j => Or.inl rfl
  | r + 1, j => by
    simp only [m_hindrance_lp]
    have ih := hind_lpv (K := K) (S := S) (a := a) (q := q) (t := t) r (j + 1)
    split
    · exact ih
    · split
      · split
        · exact ih
        · exact Or.inr rfl
      · exact ih
/-- nothing stands in the way of a crane -/
def Free (K : Nat → Nat) (S : PS) (a : Nat) (q t : Int32) : Prop := m_isPossible K S a ≠ 0 ∧ (sM S 14 a ≠ none → q ≠ 0 → 2 ≤ sI S 11 a - m_levelOf K S (m_plumb K S a)) ∧ 1 ≤ sI S 11 a - m_levelOf K S (m_plumb K S a) ∧
  ∀ i, i < sZ S (K 13) → nI i = sI S 1 a ∨ ¬ (((t >>> ((nI i) &&& 31)) &&& 1) = 0) ∨ m_clashRule K S a (el S (K 13) i) 1 = 0
theorem free_of {K : Nat → Nat} {S : PS} {a : Nat} {q t : Int32} (h : m_hindrance K S a q t = 0) : Free K S a q t := by
  unfold m_hindrance at h
  have lp : m_hindrance_lp K S a q t (sZ S (K 13)) 0 = 0 → ∀ i, i < sZ S (K 13) → nI i = sI S 1 a ∨ ¬ (((t >>> ((nI i) &&& 31)) &&& 1) = 0) ∨ m_clashRule K S a (el S (K 13) i) 1 = 0 := fun h i hi => (hind_lp _ _).mp h i (Nat.zero_le _) (by omega)
  by_cases c1 : m_isPossible K S a = 0
  · rw [if_pos c1] at h; exact absurd h (by decide)
  rw [if_neg c1] at h
  by_cases c2 : sM S 14 a = none
  · rw [if_pos c2] at h
    by_cases c3 : 1 ≤ (sI S 11 a) - (m_levelOf K S (m_plumb K S a))
    · rw [if_pos c3] at h
      exact ⟨c1, fun h2 => absurd c2 h2, c3, lp h⟩
    · rw [if_neg c3] at h; exact absurd h (by decide)
  rw [if_neg c2] at h
  split at h
  · split at h
    · by_cases c4 : q = 0
      · rw [if_pos c4] at h
        by_cases c3 : 1 ≤ (sI S 11 a) - (m_levelOf K S (m_plumb K S a))
        · rw [if_pos c3] at h
          exact ⟨c1, fun _ h2 => absurd c4 h2, c3, lp h⟩
        · rw [if_neg c3] at h; exact absurd h (by decide)
      · rw [if_neg c4] at h
        by_cases c3 : 2 ≤ (sI S 11 a) - (m_levelOf K S (m_plumb K S a))
        · rw [if_pos c3] at h
          exact ⟨c1, fun _ _ => c3, Int32.le_trans (by decide) c3, lp h⟩
        · rw [if_neg c3] at h; exact absurd h (by decide)
    · exact absurd h (by decide)
  · exact absurd h (by decide)
