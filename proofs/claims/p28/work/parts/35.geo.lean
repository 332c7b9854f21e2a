/-! numbers as integers; a jib's distance; clashes are mutual -/
theorem ti_add {x y : Int32} (h1 : -2147483648 ≤ x.toInt + y.toInt) (h2 : x.toInt + y.toInt ≤ 2147483647) : (x + y).toInt = x.toInt + y.toInt := by
  rw [Int32.toInt_add]
  exact Int.bmod_eq_of_le (by omega) (by omega)
theorem ti_sub {x y : Int32} (h1 : -2147483648 ≤ x.toInt - y.toInt) (h2 : x.toInt - y.toInt ≤ 2147483647) : (x - y).toInt = x.toInt - y.toInt := by
  rw [Int32.toInt_sub]
  exact Int.bmod_eq_of_le (by omega) (by omega)
theorem ti_mul {x y : Int32} (h1 : -2147483648 ≤ x.toInt * y.toInt) (h2 : x.toInt * y.toInt ≤ 2147483647) : (x * y).toInt = x.toInt * y.toInt := by
  rw [Int32.toInt_mul]
  exact Int.bmod_eq_of_le (by omega) (by omega)
theorem ti_max (x y : Int32) : (imax x y).toInt = max x.toInt y.toInt := by
  unfold imax
  split
  · rename_i h; rw [Int32.lt_iff_toInt_lt] at h; omega
  · rename_i h; rw [Int32.lt_iff_toInt_lt] at h; omega
theorem ti_min (x y : Int32) : (imin x y).toInt = min x.toInt y.toInt := by
  unfold imin
  split
  · rename_i h; rw [Int32.lt_iff_toInt_lt] at h; omega
  · rename_i h; rw [Int32.lt_iff_toInt_lt] at h; omega
theorem ti_0 : (0 : Int32).toInt = 0 := by decide
theorem ti_abs {x : Int32} (h : -2147483648 < x.toInt) : (iabs x).toInt = max x.toInt (-x.toInt) := by
  have hx := x.toInt_lt
  unfold iabs
  split
  · rename_i h; rw [Int32.le_iff_toInt_le, ti_0] at h; omega
  · rename_i h2
    rw [Int32.le_iff_toInt_le, ti_0] at h2
    rw [ti_sub (by rw [ti_0]; omega) (by rw [ti_0]; omega), ti_0]
    omega
theorem ti_half (x : Int32) : (x >>> (1 &&& 31)).toInt = x.toInt / 2 := by
  rw [show ((1 : Int32) &&& 31) = 1 from by decide, pk_shr x 1 1 (by decide), Int.shiftRight_eq_div_pow]
  rfl
/-- the eight directions -/
def dirs (r c : Int) : Prop := (r = -1 ∧ c = 0) ∨ (r = -1 ∧ c = 1) ∨ (r = 0 ∧ c = 1) ∨ (r = 1 ∧ c = 1) ∨ (r = 1 ∧ c = 0) ∨ (r = 1 ∧ c = -1) ∨ (r = 0 ∧ c = -1) ∨ (r = -1 ∧ c = -1)
def bea (S : PS) (a : Nat) : Nat := ((sI S 8 a) &&& 7).toNatClampNeg
def dR (S : PS) (a : Nat) : Int := (rwV (bea S a)).toInt
def dC (S : PS) (a : Nat) : Int := (clV (bea S a)).toInt
theorem bea_lt (S : PS) (a : Nat) : bea S a < 8 := by
  have h := and7_in (sI S 8 a)
  rw [vp_in_iff] at h
  unfold bea
  have : (((sI S 8 a) &&& 7).toNatClampNeg : Int) = max ((sI S 8 a) &&& 7).toInt 0 := Int32.toNatClampNeg.eq_1 _ ▸ Int.toNat_eq_max _
  omega
theorem dirs_of : ∀ n, n < 8 → dirs (rwV n).toInt (clV n).toInt := by
  intro n hn
  have : n = 0 ∨ n = 1 ∨ n = 2 ∨ n = 3 ∨ n = 4 ∨ n = 5 ∨ n = 6 ∨ n = 7 := by omega
  rcases this with rfl | rfl | rfl | rfl | rfl | rfl | rfl | rfl <;> (unfold dirs; decide)
theorem dirs_at (S : PS) (a : Nat) : dirs (dR S a) (dC S a) := dirs_of _ (bea_lt S a)
theorem dR_le (S : PS) (a : Nat) : -1 ≤ dR S a ∧ dR S a ≤ 1 := by have := dirs_at S a; unfold dirs at this; omega
theorem dC_le (S : PS) (a : Nat) : -1 ≤ dC S a ∧ dC S a ≤ 1 := by have := dirs_at S a; unfold dirs at this; omega
theorem mul_dir {x d : Int} (N : Int) (h1 : -N ≤ x) (h2 : x ≤ N) (hd : -1 ≤ d ∧ d ≤ 1) : -N ≤ x * d ∧ x * d ≤ N := by
  have : d = -1 ∨ d = 0 ∨ d = 1 := by omega
  rcases this with rfl | rfl | rfl <;> omega
def gFoot (dr dc A x y : Int) : Int := max 0 (min (if dr = 0 ∨ dc = 0 then x * dr + y * dc else (x * dr + y * dc) / 2) A)
def gAp (dr dc A x y : Int) : Int := max (max (x - gFoot dr dc A x y * dr) (-(x - gFoot dr dc A x y * dr))) (max (y - gFoot dr dc A x y * dc) (-(y - gFoot dr dc A x y * dc)))
theorem gAp_le {dr dc A x y t : Int} (hd : dirs dr dc) (hA : 0 ≤ A) : gAp dr dc A x y ≤ t ↔ ∃ i : Int, 0 ≤ i ∧ i ≤ A ∧ x - i * dr ≤ t ∧ i * dr - x ≤ t ∧ y - i * dc ≤ t ∧ i * dc - y ≤ t := by
  constructor
  · intro h
    refine ⟨gFoot dr dc A x y, ?_⟩
    unfold gAp at h
    have h0 : 0 ≤ gFoot dr dc A x y := by unfold gFoot; omega
    have h1 : gFoot dr dc A x y ≤ A := by unfold gFoot; omega
    omega
  · rintro ⟨i, h0, h1, h2, h3, h4, h5⟩
    unfold gAp gFoot
    unfold dirs at hd
    rcases hd with ⟨rfl, rfl⟩ | ⟨rfl, rfl⟩ | ⟨rfl, rfl⟩ | ⟨rfl, rfl⟩ | ⟨rfl, rfl⟩ | ⟨rfl, rfl⟩ | ⟨rfl, rfl⟩ | ⟨rfl, rfl⟩
    · rw [if_pos (by decide)]; omega
    · rw [if_neg (by decide)]; omega
    · rw [if_pos (by decide)]; omega
    · rw [if_neg (by decide)]; omega
    · rw [if_pos (by decide)]; omega
    · rw [if_neg (by decide)]; omega
    · rw [if_pos (by decide)]; omega
    · rw [if_neg (by decide)]; omega
/-- a crane stands in the yard -/
def GE (S : PS) (a : Nat) : Prop := (0 ≤ (sI S 3 a).toInt ∧ (sI S 3 a).toInt ≤ 20) ∧ (0 ≤ (sI S 4 a).toInt ∧ (sI S 4 a).toInt ≤ 20) ∧ 0 ≤ (sI S 9 a).toInt ∧ (sI S 9 a).toInt ≤ 20
theorem ap_int {K : Nat → Nat} {S : PS} {a : Nat} {r q : Int32} (hg : GE S a) (hr : -100 ≤ r.toInt ∧ r.toInt ≤ 100) (hq : -100 ≤ q.toInt ∧ q.toInt ≤ 100) :
    (m_apartFromJib K S a r q).toInt = gAp (dR S a) (dC S a) (sI S 9 a).toInt (r.toInt - (sI S 3 a).toInt) (q.toInt - (sI S 4 a).toInt) := by
  obtain ⟨g1, g2, g3⟩ := hg
  have e1 : (r - sI S 3 a).toInt = r.toInt - (sI S 3 a).toInt := ti_sub (by omega) (by omega)
  have e2 : (q - sI S 4 a).toInt = q.toInt - (sI S 4 a).toInt := ti_sub (by omega) (by omega)
  have d1 := dR_le S a
  have d2 := dC_le S a
  have hR : (rwV ((sI S 8 a) &&& 7).toNatClampNeg).toInt = dR S a := rfl
  have hC : (clV ((sI S 8 a) &&& 7).toNatClampNeg).toInt = dC S a := rfl
  generalize hx : r.toInt - (sI S 3 a).toInt = x at e1 ⊢
  generalize hy : q.toInt - (sI S 4 a).toInt = y at e2 ⊢
  have bx : -120 ≤ x ∧ x ≤ 120 := by omega
  have by' : -120 ≤ y ∧ y ≤ 120 := by omega
  generalize rwV ((sI S 8 a) &&& 7).toNatClampNeg = R at hR
  have m1 := mul_dir 120 bx.1 bx.2 d1
  have m2 := mul_dir 120 by'.1 by'.2 d2
  unfold m_apartFromJib
  generalize hRR : rwV ((sI S 8 a) &&& 7).toNatClampNeg = R2
  generalize hCC : clV ((sI S 8 a) &&& 7).toNatClampNeg = C2
  have hR2 : R2.toInt = dR S a := by rw [← hRR]; rfl
  have hC2 : C2.toInt = dC S a := by rw [← hCC]; rfl
  have p1 : ((r - sI S 3 a) * R2).toInt = x * dR S a := by rw [ti_mul (by rw [e1, hR2]; omega) (by rw [e1, hR2]; omega), e1, hR2]
  have p2 : ((q - sI S 4 a) * C2).toInt = y * dC S a := by rw [ti_mul (by rw [e2, hC2]; omega) (by rw [e2, hC2]; omega), e2, hC2]
  have p3 : ((r - sI S 3 a) * R2 + (q - sI S 4 a) * C2).toInt = x * dR S a + y * dC S a := by rw [ti_add (by rw [p1, p2]; omega) (by rw [p1, p2]; omega), p1, p2]
  have fin : ∀ z : Int32, (hz : -400 ≤ z.toInt ∧ z.toInt ≤ 400) → (imax (iabs ((r - (sI S 3 a)) - ((imax 0 (imin z (sI S 9 a))) * R2))) (iabs ((q - (sI S 4 a)) - ((imax 0 (imin z (sI S 9 a))) * C2)))).toInt = max (max (x - max 0 (min z.toInt (sI S 9 a).toInt) * dR S a) (-(x - max 0 (min z.toInt (sI S 9 a).toInt) * dR S a))) (max (y - max 0 (min z.toInt (sI S 9 a).toInt) * dC S a) (-(y - max 0 (min z.toInt (sI S 9 a).toInt) * dC S a))) := by
    intro z hz
    have f1 : (imax 0 (imin z (sI S 9 a))).toInt = max 0 (min z.toInt (sI S 9 a).toInt) := by rw [ti_max, ti_min, ti_0]
    generalize hF : max 0 (min z.toInt (sI S 9 a).toInt) = F at f1 ⊢
    have bF : 0 ≤ F ∧ F ≤ 20 := by omega
    have n1 := mul_dir 20 (by omega) bF.2 d1
    have n2 := mul_dir 20 (by omega) bF.2 d2
    have q1 : ((imax 0 (imin z (sI S 9 a))) * R2).toInt = F * dR S a := by rw [ti_mul (by rw [f1, hR2]; omega) (by rw [f1, hR2]; omega), f1, hR2]
    have q2 : ((imax 0 (imin z (sI S 9 a))) * C2).toInt = F * dC S a := by rw [ti_mul (by rw [f1, hC2]; omega) (by rw [f1, hC2]; omega), f1, hC2]
    have q3 : ((r - (sI S 3 a)) - ((imax 0 (imin z (sI S 9 a))) * R2)).toInt = x - F * dR S a := by rw [ti_sub (by rw [e1, q1]; omega) (by rw [e1, q1]; omega), e1, q1]
    have q4 : ((q - (sI S 4 a)) - ((imax 0 (imin z (sI S 9 a))) * C2)).toInt = y - F * dC S a := by rw [ti_sub (by rw [e2, q2]; omega) (by rw [e2, q2]; omega), e2, q2]
    rw [ti_max, ti_abs (by rw [q3]; omega), ti_abs (by rw [q4]; omega), q3, q4]
  have z1 : (R2 = 0) ↔ dR S a = 0 := by rw [← Int32.toInt_inj, hR2, ti_0]
  have z2 : (C2 = 0) ↔ dC S a = 0 := by rw [← Int32.toInt_inj, hC2, ti_0]
  unfold gAp gFoot
  by_cases c1 : R2 = 0
  · rw [if_pos c1, fin _ (by rw [p3]; omega), p3, if_pos (Or.inl (z1.mp c1))]
  · rw [if_neg c1]
    by_cases c2 : C2 = 0
    · rw [if_pos c2, fin _ (by rw [p3]; omega), p3, if_pos (Or.inr (z2.mp c2))]
    · rw [if_neg c2, fin _ (by rw [ti_half, p3]; omega), ti_half, p3, if_neg (by rw [← z1, ← z2]; exact fun h => h.elim c1 c2)]
theorem rowAt_int {K : Nat → Nat} {S : PS} {a : Nat} {d : Int32} (hg : GE S a) (hd : -50 ≤ d.toInt ∧ d.toInt ≤ 50) : (m_rowAt K S a d).toInt = (sI S 3 a).toInt + d.toInt * dR S a := by
  obtain ⟨g1, g2, g3⟩ := hg
  have m1 := mul_dir 50 (by omega) hd.2 (dR_le S a)
  have e : (d * (rwV ((sI S 8 a) &&& 7).toNatClampNeg)).toInt = d.toInt * dR S a := ti_mul (show -2147483648 ≤ d.toInt * dR S a by omega) (show d.toInt * dR S a ≤ 2147483647 by omega)
  unfold m_rowAt
  rw [ti_add (by rw [e]; omega) (by rw [e]; omega), e]
theorem colAt_int {K : Nat → Nat} {S : PS} {a : Nat} {d : Int32} (hg : GE S a) (hd : -50 ≤ d.toInt ∧ d.toInt ≤ 50) : (m_columnAt K S a d).toInt = (sI S 4 a).toInt + d.toInt * dC S a := by
  obtain ⟨g1, g2, g3⟩ := hg
  have m1 := mul_dir 50 (by omega) hd.2 (dC_le S a)
  have e : (d * (clV ((sI S 8 a) &&& 7).toNatClampNeg)).toInt = d.toInt * dC S a := ti_mul (show -2147483648 ≤ d.toInt * dC S a by omega) (show d.toInt * dC S a ≤ 2147483647 by omega)
  unfold m_columnAt
  rw [ti_add (by rw [e]; omega) (by rw [e]; omega), e]
theorem apOf_lp {K : Nat → Nat} {S : PS} {a b : Nat} {t : Int} : ∀ (r j : Nat) (n : Int32), (m_apartFromJibOf_lp K S a b r j n).toInt ≤ t ↔ n.toInt ≤ t ∨ ∃ i, j ≤ i ∧ i < j + r ∧ (m_apartFromJib K S b (m_rowAt K S a (nI i)) (m_columnAt K S a (nI i))).toInt ≤ t
  | 0, j, n => by
    simp only [m_apartFromJibOf_lp]
    constructor
    · exact Or.inl
    · rintro (h | ⟨i, h1, h2, -⟩)
      · exact h
      · omega
  | r + 1, j, n => by
    simp only [m_apartFromJibOf_lp]
    rw [apOf_lp r (j + 1), ti_min]
    constructor
    · rintro (h | ⟨i, h1, h2, h3⟩)
      · rcases Int.le_total n.toInt (m_apartFromJib K S b (m_rowAt K S a (nI j)) (m_columnAt K S a (nI j))).toInt with q | q
        · exact Or.inl (by omega)
        · exact Or.inr ⟨j, Nat.le_refl _, by omega, by omega⟩
      · exact Or.inr ⟨i, by omega, by omega, h3⟩
    · rintro (h | ⟨i, h1, h2, h3⟩)
      · exact Or.inl (by omega)
      · by_cases e : i = j
        · subst e
          exact Or.inl (by omega)
        · exact Or.inr ⟨i, by omega, by omega, h3⟩
/-- two jibs come so near -/
def nigh (S : PS) (a b : Nat) (t : Int) : Prop := ∃ i j : Int, (0 ≤ i ∧ i ≤ (sI S 9 a).toInt) ∧ (0 ≤ j ∧ j ≤ (sI S 9 b).toInt) ∧
  ((sI S 3 a).toInt + i * dR S a) - ((sI S 3 b).toInt + j * dR S b) ≤ t ∧ ((sI S 3 b).toInt + j * dR S b) - ((sI S 3 a).toInt + i * dR S a) ≤ t ∧
  ((sI S 4 a).toInt + i * dC S a) - ((sI S 4 b).toInt + j * dC S b) ≤ t ∧ ((sI S 4 b).toInt + j * dC S b) - ((sI S 4 a).toInt + i * dC S a) ≤ t
theorem nigh_sym {S : PS} {a b : Nat} {t : Int} (h : nigh S a b t) : nigh S b a t := by
  obtain ⟨i, j, h1, h2, h3, h4, h5, h6⟩ := h
  exact ⟨j, i, h2, h1, h4, h3, h6, h5⟩
theorem apOf_le {K : Nat → Nat} {S : PS} {a b : Nat} {t : Int} (ha : GE S a) (hb : GE S b) (ht : t < 196) : (m_apartFromJibOf K S a b).toInt ≤ t ↔ nigh S a b t := by
  unfold m_apartFromJibOf
  rw [apOf_lp]
  have hA := ha.2.2
  have h196 : (196 : Int32).toInt = 196 := by decide
  have hcl : ((sI S 9 a).toNatClampNeg : Int) = (sI S 9 a).toInt := by
    have : ((sI S 9 a).toNatClampNeg : Int) = max (sI S 9 a).toInt 0 := Int32.toNatClampNeg.eq_1 _ ▸ Int.toNat_eq_max _
    omega
  have key : ∀ i : Nat, i < (sI S 9 a).toNatClampNeg + 1 → ((m_apartFromJib K S b (m_rowAt K S a (nI i)) (m_columnAt K S a (nI i))).toInt ≤ t ↔ ∃ j : Int, 0 ≤ j ∧ j ≤ (sI S 9 b).toInt ∧
      ((sI S 3 a).toInt + i * dR S a) - ((sI S 3 b).toInt + j * dR S b) ≤ t ∧ ((sI S 3 b).toInt + j * dR S b) - ((sI S 3 a).toInt + i * dR S a) ≤ t ∧ ((sI S 4 a).toInt + i * dC S a) - ((sI S 4 b).toInt + j * dC S b) ≤ t ∧ ((sI S 4 b).toInt + j * dC S b) - ((sI S 4 a).toInt + i * dC S a) ≤ t) := by
    intro i hi
    have hn : (nI i).toInt = i := nI_toInt (by omega)
    have r1 := rowAt_int (K := K) (d := nI i) ha (by rw [hn]; omega)
    have r2 := colAt_int (K := K) (d := nI i) ha (by rw [hn]; omega)
    rw [hn] at r1 r2
    have m1 := mul_dir (x := (i : Int)) 20 (by omega) (by omega) (dR_le S a)
    have m2 := mul_dir (x := (i : Int)) 20 (by omega) (by omega) (dC_le S a)
    obtain ⟨g1, g2, g3⟩ := ha
    rw [ap_int hb (by rw [r1]; omega) (by rw [r2]; omega), gAp_le (dirs_at S b) hb.2.2.1, r1, r2]
    constructor
    · rintro ⟨j, q0, q1, q2, q3, q4, q5⟩
      exact ⟨j, q0, q1, by omega, by omega, by omega, by omega⟩
    · rintro ⟨j, q0, q1, q2, q3, q4, q5⟩
      exact ⟨j, q0, q1, by omega, by omega, by omega, by omega⟩
  constructor
  · rintro (h | ⟨i, h1, h2, h3⟩)
    · omega
    · obtain ⟨j, q0, q1, q2⟩ := (key i (by omega)).mp h3
      exact ⟨i, j, ⟨by omega, by omega⟩, ⟨q0, q1⟩, q2⟩
  · rintro ⟨i, j, ⟨i0, i1⟩, ⟨j0, j1⟩, q⟩
    refine Or.inr ⟨i.toNat, Nat.zero_le _, by omega, (key i.toNat (by omega)).mpr ⟨j, j0, j1, ?_⟩⟩
    rw [show ((i.toNat : Nat) : Int) = i by omega]
    exact q
theorem apOf_sym {K : Nat → Nat} {S : PS} {a b : Nat} {t : Int32} (ha : GE S a) (hb : GE S b) (ht : t.toInt < 196) : (t < m_apartFromJibOf K S a b) ↔ (t < m_apartFromJibOf K S b a) := by
  rw [Int32.lt_iff_toInt_lt, Int32.lt_iff_toInt_lt]
  have h1 := apOf_le (K := K) ha hb ht
  have h2 := apOf_le (K := K) hb ha ht
  constructor
  · intro h
    exact Int.not_le.mp fun q => absurd (h1.mpr (nigh_sym (h2.mp q))) (Int.not_le.mpr h)
  · intro h
    exact Int.not_le.mp fun q => absurd (h2.mpr (nigh_sym (h1.mp q))) (Int.not_le.mpr h)
theorem clash_sym {K : Nat → Nat} {S : PS} {a b : Nat} {t : Int32} (ha : GE S a) (hb : GE S b) (hab : a ≠ b) (ht : t.toInt < 196) : m_clashRule K S a b t = m_clashRule K S b a t := by
  have sw : ∀ x y : Int32, (if x = 0 then (if y = 0 then (0 : Int32) else 3) else 3) = (if y = 0 then (if x = 0 then (0 : Int32) else 3) else 3) := by
    intro x y
    by_cases h1 : x = 0 <;> by_cases h2 : y = 0 <;> simp [h1, h2]
  unfold m_clashRule
  by_cases c1 : sI S 5 b < sI S 5 a
  · have c2 : ¬ sI S 5 a < sI S 5 b := by
      rw [Int32.lt_iff_toInt_lt] at c1 ⊢; omega
    rw [if_pos c1, if_neg (fun e => hab e.symm), if_neg c2, sw]
  · rw [if_neg c1]
    by_cases c2 : sI S 5 a < sI S 5 b
    · rw [if_pos c2, if_neg hab, sw]
    · rw [if_neg c2]
      have e : sI S 5 a = sI S 5 b := by
        rw [← Int32.toInt_inj]
        rw [Int32.lt_iff_toInt_lt] at c1 c2
        omega
      have s1 : ¬ (3 ≤ sI S 5 b - sI S 5 a) := by rw [e, Int32.sub_self]; decide
      have s2 : ¬ (3 ≤ sI S 5 a - sI S 5 b) := by rw [e, Int32.sub_self]; decide
      rw [if_neg s1, if_neg s2, sw]
      by_cases c3 : t < m_apartFromJibOf K S a b
      · rw [if_pos c3, if_pos ((apOf_sym ha hb ht).mp c3)]
      · rw [if_neg c3, if_neg (fun h => c3 ((apOf_sym ha hb ht).mpr h))]
theorem clash_3 {K : Nat → Nat} {S : PS} {a b : Nat} {t : Int32} : 0 ≤ m_clashRule K S a b t ∧ m_clashRule K S a b t ≤ 3 := by
  have : m_clashRule K S a b t = 0 ∨ m_clashRule K S a b t = 1 ∨ m_clashRule K S a b t = 2 ∨ m_clashRule K S a b t = 3 := by
    unfold m_clashRule
    repeat' split
    all_goals simp
  rcases this with h | h | h | h <;> rw [h] <;> decide
