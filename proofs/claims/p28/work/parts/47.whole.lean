/-! a sound site's answers -/
theorem cn_ext {p q : Nat → Bool} : ∀ r, (∀ i, i < r → p i = q i) → cn p r = cn q r
  | 0, _ => rfl
  | r + 1, h => by
    show cn p r + (p r).toNat = cn q r + (q r).toNat
    rw [cn_ext r (fun i hi => h i (by omega)), h r (by omega)]
theorem cn_rm {q : Nat → Bool} {k : Nat} : ∀ m, k < m → q k = true → cn (fun j => q j && !(decide (j = k))) m + 1 = cn q m
  | 0, h, _ => absurd h (Nat.not_lt_zero _)
  | m + 1, h, hq => by
    show cn (fun j => q j && !(decide (j = k))) m + (q m && !(decide (m = k))).toNat + 1 = cn q m + (q m).toNat
    by_cases e : m = k
    · subst e
      have : cn (fun j => q j && !(decide (j = m))) m = cn q m := cn_ext m (fun i hi => by simp [Nat.ne_of_lt hi])
      rw [this, hq]
      simp
    · have := cn_rm m (show k < m by omega) hq
      have e2 : (q m && !(decide (m = k))).toNat = (q m).toNat := by simp [e]
      omega
theorem cn_inj : ∀ (n m : Nat) (p q : Nat → Bool) (f : Nat → Nat), (∀ i, i < n → p i = true → f i < m ∧ q (f i) = true) → (∀ i j, i < n → j < n → p i = true → p j = true → f i = f j → i = j) → cn p n ≤ cn q m
  | 0, m, p, q, f, _, _ => Nat.zero_le _
  | n + 1, m, p, q, f, h, hi => by
    show cn p n + (p n).toNat ≤ cn q m
    by_cases c : p n = true
    · obtain ⟨f1, f2⟩ := h n (by omega) c
      have e := cn_rm m f1 f2
      have := cn_inj n m p (fun j => q j && !(decide (j = f n))) f (fun i hlt hp => by
        obtain ⟨g1, g2⟩ := h i (by omega) hp
        refine ⟨g1, ?_⟩
        have : f i ≠ f n := fun e => by have := hi i n (by omega) (by omega) hp c e; omega
        simp [g2, this]) (fun i j hlt hlt2 => hi i j (by omega) (by omega))
      rw [c]
      show cn p n + 1 ≤ cn q m
      omega
    · have := cn_inj n m p q f (fun i hlt => h i (by omega)) (fun i j hlt hlt2 => hi i j (by omega) (by omega))
      have e : (p n).toNat = 0 := by simp [c]
      omega
theorem cn_add {p q s : Nat → Bool} : ∀ r, (∀ i, i < r → (p i).toNat + (q i).toNat = (s i).toNat) → cn p r + cn q r = cn s r
  | 0, _ => rfl
  | r + 1, h => by
    have h1 := cn_add r (fun i hi => h i (by omega))
    have h2 := h r (by omega)
    show cn p r + (p r).toNat + (cn q r + (q r).toNat) = cn s r + (s r).toNat
    omega
theorem cn_all {p : Nat → Bool} : ∀ r, (∀ i, i < r → p i = true) → cn p r = r
  | 0, _ => rfl
  | r + 1, h => by
    show cn p r + (p r).toNat = r + 1
    rw [cn_all r (fun i hi => h i (by omega)), h r (by omega)]
    rfl
theorem cn_none {p : Nat → Bool} : ∀ r, (∀ i, i < r → p i = false) → cn p r = 0
  | 0, _ => rfl
  | r + 1, h => by
    show cn p r + (p r).toNat = 0
    rw [cn_none r (fun i hi => h i (by omega)), h r (by omega)]
    rfl
section WH
variable {E : EV} {K : Nat → Nat} {S : PS} {N : Nat}
/-! clashes -/
theorem w_sym (h : IV E K S N) {k o : Nat} (hk : k < sZ S (K 13)) (ho : o < sZ S (K 13)) (hne : k ≠ o) : m_clash K S o k = m_clash K S k o :=
  clash_sym (h.c ho).ge (h.c hk).ge (fun e => hne (h.inj ho hk e).symm) (by decide)
theorem cb_at (h : IV E K S N) {k o : Nat} (hk : k < sZ S (K 13)) (ho : o < sZ S (K 13)) : cb K S (cr K S k) o = (!(decide (o = k)) && !(decide (m_clash K S k o = 0))) := by
  have n4 := h.n4
  unfold cb
  rw [(h.c hk).1.2.2]
  have : decide (nI o = nI k) = decide (o = k) := by
    by_cases e : o = k
    · rw [e]; simp
    · simp [e, nI_eq (show o < 2 ^ 31 by omega) (show k < 2 ^ 31 by omega)]
  rw [this]
  rfl
theorem w_13 {k : Nat} : m_ofCrane K S k 13 = m_clashesOf K S (cr K S k) := by simp [m_ofCrane, cr]
theorem w_bit (h : IV E K S N) {k o : Nat} (hk : k < sZ S (K 13)) (ho : o < sZ S (K 13)) (hne : o ≠ k) : ((m_ofCrane K S k 13 >>> ((nI o) &&& 31)) &&& 1) = if m_clash K S k o = 0 then 0 else 1 := by
  rw [w_13, clashesOf_or, orlp_bit _ h.n4 ho, cb_at h hk ho]
  by_cases c : m_clash K S k o = 0
  · simp [c]
  · simp [c, hne]
def pS (K : Nat → Nat) (S : PS) : Nat → Nat
  | 0 => 0
  | k + 1 => pS K S k + cn (cb K S (cr K S k)) (sZ S (K 13))
theorem pS_le (h : IV E K S N) : ∀ k, pS K S k ≤ 4 * k
  | 0 => Nat.le_refl _
  | k + 1 => by
    have := pS_le h k
    have := cn_le (cb K S (cr K S k)) (sZ S (K 13))
    have := h.n4
    show pS K S k + cn (cb K S (cr K S k)) (sZ S (K 13)) ≤ 4 * (k + 1)
    omega
theorem pairs_lp (h : IV E K S N) : ∀ (r j : Nat), j + r = sZ S (K 13) → m_clashingPairs_lp K S r j (nI (pS K S j)) = nI (pS K S (j + r)) / 2
  | 0, j, _ => rfl
  | r + 1, j, hj => by
    simp only [m_clashingPairs_lp]
    have e : m_bitCount K S (m_clashesOf K S (el S (K 13) j)) = nI (cn (cb K S (cr K S j)) (sZ S (K 13))) := by
      rw [clashesOf_or]; exact bc_orlp _ h.n4
    rw [e, nI_add]
    have := pairs_lp h r (j + 1) (by omega)
    rw [show j + (r + 1) = j + 1 + r by omega]
    exact this
theorem pS_even (h : IV E K S N) : pS K S (sZ S (K 13)) % 2 = 0 := by
  have hs : ∀ i j, i < sZ S (K 13) → j < sZ S (K 13) → cb K S (cr K S i) j = cb K S (cr K S j) i := fun i j hi hj => by
    rw [cb_at h hi hj, cb_at h hj hi]
    by_cases e : i = j
    · subst e; rfl
    · rw [w_sym h hi hj e]; simp [e, Ne.symm e]
  have hd : ∀ i, i < sZ S (K 13) → cb K S (cr K S i) i = false := fun i hi => by rw [cb_at h hi hi]; simp
  have n4 := h.n4
  have : sZ S (K 13) = 0 ∨ sZ S (K 13) = 1 ∨ sZ S (K 13) = 2 ∨ sZ S (K 13) = 3 ∨ sZ S (K 13) = 4 := by omega
  rcases this with e | e | e | e | e <;> rw [e] at hs hd
  · rw [e]; rfl
  · rw [e]
    simp only [pS, cn, e]
    rw [hd 0 (by decide)]
    rfl
  · rw [e]
    simp only [pS, cn, e]
    rw [hd 0 (by decide), hd 1 (by decide), hs 1 0 (by decide) (by decide)]
    simp only [Bool.toNat_false]
    omega
  · rw [e]
    simp only [pS, cn, e]
    rw [hd 0 (by decide), hd 1 (by decide), hd 2 (by decide), hs 1 0 (by decide) (by decide), hs 2 0 (by decide) (by decide), hs 2 1 (by decide) (by decide)]
    simp only [Bool.toNat_false]
    omega
  · rw [e]
    simp only [pS, cn, e]
    rw [hd 0 (by decide), hd 1 (by decide), hd 2 (by decide), hd 3 (by decide), hs 1 0 (by decide) (by decide), hs 2 0 (by decide) (by decide), hs 2 1 (by decide) (by decide), hs 3 0 (by decide) (by decide), hs 3 1 (by decide) (by decide), hs 3 2 (by decide) (by decide)]
    simp only [Bool.toNat_false]
    omega
theorem w_pairs (h : IV E K S N) : m_clashingPairs K S * 2 = nI (pS K S (sZ S (K 13))) := by
  have e := pairs_lp h (sZ S (K 13)) 0 (by omega)
  have l := pS_le h (sZ S (K 13))
  have n4 := h.n4
  have ev := pS_even h
  unfold m_clashingPairs
  rw [show (0 : Int32) = nI (pS K S 0) from rfl, e, Nat.zero_add]
  have t : ∀ n, n < 17 → n % 2 = 0 → nI n / 2 * 2 = nI n := by decide +kernel
  exact t _ (by omega) ev
/-! near misses -/
def nS (K : Nat → Nat) (S : PS) : Nat → Int32
  | 0 => 0
  | k + 1 => nS K S k + sI S 15 (cr K S k)
theorem near_lp : ∀ (r j : Nat), m_nearMisses_lp K S r j (nS K S j) = nS K S (j + r)
  | 0, j => rfl
  | r + 1, j => by
    simp only [m_nearMisses_lp]
    have := near_lp r (j + 1)
    rw [show j + (r + 1) = j + 1 + r by omega]
    exact this
theorem w_near : m_nearMisses K S = nS K S (sZ S (K 13)) := by
  have := near_lp (K := K) (S := S) (sZ S (K 13)) 0
  rw [Nat.zero_add] at this
  exact this
/-! who stands where -/
theorem tower_lp (h : IV E K S N) {k : Nat} (hk : k < sZ S (K 13)) : ∀ (r j : Nat), j + r = sZ S (K 13) → j ≤ k → m_towerOn_lp K S (sI S 2 (cr K S k)) r j = nI k
  | 0, j, hj, hjk => by omega
  | r + 1, j, hj, hjk => by
    simp only [m_towerOn_lp]
    by_cases e : j = k
    · subst e
      rw [if_pos (show sI S 2 (el S (K 13) j) = sI S 2 (cr K S j) from rfl)]
    · rw [if_neg (show ¬ sI S 2 (el S (K 13) j) = sI S 2 (cr K S k) from fun q => e (h.tw j k (by omega) hk q))]
      exact tower_lp h hk r (j + 1) (by omega) (by omega)
theorem w_tower (h : IV E K S N) {k : Nat} (hk : k < sZ S (K 13)) : m_towerOn K S (sI S 2 (cr K S k)) = nI k := tower_lp h hk _ 0 (by omega) (Nat.zero_le _)
/-! loads that hang -/
def hC (K : Nat → Nat) (S : PS) (k : Nat) : Bool := (sM S 14 (cr K S k)).isSome
def hL (K : Nat → Nat) (S : PS) (j : Nat) : Bool := (sM S 22 (ld K S j)).isSome
theorem hang_lp (h : IV E K S N) : ∀ (r j : Nat), j + r = sZ S (K 14) → m_hangingLoads_lp K S r j (nI (cn (hL K S) j)) = nI (cn (hL K S) (j + r))
  | 0, j, _ => rfl
  | r + 1, j, hj => by
    simp only [m_hangingLoads_lp]
    have ih := hang_lp h r (j + 1) (by omega)
    rw [show j + (r + 1) = j + 1 + r by omega]
    by_cases c : sM S 22 (el S (K 14) j) = none
    · rw [if_pos c]
      have e : cn (hL K S) (j + 1) = cn (hL K S) j := by
        show cn (hL K S) j + (hL K S j).toNat = _
        have : hL K S j = false := by unfold hL ld; rw [c]; rfl
        rw [this]; rfl
      rw [e] at ih
      exact ih
    · rw [if_neg c, nI_1]
      have e : cn (hL K S) (j + 1) = cn (hL K S) j + 1 := by
        show cn (hL K S) j + (hL K S j).toNat = _
        have : hL K S j = true := by unfold hL ld; cases hx : sM S 22 (el S (K 14) j) with | none => exact absurd hx c | some _ => rfl
        rw [this]; rfl
      rw [e] at ih
      exact ih
theorem w_hang (h : IV E K S N) : m_hangingLoads K S = nI (cn (hC K S) (sZ S (K 13))) := by
  have e := hang_lp h (sZ S (K 14)) 0 (by omega)
  unfold m_hangingLoads
  rw [show (0 : Int32) = nI (cn (hL K S) 0) from rfl, e, Nat.zero_add]
  congr 1
  classical
  apply Nat.le_antisymm
  · have ex : ∀ j, j < sZ S (K 14) → hL K S j = true → ∃ k, k < sZ S (K 13) ∧ sM S 22 (ld K S j) = some (cr K S k) ∧ sM S 14 (cr K S k) = some (ld K S j) := fun j hj hh => by
      unfold hL at hh
      cases hx : sM S 22 (ld K S j) with
      | none => rw [hx] at hh; cases hh
      | some c =>
        obtain ⟨k, k1, k2, k3⟩ := h.li.2.1 j hj c hx
        exact ⟨k, k1, by rw [k2], by rw [← k2]; exact k3⟩
    refine cn_inj _ _ _ _ (fun j => if hh : j < sZ S (K 14) ∧ hL K S j = true then Classical.choose (ex j hh.1 hh.2) else 0) (fun j hj hh => ?_) (fun i j hi hj h1 h2 e => ?_)
    · have e : (if hh : j < sZ S (K 14) ∧ hL K S j = true then Classical.choose (ex j hh.1 hh.2) else 0) = Classical.choose (ex j hj hh) := dif_pos ⟨hj, hh⟩
      show (if hh : j < sZ S (K 14) ∧ hL K S j = true then Classical.choose (ex j hh.1 hh.2) else 0) < _ ∧ hC K S (if hh : j < sZ S (K 14) ∧ hL K S j = true then Classical.choose (ex j hh.1 hh.2) else 0) = true
      rw [e]
      obtain ⟨s1, s2, s3⟩ := Classical.choose_spec (ex j hj hh)
      exact ⟨s1, by unfold hC; rw [s3]; rfl⟩
    · have e' : (if hh : i < sZ S (K 14) ∧ hL K S i = true then Classical.choose (ex i hh.1 hh.2) else 0) = (if hh : j < sZ S (K 14) ∧ hL K S j = true then Classical.choose (ex j hh.1 hh.2) else 0) := e
      rw [dif_pos ⟨hi, h1⟩, dif_pos ⟨hj, h2⟩] at e'
      obtain ⟨-, -, s3⟩ := Classical.choose_spec (ex i hi h1)
      obtain ⟨-, -, t3⟩ := Classical.choose_spec (ex j hj h2)
      rw [e', t3] at s3
      exact (h.linj hj hi (Option.some.inj s3)).symm
  · have ex : ∀ k, k < sZ S (K 13) → hC K S k = true → ∃ j, j < sZ S (K 14) ∧ sM S 14 (cr K S k) = some (ld K S j) ∧ sM S 22 (ld K S j) = some (cr K S k) := fun k hk hh => by
      unfold hC at hh
      cases hx : sM S 14 (cr K S k) with
      | none => rw [hx] at hh; cases hh
      | some c =>
        obtain ⟨j, k1, k2, k3⟩ := h.li.2.2 k hk c hx
        exact ⟨j, k1, by rw [k2], by rw [← k2]; exact k3⟩
    refine cn_inj _ _ _ _ (fun j => if hh : j < sZ S (K 13) ∧ hC K S j = true then Classical.choose (ex j hh.1 hh.2) else 0) (fun j hj hh => ?_) (fun i j hi hj h1 h2 e => ?_)
    · have e : (if hh : j < sZ S (K 13) ∧ hC K S j = true then Classical.choose (ex j hh.1 hh.2) else 0) = Classical.choose (ex j hj hh) := dif_pos ⟨hj, hh⟩
      show (if hh : j < sZ S (K 13) ∧ hC K S j = true then Classical.choose (ex j hh.1 hh.2) else 0) < _ ∧ hL K S (if hh : j < sZ S (K 13) ∧ hC K S j = true then Classical.choose (ex j hh.1 hh.2) else 0) = true
      rw [e]
      obtain ⟨s1, s2, s3⟩ := Classical.choose_spec (ex j hj hh)
      exact ⟨s1, by unfold hL; rw [s3]; rfl⟩
    · have e' : (if hh : i < sZ S (K 13) ∧ hC K S i = true then Classical.choose (ex i hh.1 hh.2) else 0) = (if hh : j < sZ S (K 13) ∧ hC K S j = true then Classical.choose (ex j hh.1 hh.2) else 0) := e
      rw [dif_pos ⟨hi, h1⟩, dif_pos ⟨hj, h2⟩] at e'
      obtain ⟨-, -, s3⟩ := Classical.choose_spec (ex i hi h1)
      obtain ⟨-, -, t3⟩ := Classical.choose_spec (ex j hj h2)
      rw [e', t3] at s3
      exact (h.inj hj hi (Option.some.inj s3)).symm
/-- what hangs on a crane -/
theorem w_9 {k : Nat} : m_ofCrane K S k 9 = if sM S 14 (cr K S k) = none then -1 else sI S 19 ((sM S 14 (cr K S k)).getD 0) := by
  unfold m_ofCrane cr
  rw [if_neg (by decide), if_neg (by decide), if_neg (by decide), if_neg (by decide), if_neg (by decide), if_neg (by decide), if_neg (by decide), if_neg (by decide), if_neg (by decide), if_pos rfl]
theorem w_load (h : IV E K S N) {k : Nat} (hk : k < sZ S (K 13)) : (m_ofCrane K S k 9 = -1 ∧ hC K S k = false) ∨ ∃ j, j < sZ S (K 14) ∧ m_ofCrane K S k 9 = nI j ∧ m_ofLoad K S j 2 = nI k ∧ m_ofLoad K S j 1 = m_plumb K S (cr K S k) ∧ hC K S k = true := by
  rw [w_9]
  cases hx : sM S 14 (cr K S k) with
  | none => exact Or.inl ⟨if_pos rfl, by unfold hC; rw [hx]; rfl⟩
  | some q =>
    obtain ⟨j, j1, j2, j3⟩ := h.li.2.2 k hk q hx
    have e22 : sM S 22 (el S (K 14) j) = some (cr K S k) := by rw [j2] at j3; exact j3
    refine Or.inr ⟨j, j1, ?_, ?_, ?_, by unfold hC; rw [hx]; rfl⟩
    · rw [if_neg (by simp)]
      show sI S 19 q = nI j
      rw [j2]; exact (h.li.1 j j1).1
    · unfold m_ofLoad
      rw [if_neg (by decide), if_neg (by decide), if_pos rfl, e22, if_neg (by simp)]
      exact (h.c hk).1.2.2
    · unfold m_ofLoad m_place
      rw [if_neg (by decide), if_pos rfl, e22, if_neg (by simp)]
      rfl
/-! loads that lie -/
def lC (K : Nat → Nat) (S : PS) (c j : Nat) : Bool := (sM S 22 (ld K S j)).isNone && decide (sI S 21 (ld K S j) = nI c)
theorem loads_lp (c : Nat) : ∀ (r j : Nat), m_loadsOn_lp K S (nI c) r j (nI (cn (lC K S c) j)) = nI (cn (lC K S c) (j + r))
  | 0, j => rfl
  | r + 1, j => by
    simp only [m_loadsOn_lp]
    have ih := loads_lp c r (j + 1)
    rw [show j + (r + 1) = j + 1 + r by omega]
    have hl : (m_liesOn K S (el S (K 14) j) (nI c) = 0) ↔ lC K S c j = false := by
      unfold m_liesOn lC ld
      by_cases c1 : sM S 22 (el S (K 14) j) = none
      · rw [if_pos c1, c1]
        by_cases c2 : sI S 21 (el S (K 14) j) = nI c
        · rw [if_pos c2]; simp [c2]
        · rw [if_neg c2]; simp [c2]
      · rw [if_neg c1]
        cases hx : sM S 22 (el S (K 14) j) with
        | none => exact absurd hx c1
        | some _ => simp
    by_cases c1 : m_liesOn K S (el S (K 14) j) (nI c) = 0
    · rw [if_pos c1]
      have e : cn (lC K S c) (j + 1) = cn (lC K S c) j := by
        show cn (lC K S c) j + (lC K S c j).toNat = _
        rw [hl.mp c1]; rfl
      rw [e] at ih
      exact ih
    · rw [if_neg c1, nI_1]
      have e : cn (lC K S c) (j + 1) = cn (lC K S c) j + 1 := by
        show cn (lC K S c) j + (lC K S c j).toNat = _
        have : lC K S c j = true := by cases hx : lC K S c j with | true => rfl | false => exact absurd (hl.mpr hx) c1
        rw [this]; rfl
      rw [e] at ih
      exact ih
theorem w_loadsOn (c : Nat) : m_loadsOn K S (nI c) = nI (cn (lC K S c) (sZ S (K 14))) := by
  have := loads_lp (K := K) (S := S) c (sZ S (K 14)) 0
  rw [Nat.zero_add] at this
  exact this
def lS (K : Nat → Nat) (S : PS) : Nat → Nat
  | 0 => 0
  | c + 1 => lS K S c + cn (lC K S c) (sZ S (K 14))
theorem lS_cn (h : IV E K S N) : ∀ c, c < 2 ^ 31 → lS K S c = cn (fun j => (sM S 22 (ld K S j)).isNone && decide ((sI S 21 (ld K S j)).toInt < c)) (sZ S (K 14))
  | 0, _ => by
    refine (cn_none _ (fun i hi => ?_)).symm
    have := (h.li.1 i hi).2.1
    simp only [Bool.and_eq_false_iff, decide_eq_false_iff_not]
    exact Or.inr (by omega)
  | c + 1, hc => by
    show lS K S c + cn (lC K S c) (sZ S (K 14)) = _
    rw [lS_cn h c (by omega)]
    refine cn_add _ (fun i hi => ?_)
    unfold lC
    have hi0 := (h.li.1 i hi).2.1
    have hcc : (sI S 21 (ld K S i) = nI c) ↔ (sI S 21 (ld K S i)).toInt = c := by rw [← Int32.toInt_inj, nI_toInt (by omega)]
    cases (sM S 22 (ld K S i)).isNone with
    | false => rfl
    | true =>
      simp only [Bool.true_and]
      by_cases c1 : (sI S 21 (ld K S i)).toInt < c
      · have c2 : ¬ sI S 21 (ld K S i) = nI c := by rw [hcc]; omega
        rw [decide_eq_true c1, decide_eq_false c2, decide_eq_true (show (sI S 21 (ld K S i)).toInt < ((c + 1 : Nat) : Int) by omega)]
        rfl
      · by_cases c2 : sI S 21 (ld K S i) = nI c
        · have c3 := hcc.mp c2
          rw [decide_eq_false c1, decide_eq_true c2, decide_eq_true (show (sI S 21 (ld K S i)).toInt < ((c + 1 : Nat) : Int) by omega)]
          rfl
        · have c3 : ¬ (sI S 21 (ld K S i)).toInt = c := fun e => c2 (hcc.mpr e)
          rw [decide_eq_false c1, decide_eq_false c2, decide_eq_false (show ¬ (sI S 21 (ld K S i)).toInt < ((c + 1 : Nat) : Int) by omega)]
          rfl
theorem w_lying (h : IV E K S N) {C : Nat} (hC2 : C < 2 ^ 31) (hC : (m_cells K S).toInt = C) : cn (hL K S) (sZ S (K 14)) + lS K S C = sZ S (K 14) := by
  rw [lS_cn h C hC2]
  refine (cn_add (s := fun _ => true) _ (fun i hi => ?_)).trans (cn_all _ (fun _ _ => rfl))
  have hlt := (h.li.1 i hi).2.2
  rw [hC] at hlt
  unfold hL
  cases sM S 22 (ld K S i) <;> simp [hlt]
end WH
