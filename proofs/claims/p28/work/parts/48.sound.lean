/-! a site is sound; its bounds as the law asks for them -/
section SD
variable {E : EV} {K : Nat → Nat} {S u : PS} {N k a : Nat}
theorem hasCell_int {x : Int32} (h0 : 0 ≤ x.toInt) (h1 : x.toInt < (m_cells K S).toInt) : ¬ m_hasCell K S x = 0 := by
  unfold m_hasCell
  rw [if_neg (by rw [Int32.lt_iff_toInt_lt, ti_0]; omega), if_neg (by rw [Int32.le_iff_toInt_le]; omega)]
  decide
theorem ti_1 : (1 : Int32).toInt = 1 := by decide
theorem ti_20 : (20 : Int32).toInt = 20 := by decide
theorem ti_30 : (30 : Int32).toInt = 30 := by decide
theorem ti_m1 : (-1 : Int32).toInt = -1 := by decide
theorem within_ok (h : IV E K S N) (c : CI K S k a) : ¬ m_isWithinBounds K S a = 0 := by
  have p := c.pl h.y
  obtain ⟨-, t, b, m, s, -⟩ := c
  have lv := (level_in h (m_plumb K S a)).1
  have e5 : (sI S 5 a - 1).toInt = (sI S 5 a).toInt - 1 := by rw [ti_sub (by rw [ti_1]; omega) (by rw [ti_1]; omega), ti_1]
  unfold m_isWithinBounds
  rw [if_neg (by rw [Int32.lt_iff_toInt_lt, ti_1]; omega), if_neg (by rw [Int32.lt_iff_toInt_lt]; omega), if_neg (by rw [Int32.lt_iff_toInt_lt, ti_1]; omega), if_neg (by rw [Int32.lt_iff_toInt_lt, e5]; omega), if_neg (by rw [Int32.lt_iff_toInt_lt, ti_0]; omega), if_neg (by rw [Int32.lt_iff_toInt_lt, ti_20]; omega), if_neg (by rw [← Int32.toInt_inj, ti_m1]; omega)]
  decide
theorem cranes_ok (h : IV E K S N) : ∀ (r j : Nat), j + r = sZ S (K 13) → m_areCranesSound_lp K S r j = 1
  | 0, j, _ => rfl
  | r + 1, j, hj => by
    have hk : j < sZ S (K 13) := by omega
    have e1 : m_towerOn K S (sI S 2 (el S (K 13) j)) = nI j := w_tower h hk
    have e2 : m_levelOf K S (sI S 2 (el S (K 13) j)) = 0 := h.lv j hk
    have e3 : ¬ m_isWithinBounds K S (el S (K 13) j) = 0 := within_ok h (h.c hk)
    simp only [m_areCranesSound_lp]
    rw [if_pos e1, if_pos e2, cranes_ok h r (j + 1) (by omega), if_neg e3]
    by_cases c : sM S 14 (el S (K 13) j) = none
    · rw [if_pos c]
    · rw [if_neg c]
      have : sM S 22 ((sM S 14 (el S (K 13) j)).getD 0) = some (el S (K 13) j) := by
        cases hx : sM S 14 (el S (K 13) j) with
        | none => exact absurd hx c
        | some q =>
          obtain ⟨i, -, -, i3⟩ := h.li.2.2 j hk q hx
          exact i3
      rw [if_pos this]
theorem loads_ok (h : IV E K S N) : ∀ (r j : Nat), j + r = sZ S (K 14) → m_areLoadsSound_lp K S r j = 1
  | 0, j, _ => rfl
  | r + 1, j, hj => by
    simp only [m_areLoadsSound_lp]
    rw [loads_ok h r (j + 1) (by omega)]
    by_cases c : sM S 22 (el S (K 14) j) = none
    · rw [if_pos c]
    · rw [if_neg c]
      have : sM S 14 ((sM S 22 (el S (K 14) j)).getD 0) = some (el S (K 14) j) := by
        cases hx : sM S 22 (el S (K 14) j) with
        | none => exact absurd hx c
        | some q =>
          obtain ⟨i, -, -, i3⟩ := h.li.2.1 j (by omega) q hx
          exact i3
      rw [if_pos this]
theorem w_sound (h : IV E K S N) : m_isSound K S = 1 := by
  unfold m_isSound m_areCranesSound m_areLoadsSound
  rw [cranes_ok h _ 0 (by omega), loads_ok h _ 0 (by omega)]
  rfl
theorem ofCrane_at {k : Nat} : m_ofCrane K S k 0 = sI S 2 (cr K S k) ∧ m_ofCrane K S k 1 = sI S 5 (cr K S k) ∧ m_ofCrane K S k 2 = sI S 6 (cr K S k) ∧ m_ofCrane K S k 6 = sI S 11 (cr K S k) ∧ m_ofCrane K S k 7 = sI S 12 (cr K S k) ∧ m_ofCrane K S k 8 = sI S 13 (cr K S k) ∧ m_ofCrane K S k 10 = m_plumb K S (cr K S k) ∧ m_ofCrane K S k 14 = sI S 15 (cr K S k) := by
  refine ⟨?_, ?_, ?_, ?_, ?_, ?_, ?_, ?_⟩ <;> simp [m_ofCrane, cr]
theorem w_hook (h : IV E K S N) {k : Nat} (hk : k < sZ S (K 13)) : ¬ m_ofCrane K S k 6 ≤ m_ofCell K S (m_ofCrane K S k 10) 0 := by
  have e : m_ofCell K S (m_plumb K S (cr K S k)) 0 = m_levelOf K S (m_plumb K S (cr K S k)) := by simp [m_ofCell]
  rw [(ofCrane_at (K := K) (S := S) (k := k)).2.2.2.1, (ofCrane_at (K := K) (S := S) (k := k)).2.2.2.2.2.2.1, e, Int32.le_iff_toInt_le]
  have := (h.c hk).2.2.2.1.2.2.2
  omega
theorem w_work (h : IV E K S N) {k : Nat} (hk : k < sZ S (K 13)) : ¬ 30 < m_ofCrane K S k 8 := by
  rw [(ofCrane_at (K := K) (S := S) (k := k)).2.2.2.2.2.1, Int32.lt_iff_toInt_lt, ti_30]
  have := (h.c hk).2.2.2.2.2.1
  omega
theorem w_sway (h : IV E K S N) {k : Nat} (hk : k < sZ S (K 13)) : ¬ 20 < m_ofCrane K S k 7 := by
  rw [(ofCrane_at (K := K) (S := S) (k := k)).2.2.2.2.1, Int32.lt_iff_toInt_lt, ti_20]
  have := (h.c hk).2.2.2.2.1
  omega
theorem w_own (h : IV E K S N) {k : Nat} (hk : k < sZ S (K 13)) : m_ofCell K S (m_ofCrane K S k 0) 3 = nI k := by
  have e : m_ofCell K S (sI S 2 (cr K S k)) 3 = m_towerOn K S (sI S 2 (cr K S k)) := by simp [m_ofCell]
  rw [(ofCrane_at (K := K) (S := S) (k := k)).1, e, w_tower h hk]
theorem ok_plumb (h : IV E K S N) {k : Nat} (hk : k < sZ S (K 13)) : ¬ m_hasCell K S (m_ofCrane K S k 10) = 0 := by
  rw [(ofCrane_at (K := K) (S := S) (k := k)).2.2.2.2.2.2.1]
  have p := (h.c hk).pl h.y
  exact hasCell_int p.2.1 p.2.2.1
theorem ok_tower (h : IV E K S N) {k : Nat} (hk : k < sZ S (K 13)) : ¬ m_hasCell K S (m_ofCrane K S k 0) = 0 := by
  rw [(ofCrane_at (K := K) (S := S) (k := k)).1]
  have p := (h.c hk).tower h.y
  exact hasCell_int p.1 p.2.1
/-! what stays as it is -/
theorem plumb_eq {v : PS} {b : Nat} (h3 : sI u 3 b = sI S 3 a) (h4 : sI u 4 b = sI S 4 a) (h8 : sI u 8 b = sI S 8 a) (h10 : sI u 10 b = sI S 10 a) (h17 : sI u 17 (K 2) = sI S 17 (K 2)) (h18 : sI u 18 (K 2) = sI S 18 (K 2)) : m_plumb K u b = m_plumb K S a := by
  unfold m_plumb m_rowAt m_columnAt m_cellAt m_hasPlace
  rw [h3, h4, h8, h10, h17, h18]
theorem CI.same (h : CI K S k a) (hk : InK u a 0) (hf : ∀ f, f ≤ 15 → sI u f a = sI S f a) (h17 : sI u 17 (K 2) = sI S 17 (K 2)) (h18 : sI u 18 (K 2) = sI S 18 (K 2)) (h40 : (sI S 40 (K 1)).toInt ≤ (sI u 40 (K 1)).toInt) (hl : (m_levelOf K u (m_plumb K S a)).toInt < (sI S 11 a).toInt) : CI K u k a := by
  have y : ∀ {r q : Int}, inY K u r q ↔ inY K S r q := fun {r q} => by unfold inY; rw [h17, h18]
  have dr : dR u a = dR S a := by unfold dR bea; rw [hf 8 (by decide)]
  have dc : dC u a = dC S a := by unfold dC bea; rw [hf 8 (by decide)]
  have pe : m_plumb K u a = m_plumb K S a := plumb_eq (v := u) (hf 3 (by decide)) (hf 4 (by decide)) (hf 8 (by decide)) (hf 10 (by decide)) h17 h18
  obtain ⟨⟨-, c1⟩, ⟨c2, c3⟩, ⟨c4, c5, c6, c7⟩, ⟨c8, c9, c10, -⟩, c11, c12, c13, c14⟩ := h
  unfold CI TW AY
  simp only [y]
  rw [hf 1 (by decide), hf 2 (by decide), hf 3 (by decide), hf 4 (by decide), hf 5 (by decide), hf 6 (by decide), hf 8 (by decide), hf 9 (by decide), hf 10 (by decide), hf 11 (by decide), hf 12 (by decide), hf 13 (by decide), hf 15 (by decide), dr, dc, h17, pe]
  exact ⟨⟨hk, c1⟩, ⟨c2, c3⟩, ⟨c4, c5, c6, c7⟩, ⟨c8, c9, c10, hl⟩, c11, c12, c13, by omega⟩
/-- counts that never grow less; the yard stays -/
def MO (K : Nat → Nat) (S u : PS) : Prop := (sZ S (K 13) ≤ sZ u (K 13) ∧ sZ S (K 14) ≤ sZ u (K 14) ∧ sZ S (K 12) ≤ sZ u (K 12)) ∧ ((sI S 39 (K 1)).toInt ≤ (sI u 39 (K 1)).toInt ∧ (sI S 40 (K 1)).toInt ≤ (sI u 40 (K 1)).toInt ∧ (sI S 41 (K 1)).toInt ≤ (sI u 41 (K 1)).toInt) ∧
  (∀ k, k < sZ S (K 13) → (sI S 15 (cr K S k)).toInt ≤ (sI u 15 (cr K u k)).toInt) ∧ m_cells K u = m_cells K S
theorem MO.rf : MO K S S := ⟨⟨Nat.le_refl _, Nat.le_refl _, Nat.le_refl _⟩, ⟨Int.le_refl _, Int.le_refl _, Int.le_refl _⟩, fun _ _ => Int.le_refl _, rfl⟩
theorem MO.tr {v : PS} (h : MO K S u) (h2 : MO K u v) : MO K S v :=
  ⟨⟨Nat.le_trans h.1.1 h2.1.1, Nat.le_trans h.1.2.1 h2.1.2.1, Nat.le_trans h.1.2.2 h2.1.2.2⟩, ⟨Int.le_trans h.2.1.1 h2.2.1.1, Int.le_trans h.2.1.2.1 h2.2.1.2.1, Int.le_trans h.2.1.2.2 h2.2.1.2.2⟩, fun k hk => Int.le_trans (h.2.2.1 k hk) (h2.2.2.1 k (Nat.lt_of_lt_of_le hk h.1.1)), h2.2.2.2.trans h.2.2.2⟩
/-- no clash that was not there -/
def NC (K : Nat → Nat) (S u : PS) : Prop := sZ u (K 13) = sZ S (K 13) ∧ ∀ i j, i < sZ S (K 13) → j < sZ S (K 13) → i ≠ j → m_clash K u i j ≠ 0 → m_clash K S i j ≠ 0
theorem NC.rf : NC K S S := ⟨rfl, fun _ _ _ _ _ h => h⟩
theorem NC.tr {v : PS} (h : NC K S u) (h2 : NC K u v) : NC K S v := ⟨h2.1.trans h.1, fun i j hi hj hn hc => h.2 i j hi hj hn (h2.2 i j (by rw [h.1]; exact hi) (by rw [h.1]; exact hj) hn hc)⟩
/-- time goes by steps alone -/
def TT (K : Nat → Nat) (S u : PS) : Prop := sI u 39 (K 1) - sI u 40 (K 1) = sI S 39 (K 1) - sI S 40 (K 1)
theorem TT.rf : TT K S S := rfl
theorem TT.tr {v : PS} (h : TT K S u) (h2 : TT K u v) : TT K S v := h2.trans h
theorem QS.mo (h : IV E K S N) (q : QS K S u) : MO K S u := by
  have g := q.ag h.kd
  have hW := h.g.1
  refine ⟨⟨by rw [g.z]; exact Nat.le_refl _, by rw [g.z]; exact Nat.le_refl _, by rw [g.z]; exact Nat.le_refl _⟩, ⟨by rw [g.i 39 hW.n1]; exact Int.le_refl _, by rw [g.i 40 hW.n1]; exact Int.le_refl _, by rw [g.i 41 hW.n1]; exact Int.le_refl _⟩, fun k hk => ?_, s_cells hW g⟩
  rw [g.cr, g.i 15 (h.c hk).1.2.1]
  exact Int.le_refl _
theorem QS.nc (h : IV E K S N) (q : QS K S u) : NC K S u := by
  have g := q.ag h.kd
  refine ⟨g.z _, fun i j hi hj _ hc => ?_⟩
  have : m_clash K u i j = m_clash K S i j := by
    unfold m_clash
    rw [g.el, g.el]
    exact s_clash (g.sm (h.to i hi)) (g.sm (h.to j hj)) 1
  rw [← this]
  exact hc
theorem QS.tt (h : IV E K S N) (q : QS K S u) : TT K S u := by
  have g := q.ag h.kd
  unfold TT
  rw [g.i 39 h.g.1.n1, g.i 40 h.g.1.n1]
end SD
