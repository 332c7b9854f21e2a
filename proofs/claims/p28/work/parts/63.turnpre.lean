/-! the law's turn: what it keeps in its rows -/
def EQ (K : Nat → Nat) (S T : PS) : Prop := (sI T 39 (K 1) = sI S 39 (K 1) ∧ sI T 40 (K 1) = sI S 40 (K 1) ∧ sI T 41 (K 1) = sI S 41 (K 1) ∧ sI T 50 (K 0) = sI S 50 (K 0)) ∧ (sZ T (K 12) = sZ S (K 12) ∧ sZ T (K 13) = sZ S (K 13) ∧ sZ T (K 14) = sZ S (K 14)) ∧ m_nearMisses K T = m_nearMisses K S ∧ m_cells K T = m_cells K S
def WR (K : Nat → Nat) (S : PS) (wa : Nat) : Prop := (sA S wa 1 ≤ sI S 39 (K 1) ∧ sA S wa 3 ≤ nI (sZ S (K 13)) ∧ sA S wa 4 ≤ nI (sZ S (K 14)) ∧ sA S wa 5 ≤ nI (sZ S (K 12))) ∧ sA S wa 9 ≤ m_nearMisses K S ∧ sA S wa 10 ≤ sI S 40 (K 1) ∧ sA S wa 11 ≤ sI S 41 (K 1) ∧ sA S wa 14 ≤ sI S 50 (K 0)
def LB (E : EV) (K : Nat → Nat) (wa N : Nat) (S T : PS) : Prop := IV E K T N ∧ EQ K S T ∧ FR K T wa 15 ∧ WR K T wa
section LTP
variable {E : EV} {K : Nat → Nat} {S T u : PS} {N wa i : Nat}
theorem many_5 : m_many K S 5 = (nI (sZ S (K 12)), S) := by simp [m_many]
theorem many_11 : m_many K S 11 = (sI S 41 (K 1), S) := by simp [m_many]
theorem many_14 : m_many K S 14 = (sI S 50 (K 0), S) := by simp [m_many]
theorem EQ.rf : EQ K S S := ⟨⟨rfl, rfl, rfl, rfl⟩, ⟨rfl, rfl, rfl⟩, rfl, rfl⟩
theorem EQ.tr (h : EQ K S T) (g : EQ K T u) : EQ K S u :=
  ⟨⟨g.1.1.trans h.1.1, g.1.2.1.trans h.1.2.1, g.1.2.2.1.trans h.1.2.2.1, g.1.2.2.2.trans h.1.2.2.2⟩, ⟨g.2.1.1.trans h.2.1.1, g.2.1.2.1.trans h.2.1.2.1, g.2.1.2.2.trans h.2.1.2.2⟩, g.2.2.1.trans h.2.2.1, g.2.2.2.trans h.2.2.2⟩
theorem EQ.qs (h : IV E K S N) (gT : GW K T) (q : QS K S T) : EQ K S T := by
  have ob := h.obs T gT q
  have e1 := ob.1 1
  have e9 := ob.1 9
  have e10 := ob.1 10
  have e11 := ob.1 11
  have e14 := ob.1 14
  rw [many_1, many_1] at e1
  rw [many_9, many_9] at e9
  rw [many_10, many_10] at e10
  rw [many_11, many_11] at e11
  rw [many_14, many_14] at e14
  exact ⟨⟨e1, e10, e11, e14⟩, ⟨q.1.z (K 12), q.1.z (K 13), q.1.z (K 14)⟩, e9, ob.2.2.2.2.2.2.2.2⟩
theorem near_row {a : Nat} {v : Nat → Int32} : ∀ (r j : Nat) (n : Int32), m_nearMisses_lp K (uA S a v) r j n = m_nearMisses_lp K S r j n
  | 0, j, n => rfl
  | r + 1, j, n => near_row r (j + 1) _
theorem EQ.row {a : Nat} {v : Nat → Int32} : EQ K S (uA S a v) := ⟨⟨rfl, rfl, rfl, rfl⟩, ⟨rfl, rfl, rfl⟩, near_row _ _ _, rfl⟩
theorem WR.eq (h : WR K S wa) (e : EQ K S T) (hr : sA T wa = sA S wa) : WR K T wa := by
  unfold WR
  rw [hr, e.1.1, e.1.2.1, e.1.2.2.1, e.1.2.2.2, e.2.1.1, e.2.1.2.1, e.2.1.2.2, e.2.2.1]
  exact h
theorem LB.qs (h : LB E K wa N S T) (gT : GW K u) (q : QS K T u) : LB E K wa N S u := by
  have e := EQ.qs h.1 gT q
  have k := KA.qs q
  exact ⟨h.1.qs gT q, h.2.1.tr e, h.2.2.1.to k, h.2.2.2.eq e (h.2.2.1.row k)⟩
theorem wr_ok (h : WR K S wa) {w : Int32} (hw : w = 1 ∨ w = 3 ∨ w = 4 ∨ w = 5 ∨ w = 9 ∨ w = 10 ∨ w = 11 ∨ w = 14) : sA S wa w.toNatClampNeg ≤ (m_many K S w).1 := by
  obtain ⟨⟨h1, h3, h4, h5⟩, h9, h10, h11, h14⟩ := h
  rcases hw with rfl | rfl | rfl | rfl | rfl | rfl | rfl | rfl
  · rw [many_1]; exact h1
  · rw [many_3]; exact h3
  · rw [many_4]; exact h4
  · rw [many_5]; exact h5
  · rw [many_9]; exact h9
  · rw [many_10]; exact h10
  · rw [many_11]; exact h11
  · rw [many_14]; exact h14
theorem LB.row (h : LB E K wa N S T) {w v : Int32} (hw : w = nI w.toNatClampNeg) (hv : v = (m_many K T w).1) : LB E K wa N S (uA T wa (upd (sA T wa) w.toNatClampNeg v)) := by
  have k := iv_row (v := upd (sA T wa) w.toNatClampNeg v) h.1 h.2.2.1.2.2.1
  have e := EQ.row (K := K) (S := T) (a := wa) (v := upd (sA T wa) w.toNatClampNeg v)
  refine ⟨k.1, h.2.1.tr e, ⟨h.2.2.1.1, h.2.2.1.2.1, h.2.2.1.2.2⟩, ?_⟩
  have ro : ∀ x, sA (uA T wa (upd (sA T wa) w.toNatClampNeg v)) wa x = if x = w.toNatClampNeg then v else sA T wa x := fun x => by
    show va_up (sA T) wa (upd (sA T wa) w.toNatClampNeg v) wa x = _
    rw [va_up_self]
    rfl
  have go : ∀ (x : Nat) (B : Int32), sA T wa x ≤ B → (m_many K T (nI x)).1 = B → sA (uA T wa (upd (sA T wa) w.toNatClampNeg v)) wa x ≤ B := fun x B h1 h2 => by
    rw [ro]
    by_cases c : x = w.toNatClampNeg
    · rw [if_pos c, hv, hw, ← c, h2]; exact Int32.le_refl _
    · rw [if_neg c]; exact h1
  obtain ⟨⟨h1, h3, h4, h5⟩, h9, h10, h11, h14⟩ := h.2.2.2
  have n9 : m_nearMisses K (uA T wa (upd (sA T wa) w.toNatClampNeg v)) = m_nearMisses K T := e.2.2.1
  refine ⟨⟨go 1 _ h1 (by rw [show nI 1 = 1 from rfl, many_1]), go 3 _ h3 (by rw [show nI 3 = 3 from rfl, many_3]), go 4 _ h4 (by rw [show nI 4 = 4 from rfl, many_4]), go 5 _ h5 (by rw [show nI 5 = 5 from rfl, many_5])⟩, ?_, go 10 _ h10 (by rw [show nI 10 = 10 from rfl, many_10]), go 11 _ h11 (by rw [show nI 11 = 11 from rfl, many_11]), go 14 _ h14 (by rw [show nI 14 = 14 from rfl, many_14])⟩
  rw [n9]
  exact go 9 _ h9 (by rw [show nI 9 = 9 from rfl, many_9])
end LTP
