/-! what stands after add: sizes, elements, fields -/
section AD
variable {S u : PS} {h x : Nat}
theorem Add0.size (A : Add0 S h x u) : sZ u h = sZ S h + 1 := by
  obtain ⟨q, T, -, rfl⟩ := A
  exact va_up_self _ _ _
theorem Add0.sizeN (A : Add0 S h x u) {b : Nat} (hb : b ≠ h) : sZ u b = sZ S b := by
  obtain ⟨q, T, hT, rfl⟩ := A
  refine (va_up_ne _ _ hb).trans ?_
  rcases hT with ⟨rfl, -, -⟩ | g
  · rfl
  · exact congrFun g.2.2.1.2.2.2.1 b
theorem Add0.flds (A : Add0 S h x u) : sI u = sI S ∧ sR u = sR S ∧ sM u = sM S ∧ sA u = sA S := by
  obtain ⟨q, T, hT, rfl⟩ := A
  rcases hT with ⟨rfl, -, -⟩ | g
  · exact ⟨rfl, rfl, rfl, rfl⟩
  · exact ⟨g.2.2.1.1, g.2.2.1.2.1, g.2.2.1.2.2.1, g.2.2.1.2.2.2.2⟩
theorem Add0.old (A : Add0 S h x u) {a : Nat} (ha : a ∈ sL S) : a ∈ sL u ∧ sK u a = sK S a ∧ sN u a = sN S a := by
  obtain ⟨q, T, hT, rfl⟩ := A
  rcases hT with ⟨rfl, -, -⟩ | g
  · exact ⟨ha, rfl, rfl⟩
  · obtain ⟨a1, a2, a3⟩ := g.old ha
    exact ⟨a1, a2, g.2.2.2.2.1.1 a a3⟩
theorem Add0.elx (A : Add0 S h x u) : el u h (sZ S h) = x := by
  obtain ⟨q, T, hT, rfl⟩ := A
  have e1 : sE T h = some q := by
    rcases hT with ⟨rfl, e, -⟩ | g
    · exact e
    · exact g.2.2.2.1.2
  show ((va_up (sO T) q (va_up (sO T q) (sZ S h) (some x))) ((sE T h).getD 0) (sZ S h)).getD 0 = x
  rw [e1]
  show ((va_up (sO T) q (va_up (sO T q) (sZ S h) (some x))) q (sZ S h)).getD 0 = x
  rw [va_up_self, va_up_self]
  rfl
theorem Add0.elj (A : Add0 S h x u) {j : Nat} (hj : j < sZ S h) : el u h j = el S h j := by
  obtain ⟨q, T, hT, rfl⟩ := A
  have e1 : sE T h = some q ∧ sO T q j = sO S ((sE S h).getD 0) j := by
    rcases hT with ⟨rfl, e, -⟩ | g
    · exact ⟨e, by rw [e]; rfl⟩
    · exact ⟨g.2.2.2.1.2, g.2.2.2.2.2.2 j hj⟩
  show ((va_up (sO T) q (va_up (sO T q) (sZ S h) (some x))) ((sE T h).getD 0) j).getD 0 = _
  rw [e1.1]
  show ((va_up (sO T) q (va_up (sO T q) (sZ S h) (some x))) q j).getD 0 = _
  rw [va_up_self, va_up_ne _ _ (Nat.ne_of_lt hj), e1.2]
  rfl
theorem Add0.elo (A : Add0 S h x u) {b t j : Nat} (hb : b ≠ h) (ht : sE S b = some t) (htL : t ∈ sL S) (hne : sE S h ≠ some t) : el u b j = el S b j := by
  obtain ⟨q, T, hT, rfl⟩ := A
  have e1 : sE T b = some t ∧ t ≠ q ∧ sO T t = sO S t := by
    rcases hT with ⟨rfl, e, -⟩ | g
    · exact ⟨ht, fun e2 => hne (by rw [e2]; exact e), rfl⟩
    · obtain ⟨a1, a2, a3⟩ := g.old htL
      exact ⟨(g.2.2.2.1.1 b hb).trans ht, a3, g.2.2.2.2.2.1 t a3⟩
  show ((va_up (sO T) q (va_up (sO T q) (sZ S h) (some x))) ((sE T b).getD 0) j).getD 0 = ((sO S) ((sE S b).getD 0) j).getD 0
  rw [e1.1, ht]
  show ((va_up (sO T) q (va_up (sO T q) (sZ S h) (some x))) t j).getD 0 = (sO S t j).getD 0
  rw [va_up_ne _ _ e1.2.1, e1.2.2]
end AD
