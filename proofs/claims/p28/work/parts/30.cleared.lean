/-! what stands after clear; a list may be added to after either -/
section CL
variable {S u : PS} {h x : Nat}
theorem Clr.size (A : Clr S h u) : sZ u h = 0 := by
  obtain ⟨o, -, rfl⟩ := A
  exact va_up_self _ _ _
theorem Clr.sizeN (A : Clr S h u) {b : Nat} (hb : b ≠ h) : sZ u b = sZ S b := by
  obtain ⟨o, -, rfl⟩ := A
  exact va_up_ne _ _ hb
theorem Clr.flds (A : Clr S h u) : sL u = sL S ∧ sK u = sK S ∧ sR u = sR S ∧ sM u = sM S ∧ sE u = sE S ∧ sN u = sN S ∧ sA u = sA S ∧ ∀ f a, f ≠ 51 → sI u f a = sI S f a := by
  obtain ⟨o, -, rfl⟩ := A
  exact ⟨rfl, rfl, rfl, rfl, rfl, rfl, rfl, fun f a hf => up2_f _ _ _ _ hf⟩
theorem Clr.elo (A : Clr S h u) {b t j : Nat} (ht : sE S b = some t) (hne : sE S h ≠ some t) : el u b j = el S b j := by
  obtain ⟨o, ho, rfl⟩ := A
  show (o ((sE S b).getD 0) j).getD 0 = (sO S ((sE S b).getD 0) j).getD 0
  rw [ht]
  show (o t j).getD 0 = (sO S t j).getD 0
  rw [ho t hne]
theorem Clr.lc {E : EV} (A : Clr S h u) (hL : LC E S h) : LC E u h := by
  have hz := A.size
  obtain ⟨f1, f2, f3, f4, f5, f6, f7, f8⟩ := A.flds
  refine ⟨⟨by rw [f1]; exact hL.1.1, by rw [f2]; exact hL.1.2⟩, by rw [hz]; exact Nat.zero_le _, ?_⟩
  rcases hL.2.2 with ⟨e1, e2⟩ | ⟨t, e1, ht, hn, hzn, hel⟩
  · exact Or.inl ⟨by rw [f5]; exact e1, hz⟩
  · exact Or.inr ⟨t, by rw [f5]; exact e1, ⟨by rw [f1]; exact ht.1, by rw [f2]; exact ht.2⟩, by rw [f6]; exact hn, by rw [hz]; exact Nat.zero_le _, fun i hi => absurd hi (by rw [hz]; exact Nat.not_lt_zero i)⟩
theorem Clr.lcN {E : EV} (A : Clr S h u) {b : Nat} (hb : b ≠ h) (hL : LC E S b) (hne : sE S b ≠ sE S h ∨ (sE S b = some (eDF E) ∧ sZ S b = 0)) : LC E u b := by
  have hz := A.sizeN hb
  obtain ⟨f1, f2, f3, f4, f5, f6, f7, f8⟩ := A.flds
  refine ⟨⟨by rw [f1]; exact hL.1.1, by rw [f2]; exact hL.1.2⟩, by rw [hz]; exact hL.2.1, ?_⟩
  rcases hL.2.2 with ⟨e1, e2⟩ | ⟨t, e1, ht, hn, hzn, hel⟩
  · exact Or.inl ⟨by rw [f5]; exact e1, by rw [hz]; exact e2⟩
  · rcases hne with hne | hne
    · obtain ⟨o, ho, hu⟩ := A
      have eo : sO u t = sO S t := by rw [hu]; exact ho t (fun e9 => hne (by rw [e1, e9]))
      exact Or.inr ⟨t, by rw [f5]; exact e1, ⟨by rw [f1]; exact ht.1, by rw [f2]; exact ht.2⟩, by rw [f6]; exact hn, by rw [hz, f6]; exact hzn, fun i hi y hy => by
        rw [hz] at hi
        rw [eo] at hy
        obtain ⟨y1, y2⟩ := hel i hi y hy
        exact ⟨by rw [f1]; exact y1, by rw [f2]; exact y2⟩⟩
    · exact Or.inl ⟨by rw [f5]; exact hne.1, by rw [hz]; exact hne.2⟩
end CL
