/-! a list may be added to again after add -/
theorem Add0.lc {E : EV} {S u : PS} {h x : Nat} (A : Add0 S h x u) (hL : LC E S h) (hz : sZ S h ≤ 13) (hx : x ∈ sL S) (hk : oka (sK S x)) : LC E u h := by
  have hs := A.size
  have ho := A.old hL.1.1
  refine ⟨⟨ho.1, ho.2.1.trans hL.1.2⟩, by rw [hs]; omega, Or.inr ?_⟩
  have hxo := A.old hx
  have hall : ∀ y, y ∈ sL S ∧ oka (sK S y) → y ∈ sL u ∧ oka (sK u y) := fun y hy => by
    obtain ⟨y1, y2, -⟩ := A.old hy.1
    exact ⟨y1, by rw [y2]; exact hy.2⟩
  have hold : ∀ i, i < sZ S h → ∀ y, sO S ((sE S h).getD 0) i = some y → y ∈ sL S ∧ oka (sK S y) := by
    intro i hi y hy
    rcases hL.2.2 with ⟨e1, e2⟩ | ⟨t, e1, ht, hn, hzn, hel⟩
    · omega
    · rw [e1] at hy
      exact hel i hi y hy
  obtain ⟨q, T, hT, rfl⟩ := A
  have f : sE T h = some q ∧ InK T q 10 ∧ (sN T q = 10 ∨ sN T q = 15) ∧ sZ S h < sN T q ∧ ∀ i, i < sZ S h → sO T q i = sO S ((sE S h).getD 0) i := by
    rcases hT with ⟨rfl, e, hlt, ht, hn⟩ | g
    · exact ⟨e, ht, hn, hlt, fun i hi => by rw [e]; rfl⟩
    · exact ⟨g.2.2.2.1.2, g.new, g.2.2.2.2.1.2.2, g.2.2.2.2.1.2.1, g.2.2.2.2.2.2⟩
  exact ⟨q, f.1, f.2.1, f.2.2.1, by rw [hs]; exact f.2.2.2.1, fun i hi y hy => hall y (by
    have hy2 : (va_up (sO T) q (va_up (sO T q) (sZ S h) (some x))) q i = some y := hy
    rw [va_up_self] at hy2
    by_cases e : i = sZ S h
    · rw [e, va_up_self] at hy2
      cases hy2
      exact ⟨hx, hk⟩
    · rw [va_up_ne _ _ e] at hy2
      have hi2 : i < sZ S h := by rw [hs] at hi; omega
      exact hold i hi2 y (by rw [← f.2.2.2.2 i hi2]; exact hy2))⟩
