/-! a yard just laid -/
section FST
variable {E : EV} {T u : PS} {a q1 q2 q3 q4 q5 q6 q7 q8 q9 q10 q11 q12 q13 q14 : Nat}
theorem kd_of (N : NS T (eDF E) a q1 q2 q3 q4 q5 q6 q7 q8 q9 q10 q11 q12 q13 q14) (hn : (sL T).Nodup) : KD (KK a q1 q2 q3 q4 q5 q6 q7 q8 q9 q10 q11 q12 q13 q14) ∧ (q4 ≠ q5 ∧ q4 ≠ q6 ∧ q4 ≠ q7 ∧ q5 ≠ q6 ∧ q5 ≠ q7 ∧ q6 ≠ q7) := by
  rw [N.L] at hn
  simp only [List.nodup_cons, List.mem_cons, List.not_mem_nil, or_false, not_or, List.mem_append] at hn
  refine ⟨⟨⟨?_, ?_, ?_, ?_⟩, ⟨?_, ?_, ?_⟩, ⟨?_, ?_⟩, ?_⟩, ?_, ?_, ?_, ?_, ?_, ?_⟩
  all_goals
    first
      | (show q3 ≠ q11; intro e; simp_all; done)
      | (show q3 ≠ q12; intro e; simp_all; done)
      | (show q3 ≠ q13; intro e; simp_all; done)
      | (show q3 ≠ q14; intro e; simp_all; done)
      | (show q11 ≠ q12; intro e; simp_all; done)
      | (show q11 ≠ q13; intro e; simp_all; done)
      | (show q11 ≠ q14; intro e; simp_all; done)
      | (show q12 ≠ q13; intro e; simp_all; done)
      | (show q12 ≠ q14; intro e; simp_all; done)
      | (show q13 ≠ q14; intro e; simp_all; done)
      | (intro e; simp_all; done)
theorem cells77 {r1 r2 : Nat} (h1 : r1 < 8) (h2 : r2 < 8) : nI (7 + r1) * nI (7 + r2) = nI ((7 + r1) * (7 + r2)) ∧ (nI (7 + r1)).toInt = 7 + r1 ∧ (nI (7 + r2)).toInt = 7 + r2 := by
  have : ∀ x y : Fin 8, nI (7 + x.1) * nI (7 + y.1) = nI ((7 + x.1) * (7 + y.1)) := by decide +kernel
  exact ⟨this ⟨r1, h1⟩ ⟨r2, h2⟩, by rw [nI_toInt (by omega)]; push_cast; rfl, by rw [nI_toInt (by omega)]; push_cast; rfl⟩
end FST
