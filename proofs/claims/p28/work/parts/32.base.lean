/-! the world as the class's own constructor leaves it -/
def NS (T : PS) (d a q1 q2 q3 q4 q5 q6 q7 q8 q9 q10 q11 q12 q13 q14 : Nat) : Prop :=
  (sK T q1 = 5) ∧
  (sK T q2 = 1) ∧
  (sK T q3 = 9) ∧
  (sK T q4 = 8) ∧
  (sK T q5 = 8) ∧
  (sK T q6 = 8) ∧
  (sK T q7 = 8) ∧
  (sK T q8 = 4) ∧
  (sK T q9 = 0) ∧
  (sK T q10 = 3) ∧
  (sK T q11 = 9) ∧
  (sK T q12 = 9) ∧
  (sK T q13 = 9) ∧
  (sK T q14 = 9) ∧
  (sR T 48 a = some q1) ∧
  (sR T 49 a = some q10) ∧
  (sR T 32 q1 = some q2) ∧
  (sR T 33 q1 = some q4) ∧
  (sR T 34 q1 = some q5) ∧
  (sR T 35 q1 = some q6) ∧
  (sR T 36 q1 = some q7) ∧
  (sR T 37 q1 = some q8) ∧
  (sR T 38 q1 = some q9) ∧
  (sR T 16 q2 = some q3) ∧
  (sR T 23 q10 = some q1) ∧
  (sR T 24 q10 = some q9) ∧
  (sR T 25 q10 = some q11) ∧
  (sR T 26 q10 = some q12) ∧
  (sR T 27 q10 = some q13) ∧
  (sR T 28 q10 = some q14) ∧
  (sR T 0 q9 = some q2) ∧
  (sN T q3 = 196) ∧
  (sN T q11 = 196) ∧
  (sN T q12 = 72) ∧
  (sN T q13 = 4) ∧
  (sN T q14 = 4) ∧
  (sZ T q4 = 0) ∧
  (sE T q4 = some d) ∧
  (sZ T q5 = 0) ∧
  (sE T q5 = some d) ∧
  (sZ T q6 = 0) ∧
  (sE T q6 = some d) ∧
  (sZ T q7 = 0) ∧
  (sE T q7 = some d) ∧
  (sI T 39 q1 = 0) ∧
  (sI T 40 q1 = 0) ∧
  (sI T 41 q1 = 0) ∧
  (sI T 50 a = 0) ∧
  (sI T 9 q9 = 0) ∧
  (sI T 6 q9 = 2) ∧
  (sI T 5 q9 = 3) ∧
  (sI T 10 q9 = 1) ∧
  (sI T 29 q8 = 0) ∧
  (sI T 30 q8 = 0) ∧
  (sI T 31 q8 = 0) ∧
  (sM T 14 q9 = none) ∧
  (sK T a = 7) ∧ sL T = [a, q1, q2, q3, q4, q5, q6, q7, q8, q9, q10, q11, q12, q13, q14]
theorem ns_of {d : Nat} {S : PS} {a q1 q2 q3 q4 q5 q6 q7 q8 q9 q10 q11 q12 q13 q14 : Nat} (hS : sL S = [a]) (ha : InK S a 7) (hq1 : q1 ∉ sL S) (hq2 : q2 ∉ (sL S ++ [q1])) (hq3 : q3 ∉ ((sL S ++ [q1]) ++ [q2])) (hq4 : q4 ∉ (((sL S ++ [q1]) ++ [q2]) ++ [q3])) (hq5 : q5 ∉ ((((sL S ++ [q1]) ++ [q2]) ++ [q3]) ++ [q4])) (hq6 : q6 ∉ (((((sL S ++ [q1]) ++ [q2]) ++ [q3]) ++ [q4]) ++ [q5])) (hq7 : q7 ∉ ((((((sL S ++ [q1]) ++ [q2]) ++ [q3]) ++ [q4]) ++ [q5]) ++ [q6])) (hq8 : q8 ∉ (((((((sL S ++ [q1]) ++ [q2]) ++ [q3]) ++ [q4]) ++ [q5]) ++ [q6]) ++ [q7])) (hq9 : q9 ∉ ((((((((sL S ++ [q1]) ++ [q2]) ++ [q3]) ++ [q4]) ++ [q5]) ++ [q6]) ++ [q7]) ++ [q8])) (hq10 : q10 ∉ (((((((((sL S ++ [q1]) ++ [q2]) ++ [q3]) ++ [q4]) ++ [q5]) ++ [q6]) ++ [q7]) ++ [q8]) ++ [q9])) (hq11 : q11 ∉ ((((((((((sL S ++ [q1]) ++ [q2]) ++ [q3]) ++ [q4]) ++ [q5]) ++ [q6]) ++ [q7]) ++ [q8]) ++ [q9]) ++ [q10])) (hq12 : q12 ∉ (((((((((((sL S ++ [q1]) ++ [q2]) ++ [q3]) ++ [q4]) ++ [q5]) ++ [q6]) ++ [q7]) ++ [q8]) ++ [q9]) ++ [q10]) ++ [q11])) (hq13 : q13 ∉ ((((((((((((sL S ++ [q1]) ++ [q2]) ++ [q3]) ++ [q4]) ++ [q5]) ++ [q6]) ++ [q7]) ++ [q8]) ++ [q9]) ++ [q10]) ++ [q11]) ++ [q12])) (hq14 : q14 ∉ (((((((((((((sL S ++ [q1]) ++ [q2]) ++ [q3]) ++ [q4]) ++ [q5]) ++ [q6]) ++ [q7]) ++ [q8]) ++ [q9]) ++ [q10]) ++ [q11]) ++ [q12]) ++ [q13])) : NS (n_Slewyard d S a q1 q2 q3 q4 q5 q6 q7 q8 q9 q10 q11 q12 q13 q14) d a q1 q2 q3 q4 q5 q6 q7 q8 q9 q10 q11 q12 q13 q14 := by
  have n_a_q1 : a ≠ q1 := nel (ha.1) hq1
  have n_a_q2 : a ≠ q2 := nel (List.mem_append_left _ (ha.1)) hq2
  have n_q1_q2 : q1 ≠ q2 := nel (List.mem_append_right _ (List.mem_singleton.mpr rfl)) hq2
  have n_a_q3 : a ≠ q3 := nel (List.mem_append_left _ (List.mem_append_left _ (ha.1))) hq3
  have n_q1_q3 : q1 ≠ q3 := nel (List.mem_append_left _ (List.mem_append_right _ (List.mem_singleton.mpr rfl))) hq3
  have n_q2_q3 : q2 ≠ q3 := nel (List.mem_append_right _ (List.mem_singleton.mpr rfl)) hq3
  have n_a_q4 : a ≠ q4 := nel (List.mem_append_left _ (List.mem_append_left _ (List.mem_append_left _ (ha.1)))) hq4
  have n_q1_q4 : q1 ≠ q4 := nel (List.mem_append_left _ (List.mem_append_left _ (List.mem_append_right _ (List.mem_singleton.mpr rfl)))) hq4
  have n_q2_q4 : q2 ≠ q4 := nel (List.mem_append_left _ (List.mem_append_right _ (List.mem_singleton.mpr rfl))) hq4
  have n_q3_q4 : q3 ≠ q4 := nel (List.mem_append_right _ (List.mem_singleton.mpr rfl)) hq4
  have n_a_q5 : a ≠ q5 := nel (List.mem_append_left _ (List.mem_append_left _ (List.mem_append_left _ (List.mem_append_left _ (ha.1))))) hq5
  have n_q1_q5 : q1 ≠ q5 := nel (List.mem_append_left _ (List.mem_append_left _ (List.mem_append_left _ (List.mem_append_right _ (List.mem_singleton.mpr rfl))))) hq5
  have n_q2_q5 : q2 ≠ q5 := nel (List.mem_append_left _ (List.mem_append_left _ (List.mem_append_right _ (List.mem_singleton.mpr rfl)))) hq5
  have n_q3_q5 : q3 ≠ q5 := nel (List.mem_append_left _ (List.mem_append_right _ (List.mem_singleton.mpr rfl))) hq5
  have n_q4_q5 : q4 ≠ q5 := nel (List.mem_append_right _ (List.mem_singleton.mpr rfl)) hq5
  have n_a_q6 : a ≠ q6 := nel (List.mem_append_left _ (List.mem_append_left _ (List.mem_append_left _ (List.mem_append_left _ (List.mem_append_left _ (ha.1)))))) hq6
  have n_q1_q6 : q1 ≠ q6 := nel (List.mem_append_left _ (List.mem_append_left _ (List.mem_append_left _ (List.mem_append_left _ (List.mem_append_right _ (List.mem_singleton.mpr rfl)))))) hq6
  have n_q2_q6 : q2 ≠ q6 := nel (List.mem_append_left _ (List.mem_append_left _ (List.mem_append_left _ (List.mem_append_right _ (List.mem_singleton.mpr rfl))))) hq6
  have n_q3_q6 : q3 ≠ q6 := nel (List.mem_append_left _ (List.mem_append_left _ (List.mem_append_right _ (List.mem_singleton.mpr rfl)))) hq6
  have n_q4_q6 : q4 ≠ q6 := nel (List.mem_append_left _ (List.mem_append_right _ (List.mem_singleton.mpr rfl))) hq6
  have n_q5_q6 : q5 ≠ q6 := nel (List.mem_append_right _ (List.mem_singleton.mpr rfl)) hq6
  have n_a_q7 : a ≠ q7 := nel (List.mem_append_left _ (List.mem_append_left _ (List.mem_append_left _ (List.mem_append_left _ (List.mem_append_left _ (List.mem_append_left _ (ha.1))))))) hq7
  have n_q1_q7 : q1 ≠ q7 := nel (List.mem_append_left _ (List.mem_append_left _ (List.mem_append_left _ (List.mem_append_left _ (List.mem_append_left _ (List.mem_append_right _ (List.mem_singleton.mpr rfl))))))) hq7
  have n_q2_q7 : q2 ≠ q7 := nel (List.mem_append_left _ (List.mem_append_left _ (List.mem_append_left _ (List.mem_append_left _ (List.mem_append_right _ (List.mem_singleton.mpr rfl)))))) hq7
  have n_q3_q7 : q3 ≠ q7 := nel (List.mem_append_left _ (List.mem_append_left _ (List.mem_append_left _ (List.mem_append_right _ (List.mem_singleton.mpr rfl))))) hq7
  have n_q4_q7 : q4 ≠ q7 := nel (List.mem_append_left _ (List.mem_append_left _ (List.mem_append_right _ (List.mem_singleton.mpr rfl)))) hq7
  have n_q5_q7 : q5 ≠ q7 := nel (List.mem_append_left _ (List.mem_append_right _ (List.mem_singleton.mpr rfl))) hq7
  have n_q6_q7 : q6 ≠ q7 := nel (List.mem_append_right _ (List.mem_singleton.mpr rfl)) hq7
  have n_a_q8 : a ≠ q8 := nel (List.mem_append_left _ (List.mem_append_left _ (List.mem_append_left _ (List.mem_append_left _ (List.mem_append_left _ (List.mem_append_left _ (List.mem_append_left _ (ha.1)))))))) hq8
  have n_q1_q8 : q1 ≠ q8 := nel (List.mem_append_left _ (List.mem_append_left _ (List.mem_append_left _ (List.mem_append_left _ (List.mem_append_left _ (List.mem_append_left _ (List.mem_append_right _ (List.mem_singleton.mpr rfl)))))))) hq8
  have n_q2_q8 : q2 ≠ q8 := nel (List.mem_append_left _ (List.mem_append_left _ (List.mem_append_left _ (List.mem_append_left _ (List.mem_append_left _ (List.mem_append_right _ (List.mem_singleton.mpr rfl))))))) hq8
  have n_q3_q8 : q3 ≠ q8 := nel (List.mem_append_left _ (List.mem_append_left _ (List.mem_append_left _ (List.mem_append_left _ (List.mem_append_right _ (List.mem_singleton.mpr rfl)))))) hq8
  have n_q4_q8 : q4 ≠ q8 := nel (List.mem_append_left _ (List.mem_append_left _ (List.mem_append_left _ (List.mem_append_right _ (List.mem_singleton.mpr rfl))))) hq8
  have n_q5_q8 : q5 ≠ q8 := nel (List.mem_append_left _ (List.mem_append_left _ (List.mem_append_right _ (List.mem_singleton.mpr rfl)))) hq8
  have n_q6_q8 : q6 ≠ q8 := nel (List.mem_append_left _ (List.mem_append_right _ (List.mem_singleton.mpr rfl))) hq8
  have n_q7_q8 : q7 ≠ q8 := nel (List.mem_append_right _ (List.mem_singleton.mpr rfl)) hq8
  have n_a_q9 : a ≠ q9 := nel (List.mem_append_left _ (List.mem_append_left _ (List.mem_append_left _ (List.mem_append_left _ (List.mem_append_left _ (List.mem_append_left _ (List.mem_append_left _ (List.mem_append_left _ (ha.1))))))))) hq9
  have n_q1_q9 : q1 ≠ q9 := nel (List.mem_append_left _ (List.mem_append_left _ (List.mem_append_left _ (List.mem_append_left _ (List.mem_append_left _ (List.mem_append_left _ (List.mem_append_left _ (List.mem_append_right _ (List.mem_singleton.mpr rfl))))))))) hq9
  have n_q2_q9 : q2 ≠ q9 := nel (List.mem_append_left _ (List.mem_append_left _ (List.mem_append_left _ (List.mem_append_left _ (List.mem_append_left _ (List.mem_append_left _ (List.mem_append_right _ (List.mem_singleton.mpr rfl)))))))) hq9
  have n_q3_q9 : q3 ≠ q9 := nel (List.mem_append_left _ (List.mem_append_left _ (List.mem_append_left _ (List.mem_append_left _ (List.mem_append_left _ (List.mem_append_right _ (List.mem_singleton.mpr rfl))))))) hq9
  have n_q4_q9 : q4 ≠ q9 := nel (List.mem_append_left _ (List.mem_append_left _ (List.mem_append_left _ (List.mem_append_left _ (List.mem_append_right _ (List.mem_singleton.mpr rfl)))))) hq9
  have n_q5_q9 : q5 ≠ q9 := nel (List.mem_append_left _ (List.mem_append_left _ (List.mem_append_left _ (List.mem_append_right _ (List.mem_singleton.mpr rfl))))) hq9
  have n_q6_q9 : q6 ≠ q9 := nel (List.mem_append_left _ (List.mem_append_left _ (List.mem_append_right _ (List.mem_singleton.mpr rfl)))) hq9
  have n_q7_q9 : q7 ≠ q9 := nel (List.mem_append_left _ (List.mem_append_right _ (List.mem_singleton.mpr rfl))) hq9
  have n_q8_q9 : q8 ≠ q9 := nel (List.mem_append_right _ (List.mem_singleton.mpr rfl)) hq9
  have n_a_q10 : a ≠ q10 := nel (List.mem_append_left _ (List.mem_append_left _ (List.mem_append_left _ (List.mem_append_left _ (List.mem_append_left _ (List.mem_append_left _ (List.mem_append_left _ (List.mem_append_left _ (List.mem_append_left _ (ha.1)))))))))) hq10
  have n_q1_q10 : q1 ≠ q10 := nel (List.mem_append_left _ (List.mem_append_left _ (List.mem_append_left _ (List.mem_append_left _ (List.mem_append_left _ (List.mem_append_left _ (List.mem_append_left _ (List.mem_append_left _ (List.mem_append_right _ (List.mem_singleton.mpr rfl)))))))))) hq10
  have n_q2_q10 : q2 ≠ q10 := nel (List.mem_append_left _ (List.mem_append_left _ (List.mem_append_left _ (List.mem_append_left _ (List.mem_append_left _ (List.mem_append_left _ (List.mem_append_left _ (List.mem_append_right _ (List.mem_singleton.mpr rfl))))))))) hq10
  have n_q3_q10 : q3 ≠ q10 := nel (List.mem_append_left _ (List.mem_append_left _ (List.mem_append_left _ (List.mem_append_left _ (List.mem_append_left _ (List.mem_append_left _ (List.mem_append_right _ (List.mem_singleton.mpr rfl)))))))) hq10
  have n_q4_q10 : q4 ≠ q10 := nel (List.mem_append_left _ (List.mem_append_left _ (List.mem_append_left _ (List.mem_append_left _ (List.mem_append_left _ (List.mem_append_right _ (List.mem_singleton.mpr rfl))))))) hq10
  have n_q5_q10 : q5 ≠ q10 := nel (List.mem_append_left _ (List.mem_append_left _ (List.mem_append_left _ (List.mem_append_left _ (List.mem_append_right _ (List.mem_singleton.mpr rfl)))))) hq10
  have n_q6_q10 : q6 ≠ q10 := nel (List.mem_append_left _ (List.mem_append_left _ (List.mem_append_left _ (List.mem_append_right _ (List.mem_singleton.mpr rfl))))) hq10
  have n_q7_q10 : q7 ≠ q10 := nel (List.mem_append_left _ (List.mem_append_left _ (List.mem_append_right _ (List.mem_singleton.mpr rfl)))) hq10
  have n_q8_q10 : q8 ≠ q10 := nel (List.mem_append_left _ (List.mem_append_right _ (List.mem_singleton.mpr rfl))) hq10
  have n_q9_q10 : q9 ≠ q10 := nel (List.mem_append_right _ (List.mem_singleton.mpr rfl)) hq10
  have n_a_q11 : a ≠ q11 := nel (List.mem_append_left _ (List.mem_append_left _ (List.mem_append_left _ (List.mem_append_left _ (List.mem_append_left _ (List.mem_append_left _ (List.mem_append_left _ (List.mem_append_left _ (List.mem_append_left _ (List.mem_append_left _ (ha.1))))))))))) hq11
  have n_q1_q11 : q1 ≠ q11 := nel (List.mem_append_left _ (List.mem_append_left _ (List.mem_append_left _ (List.mem_append_left _ (List.mem_append_left _ (List.mem_append_left _ (List.mem_append_left _ (List.mem_append_left _ (List.mem_append_left _ (List.mem_append_right _ (List.mem_singleton.mpr rfl))))))))))) hq11
  have n_q2_q11 : q2 ≠ q11 := nel (List.mem_append_left _ (List.mem_append_left _ (List.mem_append_left _ (List.mem_append_left _ (List.mem_append_left _ (List.mem_append_left _ (List.mem_append_left _ (List.mem_append_left _ (List.mem_append_right _ (List.mem_singleton.mpr rfl)))))))))) hq11
  have n_q3_q11 : q3 ≠ q11 := nel (List.mem_append_left _ (List.mem_append_left _ (List.mem_append_left _ (List.mem_append_left _ (List.mem_append_left _ (List.mem_append_left _ (List.mem_append_left _ (List.mem_append_right _ (List.mem_singleton.mpr rfl))))))))) hq11
  have n_q4_q11 : q4 ≠ q11 := nel (List.mem_append_left _ (List.mem_append_left _ (List.mem_append_left _ (List.mem_append_left _ (List.mem_append_left _ (List.mem_append_left _ (List.mem_append_right _ (List.mem_singleton.mpr rfl)))))))) hq11
  have n_q5_q11 : q5 ≠ q11 := nel (List.mem_append_left _ (List.mem_append_left _ (List.mem_append_left _ (List.mem_append_left _ (List.mem_append_left _ (List.mem_append_right _ (List.mem_singleton.mpr rfl))))))) hq11
  have n_q6_q11 : q6 ≠ q11 := nel (List.mem_append_left _ (List.mem_append_left _ (List.mem_append_left _ (List.mem_append_left _ (List.mem_append_right _ (List.mem_singleton.mpr rfl)))))) hq11
  have n_q7_q11 : q7 ≠ q11 := nel (List.mem_append_left _ (List.mem_append_left _ (List.mem_append_left _ (List.mem_append_right _ (List.mem_singleton.mpr rfl))))) hq11
  have n_q8_q11 : q8 ≠ q11 := nel (List.mem_append_left _ (List.mem_append_left _ (List.mem_append_right _ (List.mem_singleton.mpr rfl)))) hq11
  have n_q9_q11 : q9 ≠ q11 := nel (List.mem_append_left _ (List.mem_append_right _ (List.mem_singleton.mpr rfl))) hq11
  have n_q10_q11 : q10 ≠ q11 := nel (List.mem_append_right _ (List.mem_singleton.mpr rfl)) hq11
  have n_a_q12 : a ≠ q12 := nel (List.mem_append_left _ (List.mem_append_left _ (List.mem_append_left _ (List.mem_append_left _ (List.mem_append_left _ (List.mem_append_left _ (List.mem_append_left _ (List.mem_append_left _ (List.mem_append_left _ (List.mem_append_left _ (List.mem_append_left _ (ha.1)))))))))))) hq12
  have n_q1_q12 : q1 ≠ q12 := nel (List.mem_append_left _ (List.mem_append_left _ (List.mem_append_left _ (List.mem_append_left _ (List.mem_append_left _ (List.mem_append_left _ (List.mem_append_left _ (List.mem_append_left _ (List.mem_append_left _ (List.mem_append_left _ (List.mem_append_right _ (List.mem_singleton.mpr rfl)))))))))))) hq12
  have n_q2_q12 : q2 ≠ q12 := nel (List.mem_append_left _ (List.mem_append_left _ (List.mem_append_left _ (List.mem_append_left _ (List.mem_append_left _ (List.mem_append_left _ (List.mem_append_left _ (List.mem_append_left _ (List.mem_append_left _ (List.mem_append_right _ (List.mem_singleton.mpr rfl))))))))))) hq12
  have n_q3_q12 : q3 ≠ q12 := nel (List.mem_append_left _ (List.mem_append_left _ (List.mem_append_left _ (List.mem_append_left _ (List.mem_append_left _ (List.mem_append_left _ (List.mem_append_left _ (List.mem_append_left _ (List.mem_append_right _ (List.mem_singleton.mpr rfl)))))))))) hq12
  have n_q4_q12 : q4 ≠ q12 := nel (List.mem_append_left _ (List.mem_append_left _ (List.mem_append_left _ (List.mem_append_left _ (List.mem_append_left _ (List.mem_append_left _ (List.mem_append_left _ (List.mem_append_right _ (List.mem_singleton.mpr rfl))))))))) hq12
  have n_q5_q12 : q5 ≠ q12 := nel (List.mem_append_left _ (List.mem_append_left _ (List.mem_append_left _ (List.mem_append_left _ (List.mem_append_left _ (List.mem_append_left _ (List.mem_append_right _ (List.mem_singleton.mpr rfl)))))))) hq12
  have n_q6_q12 : q6 ≠ q12 := nel (List.mem_append_left _ (List.mem_append_left _ (List.mem_append_left _ (List.mem_append_left _ (List.mem_append_left _ (List.mem_append_right _ (List.mem_singleton.mpr rfl))))))) hq12
  have n_q7_q12 : q7 ≠ q12 := nel (List.mem_append_left _ (List.mem_append_left _ (List.mem_append_left _ (List.mem_append_left _ (List.mem_append_right _ (List.mem_singleton.mpr rfl)))))) hq12
  have n_q8_q12 : q8 ≠ q12 := nel (List.mem_append_left _ (List.mem_append_left _ (List.mem_append_left _ (List.mem_append_right _ (List.mem_singleton.mpr rfl))))) hq12
  have n_q9_q12 : q9 ≠ q12 := nel (List.mem_append_left _ (List.mem_append_left _ (List.mem_append_right _ (List.mem_singleton.mpr rfl)))) hq12
  have n_q10_q12 : q10 ≠ q12 := nel (List.mem_append_left _ (List.mem_append_right _ (List.mem_singleton.mpr rfl))) hq12
  have n_q11_q12 : q11 ≠ q12 := nel (List.mem_append_right _ (List.mem_singleton.mpr rfl)) hq12
  have n_a_q13 : a ≠ q13 := nel (List.mem_append_left _ (List.mem_append_left _ (List.mem_append_left _ (List.mem_append_left _ (List.mem_append_left _ (List.mem_append_left _ (List.mem_append_left _ (List.mem_append_left _ (List.mem_append_left _ (List.mem_append_left _ (List.mem_append_left _ (List.mem_append_left _ (ha.1))))))))))))) hq13
  have n_q1_q13 : q1 ≠ q13 := nel (List.mem_append_left _ (List.mem_append_left _ (List.mem_append_left _ (List.mem_append_left _ (List.mem_append_left _ (List.mem_append_left _ (List.mem_append_left _ (List.mem_append_left _ (List.mem_append_left _ (List.mem_append_left _ (List.mem_append_left _ (List.mem_append_right _ (List.mem_singleton.mpr rfl))))))))))))) hq13
  have n_q2_q13 : q2 ≠ q13 := nel (List.mem_append_left _ (List.mem_append_left _ (List.mem_append_left _ (List.mem_append_left _ (List.mem_append_left _ (List.mem_append_left _ (List.mem_append_left _ (List.mem_append_left _ (List.mem_append_left _ (List.mem_append_left _ (List.mem_append_right _ (List.mem_singleton.mpr rfl)))))))))))) hq13
  have n_q3_q13 : q3 ≠ q13 := nel (List.mem_append_left _ (List.mem_append_left _ (List.mem_append_left _ (List.mem_append_left _ (List.mem_append_left _ (List.mem_append_left _ (List.mem_append_left _ (List.mem_append_left _ (List.mem_append_left _ (List.mem_append_right _ (List.mem_singleton.mpr rfl))))))))))) hq13
  have n_q4_q13 : q4 ≠ q13 := nel (List.mem_append_left _ (List.mem_append_left _ (List.mem_append_left _ (List.mem_append_left _ (List.mem_append_left _ (List.mem_append_left _ (List.mem_append_left _ (List.mem_append_left _ (List.mem_append_right _ (List.mem_singleton.mpr rfl)))))))))) hq13
  have n_q5_q13 : q5 ≠ q13 := nel (List.mem_append_left _ (List.mem_append_left _ (List.mem_append_left _ (List.mem_append_left _ (List.mem_append_left _ (List.mem_append_left _ (List.mem_append_left _ (List.mem_append_right _ (List.mem_singleton.mpr rfl))))))))) hq13
  have n_q6_q13 : q6 ≠ q13 := nel (List.mem_append_left _ (List.mem_append_left _ (List.mem_append_left _ (List.mem_append_left _ (List.mem_append_left _ (List.mem_append_left _ (List.mem_append_right _ (List.mem_singleton.mpr rfl)))))))) hq13
  have n_q7_q13 : q7 ≠ q13 := nel (List.mem_append_left _ (List.mem_append_left _ (List.mem_append_left _ (List.mem_append_left _ (List.mem_append_left _ (List.mem_append_right _ (List.mem_singleton.mpr rfl))))))) hq13
  have n_q8_q13 : q8 ≠ q13 := nel (List.mem_append_left _ (List.mem_append_left _ (List.mem_append_left _ (List.mem_append_left _ (List.mem_append_right _ (List.mem_singleton.mpr rfl)))))) hq13
  have n_q9_q13 : q9 ≠ q13 := nel (List.mem_append_left _ (List.mem_append_left _ (List.mem_append_left _ (List.mem_append_right _ (List.mem_singleton.mpr rfl))))) hq13
  have n_q10_q13 : q10 ≠ q13 := nel (List.mem_append_left _ (List.mem_append_left _ (List.mem_append_right _ (List.mem_singleton.mpr rfl)))) hq13
  have n_q11_q13 : q11 ≠ q13 := nel (List.mem_append_left _ (List.mem_append_right _ (List.mem_singleton.mpr rfl))) hq13
  have n_q12_q13 : q12 ≠ q13 := nel (List.mem_append_right _ (List.mem_singleton.mpr rfl)) hq13
  have n_a_q14 : a ≠ q14 := nel (List.mem_append_left _ (List.mem_append_left _ (List.mem_append_left _ (List.mem_append_left _ (List.mem_append_left _ (List.mem_append_left _ (List.mem_append_left _ (List.mem_append_left _ (List.mem_append_left _ (List.mem_append_left _ (List.mem_append_left _ (List.mem_append_left _ (List.mem_append_left _ (ha.1)))))))))))))) hq14
  have n_q1_q14 : q1 ≠ q14 := nel (List.mem_append_left _ (List.mem_append_left _ (List.mem_append_left _ (List.mem_append_left _ (List.mem_append_left _ (List.mem_append_left _ (List.mem_append_left _ (List.mem_append_left _ (List.mem_append_left _ (List.mem_append_left _ (List.mem_append_left _ (List.mem_append_left _ (List.mem_append_right _ (List.mem_singleton.mpr rfl)))))))))))))) hq14
  have n_q2_q14 : q2 ≠ q14 := nel (List.mem_append_left _ (List.mem_append_left _ (List.mem_append_left _ (List.mem_append_left _ (List.mem_append_left _ (List.mem_append_left _ (List.mem_append_left _ (List.mem_append_left _ (List.mem_append_left _ (List.mem_append_left _ (List.mem_append_left _ (List.mem_append_right _ (List.mem_singleton.mpr rfl))))))))))))) hq14
  have n_q3_q14 : q3 ≠ q14 := nel (List.mem_append_left _ (List.mem_append_left _ (List.mem_append_left _ (List.mem_append_left _ (List.mem_append_left _ (List.mem_append_left _ (List.mem_append_left _ (List.mem_append_left _ (List.mem_append_left _ (List.mem_append_left _ (List.mem_append_right _ (List.mem_singleton.mpr rfl)))))))))))) hq14
  have n_q4_q14 : q4 ≠ q14 := nel (List.mem_append_left _ (List.mem_append_left _ (List.mem_append_left _ (List.mem_append_left _ (List.mem_append_left _ (List.mem_append_left _ (List.mem_append_left _ (List.mem_append_left _ (List.mem_append_left _ (List.mem_append_right _ (List.mem_singleton.mpr rfl))))))))))) hq14
  have n_q5_q14 : q5 ≠ q14 := nel (List.mem_append_left _ (List.mem_append_left _ (List.mem_append_left _ (List.mem_append_left _ (List.mem_append_left _ (List.mem_append_left _ (List.mem_append_left _ (List.mem_append_left _ (List.mem_append_right _ (List.mem_singleton.mpr rfl)))))))))) hq14
  have n_q6_q14 : q6 ≠ q14 := nel (List.mem_append_left _ (List.mem_append_left _ (List.mem_append_left _ (List.mem_append_left _ (List.mem_append_left _ (List.mem_append_left _ (List.mem_append_left _ (List.mem_append_right _ (List.mem_singleton.mpr rfl))))))))) hq14
  have n_q7_q14 : q7 ≠ q14 := nel (List.mem_append_left _ (List.mem_append_left _ (List.mem_append_left _ (List.mem_append_left _ (List.mem_append_left _ (List.mem_append_left _ (List.mem_append_right _ (List.mem_singleton.mpr rfl)))))))) hq14
  have n_q8_q14 : q8 ≠ q14 := nel (List.mem_append_left _ (List.mem_append_left _ (List.mem_append_left _ (List.mem_append_left _ (List.mem_append_left _ (List.mem_append_right _ (List.mem_singleton.mpr rfl))))))) hq14
  have n_q9_q14 : q9 ≠ q14 := nel (List.mem_append_left _ (List.mem_append_left _ (List.mem_append_left _ (List.mem_append_left _ (List.mem_append_right _ (List.mem_singleton.mpr rfl)))))) hq14
  have n_q10_q14 : q10 ≠ q14 := nel (List.mem_append_left _ (List.mem_append_left _ (List.mem_append_left _ (List.mem_append_right _ (List.mem_singleton.mpr rfl))))) hq14
  have n_q11_q14 : q11 ≠ q14 := nel (List.mem_append_left _ (List.mem_append_left _ (List.mem_append_right _ (List.mem_singleton.mpr rfl)))) hq14
  have n_q12_q14 : q12 ≠ q14 := nel (List.mem_append_left _ (List.mem_append_right _ (List.mem_singleton.mpr rfl))) hq14
  have n_q13_q14 : q13 ≠ q14 := nel (List.mem_append_right _ (List.mem_singleton.mpr rfl)) hq14
  generalize hT : n_Slewyard d S a q1 q2 q3 q4 q5 q6 q7 q8 q9 q10 q11 q12 q13 q14 = T
  refine ⟨?_, ?_, ?_, ?_, ?_, ?_, ?_, ?_, ?_, ?_, ?_, ?_, ?_, ?_, ?_, ?_, ?_, ?_, ?_, ?_, ?_, ?_, ?_, ?_, ?_, ?_, ?_, ?_, ?_, ?_, ?_, ?_, ?_, ?_, ?_, ?_, ?_, ?_, ?_, ?_, ?_, ?_, ?_, ?_, ?_, ?_, ?_, ?_, ?_, ?_, ?_, ?_, ?_, ?_, ?_, ?_, ?_, ?_⟩
  · rw [← hT]; exact (va_up_ne _ _ n_q1_q14).trans ((va_up_ne _ _ n_q1_q13).trans ((va_up_ne _ _ n_q1_q12).trans ((va_up_ne _ _ n_q1_q11).trans ((va_up_ne _ _ n_q1_q10).trans ((va_up_ne _ _ n_q1_q9).trans ((va_up_ne _ _ n_q1_q8).trans ((va_up_ne _ _ n_q1_q7).trans ((va_up_ne _ _ n_q1_q6).trans ((va_up_ne _ _ n_q1_q5).trans ((va_up_ne _ _ n_q1_q4).trans ((va_up_ne _ _ n_q1_q3).trans ((va_up_ne _ _ n_q1_q2).trans (va_up_self _ _ _)))))))))))))
  · rw [← hT]; exact (va_up_ne _ _ n_q2_q14).trans ((va_up_ne _ _ n_q2_q13).trans ((va_up_ne _ _ n_q2_q12).trans ((va_up_ne _ _ n_q2_q11).trans ((va_up_ne _ _ n_q2_q10).trans ((va_up_ne _ _ n_q2_q9).trans ((va_up_ne _ _ n_q2_q8).trans ((va_up_ne _ _ n_q2_q7).trans ((va_up_ne _ _ n_q2_q6).trans ((va_up_ne _ _ n_q2_q5).trans ((va_up_ne _ _ n_q2_q4).trans ((va_up_ne _ _ n_q2_q3).trans (va_up_self _ _ _))))))))))))
  · rw [← hT]; exact (va_up_ne _ _ n_q3_q14).trans ((va_up_ne _ _ n_q3_q13).trans ((va_up_ne _ _ n_q3_q12).trans ((va_up_ne _ _ n_q3_q11).trans ((va_up_ne _ _ n_q3_q10).trans ((va_up_ne _ _ n_q3_q9).trans ((va_up_ne _ _ n_q3_q8).trans ((va_up_ne _ _ n_q3_q7).trans ((va_up_ne _ _ n_q3_q6).trans ((va_up_ne _ _ n_q3_q5).trans ((va_up_ne _ _ n_q3_q4).trans (va_up_self _ _ _)))))))))))
  · rw [← hT]; exact (va_up_ne _ _ n_q4_q14).trans ((va_up_ne _ _ n_q4_q13).trans ((va_up_ne _ _ n_q4_q12).trans ((va_up_ne _ _ n_q4_q11).trans ((va_up_ne _ _ n_q4_q10).trans ((va_up_ne _ _ n_q4_q9).trans ((va_up_ne _ _ n_q4_q8).trans ((va_up_ne _ _ n_q4_q7).trans ((va_up_ne _ _ n_q4_q6).trans ((va_up_ne _ _ n_q4_q5).trans (va_up_self _ _ _))))))))))
  · rw [← hT]; exact (va_up_ne _ _ n_q5_q14).trans ((va_up_ne _ _ n_q5_q13).trans ((va_up_ne _ _ n_q5_q12).trans ((va_up_ne _ _ n_q5_q11).trans ((va_up_ne _ _ n_q5_q10).trans ((va_up_ne _ _ n_q5_q9).trans ((va_up_ne _ _ n_q5_q8).trans ((va_up_ne _ _ n_q5_q7).trans ((va_up_ne _ _ n_q5_q6).trans (va_up_self _ _ _)))))))))
  · rw [← hT]; exact (va_up_ne _ _ n_q6_q14).trans ((va_up_ne _ _ n_q6_q13).trans ((va_up_ne _ _ n_q6_q12).trans ((va_up_ne _ _ n_q6_q11).trans ((va_up_ne _ _ n_q6_q10).trans ((va_up_ne _ _ n_q6_q9).trans ((va_up_ne _ _ n_q6_q8).trans ((va_up_ne _ _ n_q6_q7).trans (va_up_self _ _ _))))))))
  · rw [← hT]; exact (va_up_ne _ _ n_q7_q14).trans ((va_up_ne _ _ n_q7_q13).trans ((va_up_ne _ _ n_q7_q12).trans ((va_up_ne _ _ n_q7_q11).trans ((va_up_ne _ _ n_q7_q10).trans ((va_up_ne _ _ n_q7_q9).trans ((va_up_ne _ _ n_q7_q8).trans (va_up_self _ _ _)))))))
  · rw [← hT]; exact (va_up_ne _ _ n_q8_q14).trans ((va_up_ne _ _ n_q8_q13).trans ((va_up_ne _ _ n_q8_q12).trans ((va_up_ne _ _ n_q8_q11).trans ((va_up_ne _ _ n_q8_q10).trans ((va_up_ne _ _ n_q8_q9).trans (va_up_self _ _ _))))))
  · rw [← hT]; exact (va_up_ne _ _ n_q9_q14).trans ((va_up_ne _ _ n_q9_q13).trans ((va_up_ne _ _ n_q9_q12).trans ((va_up_ne _ _ n_q9_q11).trans ((va_up_ne _ _ n_q9_q10).trans (va_up_self _ _ _)))))
  · rw [← hT]; exact (va_up_ne _ _ n_q10_q14).trans ((va_up_ne _ _ n_q10_q13).trans ((va_up_ne _ _ n_q10_q12).trans ((va_up_ne _ _ n_q10_q11).trans (va_up_self _ _ _))))
  · rw [← hT]; exact (va_up_ne _ _ n_q11_q14).trans ((va_up_ne _ _ n_q11_q13).trans ((va_up_ne _ _ n_q11_q12).trans (va_up_self _ _ _)))
  · rw [← hT]; exact (va_up_ne _ _ n_q12_q14).trans ((va_up_ne _ _ n_q12_q13).trans (va_up_self _ _ _))
  · rw [← hT]; exact (va_up_ne _ _ n_q13_q14).trans (va_up_self _ _ _)
  · rw [← hT]; exact va_up_self _ _ _
  · rw [← hT]; exact (va_up_ne _ _ n_a_q10).trans (up2_s _ 48 a _)
  · rw [← hT]; exact up2_s _ 49 a _
  · rw [← hT]; exact (va_up_ne _ _ n_q1_q10).trans ((va_up_ne _ _ n_q1_q9).trans (up2_s _ 32 q1 _))
  · rw [← hT]; exact (va_up_ne _ _ n_q1_q10).trans ((va_up_ne _ _ n_q1_q9).trans ((va_up_ne _ _ n_q1_q8).trans ((va_up_ne _ _ n_q1_q7).trans ((va_up_ne _ _ n_q1_q6).trans ((va_up_ne _ _ n_q1_q5).trans (up2_s _ 33 q1 _))))))
  · rw [← hT]; exact (va_up_ne _ _ n_q1_q10).trans ((va_up_ne _ _ n_q1_q9).trans ((va_up_ne _ _ n_q1_q8).trans ((va_up_ne _ _ n_q1_q7).trans ((va_up_ne _ _ n_q1_q6).trans (up2_s _ 34 q1 _)))))
  · rw [← hT]; exact (va_up_ne _ _ n_q1_q10).trans ((va_up_ne _ _ n_q1_q9).trans ((va_up_ne _ _ n_q1_q8).trans ((va_up_ne _ _ n_q1_q7).trans (up2_s _ 35 q1 _))))
  · rw [← hT]; exact (va_up_ne _ _ n_q1_q10).trans ((va_up_ne _ _ n_q1_q9).trans ((va_up_ne _ _ n_q1_q8).trans (up2_s _ 36 q1 _)))
  · rw [← hT]; exact (va_up_ne _ _ n_q1_q10).trans ((va_up_ne _ _ n_q1_q9).trans (up2_s _ 37 q1 _))
  · rw [← hT]; exact (va_up_ne _ _ n_q1_q10).trans (up2_s _ 38 q1 _)
  · rw [← hT]; exact (va_up_ne _ _ n_q2_q10).trans ((va_up_ne _ _ n_q2_q9).trans ((va_up_ne _ _ n_q2_q8).trans ((va_up_ne _ _ n_q2_q7).trans ((va_up_ne _ _ n_q2_q6).trans ((va_up_ne _ _ n_q2_q5).trans ((va_up_ne _ _ n_q2_q4).trans (up2_s _ 16 q2 _)))))))
  · rw [← hT]; exact up2_s _ 23 q10 _
  · rw [← hT]; exact up2_s _ 24 q10 _
  · rw [← hT]; exact up2_s _ 25 q10 _
  · rw [← hT]; exact up2_s _ 26 q10 _
  · rw [← hT]; exact up2_s _ 27 q10 _
  · rw [← hT]; exact up2_s _ 28 q10 _
  · rw [← hT]; exact (va_up_ne _ _ n_q9_q10).trans (up2_s _ 0 q9 _)
  · rw [← hT]; exact (va_up_ne _ _ n_q3_q14).trans ((va_up_ne _ _ n_q3_q13).trans ((va_up_ne _ _ n_q3_q12).trans ((va_up_ne _ _ n_q3_q11).trans (va_up_self _ _ _))))
  · rw [← hT]; exact (va_up_ne _ _ n_q11_q14).trans ((va_up_ne _ _ n_q11_q13).trans ((va_up_ne _ _ n_q11_q12).trans (va_up_self _ _ _)))
  · rw [← hT]; exact (va_up_ne _ _ n_q12_q14).trans ((va_up_ne _ _ n_q12_q13).trans (va_up_self _ _ _))
  · rw [← hT]; exact (va_up_ne _ _ n_q13_q14).trans (va_up_self _ _ _)
  · rw [← hT]; exact va_up_self _ _ _
  · rw [← hT]; exact (va_up_ne _ _ n_q4_q10).trans ((va_up_ne _ _ n_q4_q9).trans ((va_up_ne _ _ n_q4_q8).trans ((va_up_ne _ _ n_q4_q7).trans ((va_up_ne _ _ n_q4_q6).trans ((va_up_ne _ _ n_q4_q5).trans (va_up_self _ _ _))))))
  · rw [← hT]; exact (va_up_ne _ _ n_q4_q10).trans ((va_up_ne _ _ n_q4_q9).trans ((va_up_ne _ _ n_q4_q8).trans ((va_up_ne _ _ n_q4_q7).trans ((va_up_ne _ _ n_q4_q7).trans ((va_up_ne _ _ n_q4_q6).trans ((va_up_ne _ _ n_q4_q6).trans ((va_up_ne _ _ n_q4_q5).trans ((va_up_ne _ _ n_q4_q5).trans (va_up_self _ _ _)))))))))
  · rw [← hT]; exact (va_up_ne _ _ n_q5_q10).trans ((va_up_ne _ _ n_q5_q9).trans ((va_up_ne _ _ n_q5_q8).trans ((va_up_ne _ _ n_q5_q7).trans ((va_up_ne _ _ n_q5_q6).trans (va_up_self _ _ _)))))
  · rw [← hT]; exact (va_up_ne _ _ n_q5_q10).trans ((va_up_ne _ _ n_q5_q9).trans ((va_up_ne _ _ n_q5_q8).trans ((va_up_ne _ _ n_q5_q7).trans ((va_up_ne _ _ n_q5_q7).trans ((va_up_ne _ _ n_q5_q6).trans ((va_up_ne _ _ n_q5_q6).trans (va_up_self _ _ _)))))))
  · rw [← hT]; exact (va_up_ne _ _ n_q6_q10).trans ((va_up_ne _ _ n_q6_q9).trans ((va_up_ne _ _ n_q6_q8).trans ((va_up_ne _ _ n_q6_q7).trans (va_up_self _ _ _))))
  · rw [← hT]; exact (va_up_ne _ _ n_q6_q10).trans ((va_up_ne _ _ n_q6_q9).trans ((va_up_ne _ _ n_q6_q8).trans ((va_up_ne _ _ n_q6_q7).trans ((va_up_ne _ _ n_q6_q7).trans (va_up_self _ _ _)))))
  · rw [← hT]; exact (va_up_ne _ _ n_q7_q10).trans ((va_up_ne _ _ n_q7_q9).trans ((va_up_ne _ _ n_q7_q8).trans (va_up_self _ _ _)))
  · rw [← hT]; exact (va_up_ne _ _ n_q7_q10).trans ((va_up_ne _ _ n_q7_q9).trans ((va_up_ne _ _ n_q7_q8).trans (va_up_self _ _ _)))
  · rw [← hT]; exact (va_up_ne _ _ n_q1_q10).trans ((va_up_ne _ _ n_q1_q9).trans (up2_s _ 39 q1 _))
  · rw [← hT]; exact (va_up_ne _ _ n_q1_q10).trans ((va_up_ne _ _ n_q1_q9).trans (up2_s _ 40 q1 _))
  · rw [← hT]; exact (va_up_ne _ _ n_q1_q10).trans ((va_up_ne _ _ n_q1_q9).trans (up2_s _ 41 q1 _))
  · rw [← hT]; exact up2_s _ 50 a _
  · rw [← hT]; exact (va_up_ne _ _ n_q9_q10).trans (up2_s _ 9 q9 _)
  · rw [← hT]; exact (va_up_ne _ _ n_q9_q10).trans (up2_s _ 6 q9 _)
  · rw [← hT]; exact (va_up_ne _ _ n_q9_q10).trans (up2_s _ 5 q9 _)
  · rw [← hT]; exact (va_up_ne _ _ n_q9_q10).trans (up2_s _ 10 q9 _)
  · rw [← hT]; exact (va_up_ne _ _ n_q8_q10).trans ((va_up_ne _ _ n_q8_q9).trans (up2_s _ 29 q8 _))
  · rw [← hT]; exact (va_up_ne _ _ n_q8_q10).trans ((va_up_ne _ _ n_q8_q9).trans (up2_s _ 30 q8 _))
  · rw [← hT]; exact (va_up_ne _ _ n_q8_q10).trans ((va_up_ne _ _ n_q8_q9).trans (up2_s _ 31 q8 _))
  · rw [← hT]; exact (va_up_ne _ _ n_q9_q10).trans (up2_s _ 14 q9 _)
  · rw [← hT]; exact ((va_up_ne _ _ n_a_q14).trans ((va_up_ne _ _ n_a_q13).trans ((va_up_ne _ _ n_a_q12).trans ((va_up_ne _ _ n_a_q11).trans ((va_up_ne _ _ n_a_q10).trans ((va_up_ne _ _ n_a_q9).trans ((va_up_ne _ _ n_a_q8).trans ((va_up_ne _ _ n_a_q7).trans ((va_up_ne _ _ n_a_q6).trans ((va_up_ne _ _ n_a_q5).trans ((va_up_ne _ _ n_a_q4).trans ((va_up_ne _ _ n_a_q3).trans ((va_up_ne _ _ n_a_q2).trans ((va_up_ne _ _ n_a_q1).trans (ha.2)))))))))))))))
  · rw [← hT]; show ((((((((((((((sL S ++ [q1]) ++ [q2]) ++ [q3]) ++ [q4]) ++ [q5]) ++ [q6]) ++ [q7]) ++ [q8]) ++ [q9]) ++ [q10]) ++ [q11]) ++ [q12]) ++ [q13]) ++ [q14]) = _; rw [hS]; rfl
theorem NS.k_q1 {T : PS} {d a q1 q2 q3 q4 q5 q6 q7 q8 q9 q10 q11 q12 q13 q14 : Nat} (N : NS T d a q1 q2 q3 q4 q5 q6 q7 q8 q9 q10 q11 q12 q13 q14) : sK T q1 = 5 := N.1
theorem NS.k_q2 {T : PS} {d a q1 q2 q3 q4 q5 q6 q7 q8 q9 q10 q11 q12 q13 q14 : Nat} (N : NS T d a q1 q2 q3 q4 q5 q6 q7 q8 q9 q10 q11 q12 q13 q14) : sK T q2 = 1 := N.2.1
theorem NS.k_q3 {T : PS} {d a q1 q2 q3 q4 q5 q6 q7 q8 q9 q10 q11 q12 q13 q14 : Nat} (N : NS T d a q1 q2 q3 q4 q5 q6 q7 q8 q9 q10 q11 q12 q13 q14) : sK T q3 = 9 := N.2.2.1
theorem NS.k_q4 {T : PS} {d a q1 q2 q3 q4 q5 q6 q7 q8 q9 q10 q11 q12 q13 q14 : Nat} (N : NS T d a q1 q2 q3 q4 q5 q6 q7 q8 q9 q10 q11 q12 q13 q14) : sK T q4 = 8 := N.2.2.2.1
theorem NS.k_q5 {T : PS} {d a q1 q2 q3 q4 q5 q6 q7 q8 q9 q10 q11 q12 q13 q14 : Nat} (N : NS T d a q1 q2 q3 q4 q5 q6 q7 q8 q9 q10 q11 q12 q13 q14) : sK T q5 = 8 := N.2.2.2.2.1
theorem NS.k_q6 {T : PS} {d a q1 q2 q3 q4 q5 q6 q7 q8 q9 q10 q11 q12 q13 q14 : Nat} (N : NS T d a q1 q2 q3 q4 q5 q6 q7 q8 q9 q10 q11 q12 q13 q14) : sK T q6 = 8 := N.2.2.2.2.2.1
theorem NS.k_q7 {T : PS} {d a q1 q2 q3 q4 q5 q6 q7 q8 q9 q10 q11 q12 q13 q14 : Nat} (N : NS T d a q1 q2 q3 q4 q5 q6 q7 q8 q9 q10 q11 q12 q13 q14) : sK T q7 = 8 := N.2.2.2.2.2.2.1
theorem NS.k_q8 {T : PS} {d a q1 q2 q3 q4 q5 q6 q7 q8 q9 q10 q11 q12 q13 q14 : Nat} (N : NS T d a q1 q2 q3 q4 q5 q6 q7 q8 q9 q10 q11 q12 q13 q14) : sK T q8 = 4 := N.2.2.2.2.2.2.2.1
theorem NS.k_q9 {T : PS} {d a q1 q2 q3 q4 q5 q6 q7 q8 q9 q10 q11 q12 q13 q14 : Nat} (N : NS T d a q1 q2 q3 q4 q5 q6 q7 q8 q9 q10 q11 q12 q13 q14) : sK T q9 = 0 := N.2.2.2.2.2.2.2.2.1
theorem NS.k_q10 {T : PS} {d a q1 q2 q3 q4 q5 q6 q7 q8 q9 q10 q11 q12 q13 q14 : Nat} (N : NS T d a q1 q2 q3 q4 q5 q6 q7 q8 q9 q10 q11 q12 q13 q14) : sK T q10 = 3 := N.2.2.2.2.2.2.2.2.2.1
theorem NS.k_q11 {T : PS} {d a q1 q2 q3 q4 q5 q6 q7 q8 q9 q10 q11 q12 q13 q14 : Nat} (N : NS T d a q1 q2 q3 q4 q5 q6 q7 q8 q9 q10 q11 q12 q13 q14) : sK T q11 = 9 := N.2.2.2.2.2.2.2.2.2.2.1
theorem NS.k_q12 {T : PS} {d a q1 q2 q3 q4 q5 q6 q7 q8 q9 q10 q11 q12 q13 q14 : Nat} (N : NS T d a q1 q2 q3 q4 q5 q6 q7 q8 q9 q10 q11 q12 q13 q14) : sK T q12 = 9 := N.2.2.2.2.2.2.2.2.2.2.2.1
theorem NS.k_q13 {T : PS} {d a q1 q2 q3 q4 q5 q6 q7 q8 q9 q10 q11 q12 q13 q14 : Nat} (N : NS T d a q1 q2 q3 q4 q5 q6 q7 q8 q9 q10 q11 q12 q13 q14) : sK T q13 = 9 := N.2.2.2.2.2.2.2.2.2.2.2.2.1
theorem NS.k_q14 {T : PS} {d a q1 q2 q3 q4 q5 q6 q7 q8 q9 q10 q11 q12 q13 q14 : Nat} (N : NS T d a q1 q2 q3 q4 q5 q6 q7 q8 q9 q10 q11 q12 q13 q14) : sK T q14 = 9 := N.2.2.2.2.2.2.2.2.2.2.2.2.2.1
theorem NS.r48 {T : PS} {d a q1 q2 q3 q4 q5 q6 q7 q8 q9 q10 q11 q12 q13 q14 : Nat} (N : NS T d a q1 q2 q3 q4 q5 q6 q7 q8 q9 q10 q11 q12 q13 q14) : sR T 48 a = some q1 := N.2.2.2.2.2.2.2.2.2.2.2.2.2.2.1
theorem NS.r49 {T : PS} {d a q1 q2 q3 q4 q5 q6 q7 q8 q9 q10 q11 q12 q13 q14 : Nat} (N : NS T d a q1 q2 q3 q4 q5 q6 q7 q8 q9 q10 q11 q12 q13 q14) : sR T 49 a = some q10 := N.2.2.2.2.2.2.2.2.2.2.2.2.2.2.2.1
theorem NS.r32 {T : PS} {d a q1 q2 q3 q4 q5 q6 q7 q8 q9 q10 q11 q12 q13 q14 : Nat} (N : NS T d a q1 q2 q3 q4 q5 q6 q7 q8 q9 q10 q11 q12 q13 q14) : sR T 32 q1 = some q2 := N.2.2.2.2.2.2.2.2.2.2.2.2.2.2.2.2.1
theorem NS.r33 {T : PS} {d a q1 q2 q3 q4 q5 q6 q7 q8 q9 q10 q11 q12 q13 q14 : Nat} (N : NS T d a q1 q2 q3 q4 q5 q6 q7 q8 q9 q10 q11 q12 q13 q14) : sR T 33 q1 = some q4 := N.2.2.2.2.2.2.2.2.2.2.2.2.2.2.2.2.2.1
theorem NS.r34 {T : PS} {d a q1 q2 q3 q4 q5 q6 q7 q8 q9 q10 q11 q12 q13 q14 : Nat} (N : NS T d a q1 q2 q3 q4 q5 q6 q7 q8 q9 q10 q11 q12 q13 q14) : sR T 34 q1 = some q5 := N.2.2.2.2.2.2.2.2.2.2.2.2.2.2.2.2.2.2.1
theorem NS.r35 {T : PS} {d a q1 q2 q3 q4 q5 q6 q7 q8 q9 q10 q11 q12 q13 q14 : Nat} (N : NS T d a q1 q2 q3 q4 q5 q6 q7 q8 q9 q10 q11 q12 q13 q14) : sR T 35 q1 = some q6 := N.2.2.2.2.2.2.2.2.2.2.2.2.2.2.2.2.2.2.2.1
theorem NS.r36 {T : PS} {d a q1 q2 q3 q4 q5 q6 q7 q8 q9 q10 q11 q12 q13 q14 : Nat} (N : NS T d a q1 q2 q3 q4 q5 q6 q7 q8 q9 q10 q11 q12 q13 q14) : sR T 36 q1 = some q7 := N.2.2.2.2.2.2.2.2.2.2.2.2.2.2.2.2.2.2.2.2.1
theorem NS.r37 {T : PS} {d a q1 q2 q3 q4 q5 q6 q7 q8 q9 q10 q11 q12 q13 q14 : Nat} (N : NS T d a q1 q2 q3 q4 q5 q6 q7 q8 q9 q10 q11 q12 q13 q14) : sR T 37 q1 = some q8 := N.2.2.2.2.2.2.2.2.2.2.2.2.2.2.2.2.2.2.2.2.2.1
theorem NS.r38 {T : PS} {d a q1 q2 q3 q4 q5 q6 q7 q8 q9 q10 q11 q12 q13 q14 : Nat} (N : NS T d a q1 q2 q3 q4 q5 q6 q7 q8 q9 q10 q11 q12 q13 q14) : sR T 38 q1 = some q9 := N.2.2.2.2.2.2.2.2.2.2.2.2.2.2.2.2.2.2.2.2.2.2.1
theorem NS.r16 {T : PS} {d a q1 q2 q3 q4 q5 q6 q7 q8 q9 q10 q11 q12 q13 q14 : Nat} (N : NS T d a q1 q2 q3 q4 q5 q6 q7 q8 q9 q10 q11 q12 q13 q14) : sR T 16 q2 = some q3 := N.2.2.2.2.2.2.2.2.2.2.2.2.2.2.2.2.2.2.2.2.2.2.2.1
theorem NS.r23 {T : PS} {d a q1 q2 q3 q4 q5 q6 q7 q8 q9 q10 q11 q12 q13 q14 : Nat} (N : NS T d a q1 q2 q3 q4 q5 q6 q7 q8 q9 q10 q11 q12 q13 q14) : sR T 23 q10 = some q1 := N.2.2.2.2.2.2.2.2.2.2.2.2.2.2.2.2.2.2.2.2.2.2.2.2.1
theorem NS.r24 {T : PS} {d a q1 q2 q3 q4 q5 q6 q7 q8 q9 q10 q11 q12 q13 q14 : Nat} (N : NS T d a q1 q2 q3 q4 q5 q6 q7 q8 q9 q10 q11 q12 q13 q14) : sR T 24 q10 = some q9 := N.2.2.2.2.2.2.2.2.2.2.2.2.2.2.2.2.2.2.2.2.2.2.2.2.2.1
theorem NS.r25 {T : PS} {d a q1 q2 q3 q4 q5 q6 q7 q8 q9 q10 q11 q12 q13 q14 : Nat} (N : NS T d a q1 q2 q3 q4 q5 q6 q7 q8 q9 q10 q11 q12 q13 q14) : sR T 25 q10 = some q11 := N.2.2.2.2.2.2.2.2.2.2.2.2.2.2.2.2.2.2.2.2.2.2.2.2.2.2.1
theorem NS.r26 {T : PS} {d a q1 q2 q3 q4 q5 q6 q7 q8 q9 q10 q11 q12 q13 q14 : Nat} (N : NS T d a q1 q2 q3 q4 q5 q6 q7 q8 q9 q10 q11 q12 q13 q14) : sR T 26 q10 = some q12 := N.2.2.2.2.2.2.2.2.2.2.2.2.2.2.2.2.2.2.2.2.2.2.2.2.2.2.2.1
theorem NS.r27 {T : PS} {d a q1 q2 q3 q4 q5 q6 q7 q8 q9 q10 q11 q12 q13 q14 : Nat} (N : NS T d a q1 q2 q3 q4 q5 q6 q7 q8 q9 q10 q11 q12 q13 q14) : sR T 27 q10 = some q13 := N.2.2.2.2.2.2.2.2.2.2.2.2.2.2.2.2.2.2.2.2.2.2.2.2.2.2.2.2.1
theorem NS.r28 {T : PS} {d a q1 q2 q3 q4 q5 q6 q7 q8 q9 q10 q11 q12 q13 q14 : Nat} (N : NS T d a q1 q2 q3 q4 q5 q6 q7 q8 q9 q10 q11 q12 q13 q14) : sR T 28 q10 = some q14 := N.2.2.2.2.2.2.2.2.2.2.2.2.2.2.2.2.2.2.2.2.2.2.2.2.2.2.2.2.2.1
theorem NS.r0 {T : PS} {d a q1 q2 q3 q4 q5 q6 q7 q8 q9 q10 q11 q12 q13 q14 : Nat} (N : NS T d a q1 q2 q3 q4 q5 q6 q7 q8 q9 q10 q11 q12 q13 q14) : sR T 0 q9 = some q2 := N.2.2.2.2.2.2.2.2.2.2.2.2.2.2.2.2.2.2.2.2.2.2.2.2.2.2.2.2.2.2.1
theorem NS.n_q3 {T : PS} {d a q1 q2 q3 q4 q5 q6 q7 q8 q9 q10 q11 q12 q13 q14 : Nat} (N : NS T d a q1 q2 q3 q4 q5 q6 q7 q8 q9 q10 q11 q12 q13 q14) : sN T q3 = 196 := N.2.2.2.2.2.2.2.2.2.2.2.2.2.2.2.2.2.2.2.2.2.2.2.2.2.2.2.2.2.2.2.1
theorem NS.n_q11 {T : PS} {d a q1 q2 q3 q4 q5 q6 q7 q8 q9 q10 q11 q12 q13 q14 : Nat} (N : NS T d a q1 q2 q3 q4 q5 q6 q7 q8 q9 q10 q11 q12 q13 q14) : sN T q11 = 196 := N.2.2.2.2.2.2.2.2.2.2.2.2.2.2.2.2.2.2.2.2.2.2.2.2.2.2.2.2.2.2.2.2.1
theorem NS.n_q12 {T : PS} {d a q1 q2 q3 q4 q5 q6 q7 q8 q9 q10 q11 q12 q13 q14 : Nat} (N : NS T d a q1 q2 q3 q4 q5 q6 q7 q8 q9 q10 q11 q12 q13 q14) : sN T q12 = 72 := N.2.2.2.2.2.2.2.2.2.2.2.2.2.2.2.2.2.2.2.2.2.2.2.2.2.2.2.2.2.2.2.2.2.1
theorem NS.n_q13 {T : PS} {d a q1 q2 q3 q4 q5 q6 q7 q8 q9 q10 q11 q12 q13 q14 : Nat} (N : NS T d a q1 q2 q3 q4 q5 q6 q7 q8 q9 q10 q11 q12 q13 q14) : sN T q13 = 4 := N.2.2.2.2.2.2.2.2.2.2.2.2.2.2.2.2.2.2.2.2.2.2.2.2.2.2.2.2.2.2.2.2.2.2.1
theorem NS.n_q14 {T : PS} {d a q1 q2 q3 q4 q5 q6 q7 q8 q9 q10 q11 q12 q13 q14 : Nat} (N : NS T d a q1 q2 q3 q4 q5 q6 q7 q8 q9 q10 q11 q12 q13 q14) : sN T q14 = 4 := N.2.2.2.2.2.2.2.2.2.2.2.2.2.2.2.2.2.2.2.2.2.2.2.2.2.2.2.2.2.2.2.2.2.2.2.1
theorem NS.z_q4 {T : PS} {d a q1 q2 q3 q4 q5 q6 q7 q8 q9 q10 q11 q12 q13 q14 : Nat} (N : NS T d a q1 q2 q3 q4 q5 q6 q7 q8 q9 q10 q11 q12 q13 q14) : sZ T q4 = 0 := N.2.2.2.2.2.2.2.2.2.2.2.2.2.2.2.2.2.2.2.2.2.2.2.2.2.2.2.2.2.2.2.2.2.2.2.2.1
theorem NS.e_q4 {T : PS} {d a q1 q2 q3 q4 q5 q6 q7 q8 q9 q10 q11 q12 q13 q14 : Nat} (N : NS T d a q1 q2 q3 q4 q5 q6 q7 q8 q9 q10 q11 q12 q13 q14) : sE T q4 = some d := N.2.2.2.2.2.2.2.2.2.2.2.2.2.2.2.2.2.2.2.2.2.2.2.2.2.2.2.2.2.2.2.2.2.2.2.2.2.1
theorem NS.z_q5 {T : PS} {d a q1 q2 q3 q4 q5 q6 q7 q8 q9 q10 q11 q12 q13 q14 : Nat} (N : NS T d a q1 q2 q3 q4 q5 q6 q7 q8 q9 q10 q11 q12 q13 q14) : sZ T q5 = 0 := N.2.2.2.2.2.2.2.2.2.2.2.2.2.2.2.2.2.2.2.2.2.2.2.2.2.2.2.2.2.2.2.2.2.2.2.2.2.2.1
theorem NS.e_q5 {T : PS} {d a q1 q2 q3 q4 q5 q6 q7 q8 q9 q10 q11 q12 q13 q14 : Nat} (N : NS T d a q1 q2 q3 q4 q5 q6 q7 q8 q9 q10 q11 q12 q13 q14) : sE T q5 = some d := N.2.2.2.2.2.2.2.2.2.2.2.2.2.2.2.2.2.2.2.2.2.2.2.2.2.2.2.2.2.2.2.2.2.2.2.2.2.2.2.1
theorem NS.z_q6 {T : PS} {d a q1 q2 q3 q4 q5 q6 q7 q8 q9 q10 q11 q12 q13 q14 : Nat} (N : NS T d a q1 q2 q3 q4 q5 q6 q7 q8 q9 q10 q11 q12 q13 q14) : sZ T q6 = 0 := N.2.2.2.2.2.2.2.2.2.2.2.2.2.2.2.2.2.2.2.2.2.2.2.2.2.2.2.2.2.2.2.2.2.2.2.2.2.2.2.2.1
theorem NS.e_q6 {T : PS} {d a q1 q2 q3 q4 q5 q6 q7 q8 q9 q10 q11 q12 q13 q14 : Nat} (N : NS T d a q1 q2 q3 q4 q5 q6 q7 q8 q9 q10 q11 q12 q13 q14) : sE T q6 = some d := N.2.2.2.2.2.2.2.2.2.2.2.2.2.2.2.2.2.2.2.2.2.2.2.2.2.2.2.2.2.2.2.2.2.2.2.2.2.2.2.2.2.1
theorem NS.z_q7 {T : PS} {d a q1 q2 q3 q4 q5 q6 q7 q8 q9 q10 q11 q12 q13 q14 : Nat} (N : NS T d a q1 q2 q3 q4 q5 q6 q7 q8 q9 q10 q11 q12 q13 q14) : sZ T q7 = 0 := N.2.2.2.2.2.2.2.2.2.2.2.2.2.2.2.2.2.2.2.2.2.2.2.2.2.2.2.2.2.2.2.2.2.2.2.2.2.2.2.2.2.2.1
theorem NS.e_q7 {T : PS} {d a q1 q2 q3 q4 q5 q6 q7 q8 q9 q10 q11 q12 q13 q14 : Nat} (N : NS T d a q1 q2 q3 q4 q5 q6 q7 q8 q9 q10 q11 q12 q13 q14) : sE T q7 = some d := N.2.2.2.2.2.2.2.2.2.2.2.2.2.2.2.2.2.2.2.2.2.2.2.2.2.2.2.2.2.2.2.2.2.2.2.2.2.2.2.2.2.2.2.1
theorem NS.i39 {T : PS} {d a q1 q2 q3 q4 q5 q6 q7 q8 q9 q10 q11 q12 q13 q14 : Nat} (N : NS T d a q1 q2 q3 q4 q5 q6 q7 q8 q9 q10 q11 q12 q13 q14) : sI T 39 q1 = 0 := N.2.2.2.2.2.2.2.2.2.2.2.2.2.2.2.2.2.2.2.2.2.2.2.2.2.2.2.2.2.2.2.2.2.2.2.2.2.2.2.2.2.2.2.2.1
theorem NS.i40 {T : PS} {d a q1 q2 q3 q4 q5 q6 q7 q8 q9 q10 q11 q12 q13 q14 : Nat} (N : NS T d a q1 q2 q3 q4 q5 q6 q7 q8 q9 q10 q11 q12 q13 q14) : sI T 40 q1 = 0 := N.2.2.2.2.2.2.2.2.2.2.2.2.2.2.2.2.2.2.2.2.2.2.2.2.2.2.2.2.2.2.2.2.2.2.2.2.2.2.2.2.2.2.2.2.2.1
theorem NS.i41 {T : PS} {d a q1 q2 q3 q4 q5 q6 q7 q8 q9 q10 q11 q12 q13 q14 : Nat} (N : NS T d a q1 q2 q3 q4 q5 q6 q7 q8 q9 q10 q11 q12 q13 q14) : sI T 41 q1 = 0 := N.2.2.2.2.2.2.2.2.2.2.2.2.2.2.2.2.2.2.2.2.2.2.2.2.2.2.2.2.2.2.2.2.2.2.2.2.2.2.2.2.2.2.2.2.2.2.1
theorem NS.i50 {T : PS} {d a q1 q2 q3 q4 q5 q6 q7 q8 q9 q10 q11 q12 q13 q14 : Nat} (N : NS T d a q1 q2 q3 q4 q5 q6 q7 q8 q9 q10 q11 q12 q13 q14) : sI T 50 a = 0 := N.2.2.2.2.2.2.2.2.2.2.2.2.2.2.2.2.2.2.2.2.2.2.2.2.2.2.2.2.2.2.2.2.2.2.2.2.2.2.2.2.2.2.2.2.2.2.2.1
theorem NS.i9 {T : PS} {d a q1 q2 q3 q4 q5 q6 q7 q8 q9 q10 q11 q12 q13 q14 : Nat} (N : NS T d a q1 q2 q3 q4 q5 q6 q7 q8 q9 q10 q11 q12 q13 q14) : sI T 9 q9 = 0 := N.2.2.2.2.2.2.2.2.2.2.2.2.2.2.2.2.2.2.2.2.2.2.2.2.2.2.2.2.2.2.2.2.2.2.2.2.2.2.2.2.2.2.2.2.2.2.2.2.1
theorem NS.i6 {T : PS} {d a q1 q2 q3 q4 q5 q6 q7 q8 q9 q10 q11 q12 q13 q14 : Nat} (N : NS T d a q1 q2 q3 q4 q5 q6 q7 q8 q9 q10 q11 q12 q13 q14) : sI T 6 q9 = 2 := N.2.2.2.2.2.2.2.2.2.2.2.2.2.2.2.2.2.2.2.2.2.2.2.2.2.2.2.2.2.2.2.2.2.2.2.2.2.2.2.2.2.2.2.2.2.2.2.2.2.1
theorem NS.i5 {T : PS} {d a q1 q2 q3 q4 q5 q6 q7 q8 q9 q10 q11 q12 q13 q14 : Nat} (N : NS T d a q1 q2 q3 q4 q5 q6 q7 q8 q9 q10 q11 q12 q13 q14) : sI T 5 q9 = 3 := N.2.2.2.2.2.2.2.2.2.2.2.2.2.2.2.2.2.2.2.2.2.2.2.2.2.2.2.2.2.2.2.2.2.2.2.2.2.2.2.2.2.2.2.2.2.2.2.2.2.2.1
theorem NS.i10 {T : PS} {d a q1 q2 q3 q4 q5 q6 q7 q8 q9 q10 q11 q12 q13 q14 : Nat} (N : NS T d a q1 q2 q3 q4 q5 q6 q7 q8 q9 q10 q11 q12 q13 q14) : sI T 10 q9 = 1 := N.2.2.2.2.2.2.2.2.2.2.2.2.2.2.2.2.2.2.2.2.2.2.2.2.2.2.2.2.2.2.2.2.2.2.2.2.2.2.2.2.2.2.2.2.2.2.2.2.2.2.2.1
theorem NS.i29 {T : PS} {d a q1 q2 q3 q4 q5 q6 q7 q8 q9 q10 q11 q12 q13 q14 : Nat} (N : NS T d a q1 q2 q3 q4 q5 q6 q7 q8 q9 q10 q11 q12 q13 q14) : sI T 29 q8 = 0 := N.2.2.2.2.2.2.2.2.2.2.2.2.2.2.2.2.2.2.2.2.2.2.2.2.2.2.2.2.2.2.2.2.2.2.2.2.2.2.2.2.2.2.2.2.2.2.2.2.2.2.2.2.1
theorem NS.i30 {T : PS} {d a q1 q2 q3 q4 q5 q6 q7 q8 q9 q10 q11 q12 q13 q14 : Nat} (N : NS T d a q1 q2 q3 q4 q5 q6 q7 q8 q9 q10 q11 q12 q13 q14) : sI T 30 q8 = 0 := N.2.2.2.2.2.2.2.2.2.2.2.2.2.2.2.2.2.2.2.2.2.2.2.2.2.2.2.2.2.2.2.2.2.2.2.2.2.2.2.2.2.2.2.2.2.2.2.2.2.2.2.2.2.1
theorem NS.i31 {T : PS} {d a q1 q2 q3 q4 q5 q6 q7 q8 q9 q10 q11 q12 q13 q14 : Nat} (N : NS T d a q1 q2 q3 q4 q5 q6 q7 q8 q9 q10 q11 q12 q13 q14) : sI T 31 q8 = 0 := N.2.2.2.2.2.2.2.2.2.2.2.2.2.2.2.2.2.2.2.2.2.2.2.2.2.2.2.2.2.2.2.2.2.2.2.2.2.2.2.2.2.2.2.2.2.2.2.2.2.2.2.2.2.2.1
theorem NS.m14 {T : PS} {d a q1 q2 q3 q4 q5 q6 q7 q8 q9 q10 q11 q12 q13 q14 : Nat} (N : NS T d a q1 q2 q3 q4 q5 q6 q7 q8 q9 q10 q11 q12 q13 q14) : sM T 14 q9 = none := N.2.2.2.2.2.2.2.2.2.2.2.2.2.2.2.2.2.2.2.2.2.2.2.2.2.2.2.2.2.2.2.2.2.2.2.2.2.2.2.2.2.2.2.2.2.2.2.2.2.2.2.2.2.2.2.1
theorem NS.k_a {T : PS} {d a q1 q2 q3 q4 q5 q6 q7 q8 q9 q10 q11 q12 q13 q14 : Nat} (N : NS T d a q1 q2 q3 q4 q5 q6 q7 q8 q9 q10 q11 q12 q13 q14) : sK T a = 7 := N.2.2.2.2.2.2.2.2.2.2.2.2.2.2.2.2.2.2.2.2.2.2.2.2.2.2.2.2.2.2.2.2.2.2.2.2.2.2.2.2.2.2.2.2.2.2.2.2.2.2.2.2.2.2.2.2.1
theorem NS.L {T : PS} {d a q1 q2 q3 q4 q5 q6 q7 q8 q9 q10 q11 q12 q13 q14 : Nat} (N : NS T d a q1 q2 q3 q4 q5 q6 q7 q8 q9 q10 q11 q12 q13 q14) : sL T = [a, q1, q2, q3, q4, q5, q6, q7, q8, q9, q10, q11, q12, q13, q14] := N.2.2.2.2.2.2.2.2.2.2.2.2.2.2.2.2.2.2.2.2.2.2.2.2.2.2.2.2.2.2.2.2.2.2.2.2.2.2.2.2.2.2.2.2.2.2.2.2.2.2.2.2.2.2.2.2.2
