/-! the law's entry: what the statement gives of the start -/
section ENV
variable {s : State} {args : Array Value}
theorem kn_all (hW : ∀ w ∈ wsU, w.before args s = true) : ∃ D : va_G, ∀ (k : Nat) (q : vw_C), vwCl[k]? = some q → u_Kn s q.1 q.2.1 q.2.2 (D.1 k) (D.2 k) := by
  obtain ⟨c0, i0, h0⟩ := u_known (C := RJx4a65c) (T := TJx4a65c) (N := 3) (n := 3) hW inU_Jx4a65c (hW _ wX_Jx4a65c)
  obtain ⟨c1, i1, h1⟩ := u_known (C := RX0) (T := TX0) (N := 16) (n := 16) hW inU_X0 (hW _ wX_X0)
  obtain ⟨c2, i2, h2⟩ := u_known (C := RX1) (T := TX1) (N := 3) (n := 3) hW inU_X1 (hW _ wX_X1)
  obtain ⟨c3, i3, h3⟩ := u_known (C := RX2) (T := TX2) (N := 4) (n := 4) hW inU_X2 (hW _ wX_X2)
  obtain ⟨c4, i4, h4⟩ := u_known (C := RX3) (T := TX3) (N := 6) (n := 6) hW inU_X3 (hW _ wX_X3)
  obtain ⟨c5, i5, h5⟩ := u_known (C := RX4) (T := TX4) (N := 3) (n := 3) hW inU_X4 (hW _ wX_X4)
  obtain ⟨c6, i6, h6⟩ := u_known (C := RX5) (T := TX5) (N := 10) (n := 10) hW inU_X5 (hW _ wX_X5)
  obtain ⟨c7, i7, h7⟩ := u_known (C := RX6) (T := TX6) (N := 6) (n := 6) hW inU_X6 (hW _ wX_X6)
  obtain ⟨c8, i8, h8⟩ := u_known (C := RX7) (T := TX7) (N := 3) (n := 3) hW inU_X7 (hW _ wX_X7)
  refine ⟨(fun k => [c0, c1, c2, c3, c4, c5, c6, c7, c8].getD k c0, fun k => [i0, i1, i2, i3, i4, i5, i6, i7, i8].getD k i0), ?_⟩
  intro k q hq
  match k, hq with
  | 0, hq => cases hq; exact h0
  | 1, hq => cases hq; exact h1
  | 2, hq => cases hq; exact h2
  | 3, hq => cases hq; exact h3
  | 4, hq => cases hq; exact h4
  | 5, hq => cases hq; exact h5
  | 6, hq => cases hq; exact h6
  | 7, hq => cases hq; exact h7
  | 8, hq => cases hq; exact h8
  | k + 9, hq => simp [vwCl] at hq
end ENV
