/-! what holds of a yard just laid -/
section FS2
variable {E : EV} {K : Nat → Nat} {S T u : PS} {w h : Int32}
theorem fill_I {a : Nat} {v : Int32} : ∀ (r j : Nat) (T : PS), sI (m_fill_lp K S a v r j T) = sI T ∧ sN (m_fill_lp K S a v r j T) = sN T
  | 0, j, T => ⟨rfl, rfl⟩
  | r + 1, j, T => by
    simp only [m_fill_lp]
    exact fill_I r (j + 1) _
theorem iv_first0 (kd : KD K) (n1 : K 11 ≠ K 12) (n2 : K 11 ≠ K 13) (n3 : K 11 ≠ K 14) (n5 : K 12 ≠ K 14) (n4 : K 12 ≠ K 13) (n6 : K 13 ≠ K 14) (h196 : sN T (K 6) = 196) (i50 : sI T 50 (K 0) = 0) (i31 : sI T 31 (K 5) = 0) (hw : 6 ≤ w.toInt ∧ w.toInt ≤ 14) (hh : 6 ≤ h.toInt ∧ h.toInt ≤ 14) (hl : laid K T w h u) (hG : GW K u) (hL : LW E K u) :
    IV E K u 0 ∧ m_cells K u = w * h ∧ sI u 39 (K 1) = 0 ∧ sI u 40 (K 1) = 0 := by
  obtain ⟨u1, u2, u3, u4, c1, c2, c3, c4, rfl⟩ := hl
  have z11 : sZ u4 (K 11) = 0 := by rw [c4.sizeN n3, c3.sizeN n2, c2.sizeN n1]; exact c1.size
  have z12 : sZ u4 (K 12) = 0 := by rw [c4.sizeN n5, c3.sizeN n4]; exact c2.size
  have z13 : sZ u4 (K 13) = 0 := by rw [c4.sizeN n6]; exact c3.size
  have z14 : sZ u4 (K 14) = 0 := c4.size
  obtain ⟨-, -, -, -, -, -, a1, i1⟩ := c1.flds
  obtain ⟨-, -, -, -, -, -, a2, i2⟩ := c2.flds
  obtain ⟨-, -, -, -, -, -, a3, i3⟩ := c3.flds
  obtain ⟨-, -, -, -, -, -, a4, i4⟩ := c4.flds
  have fi : ∀ f x, f ≠ 51 → sI u4 f x = sI (uI (uI T 17 (K 2) w) 18 (K 2) h) f x := fun f x hf => by
    rw [i4 f x hf, i3 f x hf, i2 f x hf, i1 f x hf]
    unfold m_fill
    rw [(fill_I _ _ _).1]
  have fa : ∀ i, i < 196 → sA u4 (K 6) i = 0 := fun i hi => by
    rw [a4, a3, a2, a1]
    unfold m_fill
    have e : sN (uI (uI T 17 (K 2) w) 18 (K 2) h) (K 6) = 196 := h196
    rw [e]
    exact (fill_at 196 0 _ (by decide)).1 i (Nat.zero_le _) (by omega)
  have g : ∀ f x, f ≠ 39 → f ≠ 40 → f ≠ 41 → f ≠ 51 → sI (uI (uI (uI u4 39 (K 1) 0) 40 (K 1) 0) 41 (K 1) 0) f x = sI (uI (uI T 17 (K 2) w) 18 (K 2) h) f x := fun f x h1 h2 h3 h4 => (uI_f h3).trans ((uI_f h2).trans ((uI_f h1).trans (fi f x h4)))
  have e17 : sI (uI (uI (uI u4 39 (K 1) 0) 40 (K 1) 0) 41 (K 1) 0) 17 (K 2) = w := (g 17 _ (by decide) (by decide) (by decide) (by decide)).trans ((uI_f (by decide)).trans uI_s)
  have e18 : sI (uI (uI (uI u4 39 (K 1) 0) 40 (K 1) 0) 41 (K 1) 0) 18 (K 2) = h := (g 18 _ (by decide) (by decide) (by decide) (by decide)).trans uI_s
  have e50 : sI (uI (uI (uI u4 39 (K 1) 0) 40 (K 1) 0) 41 (K 1) 0) 50 (K 0) = 0 := (g 50 _ (by decide) (by decide) (by decide) (by decide)).trans ((uI_f (by decide)).trans ((uI_f (by decide)).trans i50))
  have e31 : sI (uI (uI (uI u4 39 (K 1) 0) 40 (K 1) 0) 41 (K 1) 0) 31 (K 5) = 0 := (g 31 _ (by decide) (by decide) (by decide) (by decide)).trans ((uI_f (by decide)).trans ((uI_f (by decide)).trans i31))
  have e39 : sI (uI (uI (uI u4 39 (K 1) 0) 40 (K 1) 0) 41 (K 1) 0) 39 (K 1) = 0 := (uI_f (by decide)).trans ((uI_f (by decide)).trans uI_s)
  have e40 : sI (uI (uI (uI u4 39 (K 1) 0) 40 (K 1) 0) 41 (K 1) 0) 40 (K 1) = 0 := (uI_f (by decide)).trans uI_s
  have e41 : sI (uI (uI (uI u4 39 (K 1) 0) 40 (K 1) 0) 41 (K 1) 0) 41 (K 1) = 0 := uI_s
  have za : ∀ x, sZ (uI (uI (uI u4 39 (K 1) 0) 40 (K 1) 0) 41 (K 1) 0) x = sZ u4 x := fun _ => rfl
  have fa2 : ∀ i, i < 196 → sA (uI (uI (uI u4 39 (K 1) 0) 40 (K 1) 0) 41 (K 1) 0) (K 6) i = 0 := fa
  generalize uI (uI (uI u4 39 (K 1) 0) 40 (K 1) 0) 41 (K 1) 0 = U at e17 e18 e50 e31 e39 e40 e41 za fa2 hG hL ⊢
  have y13 : sZ U (K 13) = 0 := (za _).trans z13
  have y14 : sZ U (K 14) = 0 := (za _).trans z14
  have y11 : sZ U (K 11) = 0 := (za _).trans z11
  refine ⟨⟨⟨hG, hL, kd, ?_⟩, fun k hk => by omega, fun i j hi => by omega, fun k hk => by omega, ⟨fun j hj => by omega, fun j hj => by omega, fun k hk => by omega⟩, fun i hi => by rw [fa2 i hi]; decide, ?_, ?_⟩, by unfold m_cells; rw [e17, e18], e39, e40⟩
  · unfold YD; rw [e17, e18]; exact ⟨hw, hh⟩
  · unfold TI; rw [e39, e40, e41]; exact ⟨by decide, by decide, by decide, e50⟩
  · exact ⟨by rw [e31]; decide, fun j hj => by omega⟩
end FS2
