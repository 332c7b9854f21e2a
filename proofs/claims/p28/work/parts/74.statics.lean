/-! the statics at the entry -/
section ENW
variable {s : State} {args : Array Value}
theorem t_rwV (hs : ∀ w ∈ flatC (Jvm.Cond.and given_1 narrow_1), w.before args s = true) : ∃ t : Nat, (Term.static "Slewyard" "ROW_STEPS" "[I").eval args s none [] s = some (.ref t) ∧ va_T .int t 8 (fun k => .int (rwV k)) (fun q : Nat => s.heap.size ≤ q) s s.heap := by
  have harr : (Cond.arrayOf (.static "Slewyard" "ROW_STEPS" "[I") .int).before args s = true := hs _ (by decide +kernel)
  have hlen : (Cond.eq (.length (.static "Slewyard" "ROW_STEPS" "[I")) (.int 8)).before args s = true := hs _ (by decide +kernel)
  have e0 : (Cond.eq (.elem (.static "Slewyard" "ROW_STEPS" "[I") (.int 0)) (.int (-1))).before args s = true := hs _ (by decide +kernel)
  have e1 : (Cond.eq (.elem (.static "Slewyard" "ROW_STEPS" "[I") (.int 1)) (.int (-1))).before args s = true := hs _ (by decide +kernel)
  have e2 : (Cond.eq (.elem (.static "Slewyard" "ROW_STEPS" "[I") (.int 2)) (.int (0))).before args s = true := hs _ (by decide +kernel)
  have e3 : (Cond.eq (.elem (.static "Slewyard" "ROW_STEPS" "[I") (.int 3)) (.int (1))).before args s = true := hs _ (by decide +kernel)
  have e4 : (Cond.eq (.elem (.static "Slewyard" "ROW_STEPS" "[I") (.int 4)) (.int (1))).before args s = true := hs _ (by decide +kernel)
  have e5 : (Cond.eq (.elem (.static "Slewyard" "ROW_STEPS" "[I") (.int 5)) (.int (1))).before args s = true := hs _ (by decide +kernel)
  have e6 : (Cond.eq (.elem (.static "Slewyard" "ROW_STEPS" "[I") (.int 6)) (.int (0))).before args s = true := hs _ (by decide +kernel)
  have e7 : (Cond.eq (.elem (.static "Slewyard" "ROW_STEPS" "[I") (.int 7)) (.int (-1))).before args s = true := hs _ (by decide +kernel)
  refine va_Tof (N := 8) (by decide) harr (va_eqt hlen) (fun j hj => ?_) (fun a ha => Nat.not_le.mpr ha)
  match j, hj with
  | 0, _ => exact va_eqt e0
  | 1, _ => exact va_eqt e1
  | 2, _ => exact va_eqt e2
  | 3, _ => exact va_eqt e3
  | 4, _ => exact va_eqt e4
  | 5, _ => exact va_eqt e5
  | 6, _ => exact va_eqt e6
  | 7, _ => exact va_eqt e7
  | j + 8, hj => omega
theorem t_clV (hs : ∀ w ∈ flatC (Jvm.Cond.and given_1 narrow_1), w.before args s = true) : ∃ t : Nat, (Term.static "Slewyard" "COLUMN_STEPS" "[I").eval args s none [] s = some (.ref t) ∧ va_T .int t 8 (fun k => .int (clV k)) (fun q : Nat => s.heap.size ≤ q) s s.heap := by
  have harr : (Cond.arrayOf (.static "Slewyard" "COLUMN_STEPS" "[I") .int).before args s = true := hs _ (by decide +kernel)
  have hlen : (Cond.eq (.length (.static "Slewyard" "COLUMN_STEPS" "[I")) (.int 8)).before args s = true := hs _ (by decide +kernel)
  have e0 : (Cond.eq (.elem (.static "Slewyard" "COLUMN_STEPS" "[I") (.int 0)) (.int (0))).before args s = true := hs _ (by decide +kernel)
  have e1 : (Cond.eq (.elem (.static "Slewyard" "COLUMN_STEPS" "[I") (.int 1)) (.int (1))).before args s = true := hs _ (by decide +kernel)
  have e2 : (Cond.eq (.elem (.static "Slewyard" "COLUMN_STEPS" "[I") (.int 2)) (.int (1))).before args s = true := hs _ (by decide +kernel)
  have e3 : (Cond.eq (.elem (.static "Slewyard" "COLUMN_STEPS" "[I") (.int 3)) (.int (1))).before args s = true := hs _ (by decide +kernel)
  have e4 : (Cond.eq (.elem (.static "Slewyard" "COLUMN_STEPS" "[I") (.int 4)) (.int (0))).before args s = true := hs _ (by decide +kernel)
  have e5 : (Cond.eq (.elem (.static "Slewyard" "COLUMN_STEPS" "[I") (.int 5)) (.int (-1))).before args s = true := hs _ (by decide +kernel)
  have e6 : (Cond.eq (.elem (.static "Slewyard" "COLUMN_STEPS" "[I") (.int 6)) (.int (-1))).before args s = true := hs _ (by decide +kernel)
  have e7 : (Cond.eq (.elem (.static "Slewyard" "COLUMN_STEPS" "[I") (.int 7)) (.int (-1))).before args s = true := hs _ (by decide +kernel)
  refine va_Tof (N := 8) (by decide) harr (va_eqt hlen) (fun j hj => ?_) (fun a ha => Nat.not_le.mpr ha)
  match j, hj with
  | 0, _ => exact va_eqt e0
  | 1, _ => exact va_eqt e1
  | 2, _ => exact va_eqt e2
  | 3, _ => exact va_eqt e3
  | 4, _ => exact va_eqt e4
  | 5, _ => exact va_eqt e5
  | 6, _ => exact va_eqt e6
  | 7, _ => exact va_eqt e7
  | j + 8, hj => omega
theorem t_dflt (hs : ∀ w ∈ flatC (Jvm.Cond.and given_1 narrow_1), w.before args s = true) : ∃ t : Nat, (Term.static "java/util/ArrayList" "DEFAULTCAPACITY_EMPTY_ELEMENTDATA" "[Ljava/lang/Object;").eval args s none [] s = some (.ref t) ∧ va_T (.object "java/lang/Object") t 0 (fun _ => .null) (fun q : Nat => s.heap.size ≤ q) s s.heap := by
  have harr : (Cond.arrayOf (.static "java/util/ArrayList" "DEFAULTCAPACITY_EMPTY_ELEMENTDATA" "[Ljava/lang/Object;") (.object "java/lang/Object")).before args s = true := hs _ (by decide +kernel)
  have hlen : (Cond.eq (.length (.static "java/util/ArrayList" "DEFAULTCAPACITY_EMPTY_ELEMENTDATA" "[Ljava/lang/Object;")) (.int 0)).before args s = true := hs _ (by decide +kernel)
  exact va_Tof (N := 0) (by decide) harr (va_eqt hlen) (fun j hj => absurd hj (Nat.not_lt_zero j)) (fun a ha => Nat.not_le.mpr ha)
theorem ty_int (hW : ∀ w ∈ wsU, w.before args s = true) : ∃ cA : ClassId, ArrOfT s cA .int ∧ va_RA s cA .int := by
  obtain ⟨c, k, comp, h1, h2, h3⟩ := Cond.arrayClass_spec (hW _ wA_int)
  exact ⟨c, fun n z => ⟨fun k h => (by cases h), k, h2, comp, h3⟩, h1⟩
theorem ty_obj (ho : (Cond.arrayOver (.object "java/lang/Object")).before args s = true) : ∃ cA : ClassId, ArrOfT s cA (.object "java/lang/Object") ∧ va_RA s cA (.object "java/lang/Object") := by
  obtain ⟨comp, c, k, h1, h2, h3, h4, h5⟩ := Cond.arrayOver_spec ho
  exact ⟨c, fun n z => ⟨fun k h => (by cases h), k, h3, comp, h4⟩, k, comp, h3, h4, h1, h5⟩
theorem str_of {own tx : String} {k : Nat} (h : (Cond.stringRef own k tx).before args s = true) : ∃ a, vk_R own k tx a s := by
  have h0 : (Cond.stringRef own k tx).before #[] s = true := by first | exact h | (simp only [Cond.before, Cond.holds, Cond.value] at h ⊢; exact h)
  cases hc : s.vm.findClass own with
  | none =>
    have h1 := h0
    simp [Cond.before, Cond.holds, Cond.value, hc] at h1
  | some cur =>
    obtain ⟨-, -, -, a, -, -, -, -, -, e⟩ := Cond.stringRef_spec hc h0
    exact ⟨a, vk_R.of h0 e⟩
end ENW
