/-! The printed start does not meet the printed premises: narrow_1's 367th conjunct names a class that the start's table lacks -/
theorem zz_l {A B : Jvm.Cond} {a : Array Jvm.Value} {s : Jvm.State} (h : (Jvm.Cond.and A B).before a s = true) : A.before a s = true := by
  rw [Jvm.Cond.before_and, Bool.and_eq_true] at h
  exact h.1
theorem zz_r {A B : Jvm.Cond} {a : Array Jvm.Value} {s : Jvm.State} (h : (Jvm.Cond.and A B).before a s = true) : B.before a s = true := by
  rw [Jvm.Cond.before_and, Bool.and_eq_true] at h
  exact h.2
theorem zz_not {C D : String} {a : Array Jvm.Value} {s : Jvm.State} (hc : s.vm.findClass C = none) (h : (Jvm.Cond.not (Jvm.Cond.castable C D)).before a s = true) : False := by
  simp [Jvm.Cond.before, Jvm.Cond.holds, Jvm.Cond.value, hc] at h
theorem zz_367 {a : Array Jvm.Value} {s : Jvm.State} (h : narrow_1.before a s = true) : (Jvm.Cond.not (Jvm.Cond.castable "[Ljava/lang/StackTraceElement;" "java/lang/Integer")).before a s = true := by
  unfold narrow_1 at h
  exact zz_r (zz_r (zz_r (zz_l (zz_r (zz_l (zz_r (zz_l (zz_r (zz_l h)))))))))
theorem zz_lack {a : Array Jvm.Value} {s : Jvm.State} (hc : s.vm.findClass "[Ljava/lang/StackTraceElement;" = none) : (Jvm.Cond.and given_1 narrow_1).before a s = false := by
  cases h : (Jvm.Cond.and given_1 narrow_1).before a s with
  | false => rfl
  | true => exact (zz_not hc (zz_367 (zz_r h))).elim
