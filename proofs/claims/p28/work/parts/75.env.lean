/-! the world at the entry -/
section ENX
variable {s : State} {args : Array Value}
theorem env_of (hts : ∀ w ∈ lw_tbl, w.before args s = true) (hgv : (Jvm.Cond.and given_1 narrow_1).before args s = true) : ∃ E : EV, eB E = s.heap.size ∧ VP E s s.heap ∧ NC3 s := by
  have hs := flat_of_before _ hgv
  have hW : ∀ w ∈ wsU, w.before args s = true := fun w hw => hts w (uT hw)
  obtain ⟨D, hD⟩ := kn_all hW
  obtain ⟨cI, hI1, hI2⟩ := ty_int hW
  have ho : (Cond.arrayOver (.object "java/lang/Object")).before args s = true := hts _ (by decide +kernel)
  obtain ⟨cO, hO1, hO2⟩ := ty_obj ho
  obtain ⟨tr, er, hr⟩ := t_rwV hs
  obtain ⟨tc, ec, hc⟩ := t_clV hs
  obtain ⟨td, ed, hd⟩ := t_dflt hs
  have hmi : (Cond.isRef (.mirror "[Ljava/lang/Object;")).before args s = true := hs _ (by decide +kernel)
  obtain ⟨mi, hm⟩ := va_Mi.of hmi
  have hA : ∀ a : Nat, a < s.heap.size → ¬ (fun q : Nat => s.heap.size ≤ q) a := fun a ha => Nat.not_le.mpr ha
  have l1 : (Cond.laysStatic "Slewyard" "ROW_STEPS" "[I").before args s = true := hts _ (by decide +kernel)
  have l2 : (Cond.laysStatic "Slewyard" "COLUMN_STEPS" "[I").before args s = true := hts _ (by decide +kernel)
  have l3 : (Cond.laysStatic "java/util/ArrayList" "DEFAULTCAPACITY_EMPTY_ELEMENTDATA" "[Ljava/lang/Object;").before args s = true := hts _ (by decide +kernel)
  have l4 : (Cond.laysStatic "java/lang/Throwable" "UNASSIGNED_STACK" "[Ljava/lang/StackTraceElement;").before args s = true := hts _ (by decide +kernel)
  have l5 : (Cond.laysStatic "java/lang/Throwable" "SUPPRESSED_SENTINEL" "Ljava/util/List;").before args s = true := hts _ (by decide +kernel)
  have i1 : (Cond.initialized "Slewyard").before args s = true := hts _ (by decide +kernel)
  have i2 : (Cond.initialized "java/util/ArrayList").before args s = true := hts _ (by decide +kernel)
  have i3 : (Cond.initialized "java/lang/Throwable").before args s = true := hts _ (by decide +kernel)
  have r4 : (Cond.isRef (.static "java/lang/Throwable" "UNASSIGNED_STACK" "[Ljava/lang/StackTraceElement;")).before args s = true := hs _ (by decide +kernel)
  have r5 : (Cond.isRef (.static "java/lang/Throwable" "SUPPRESSED_SENTINEL" "Ljava/util/List;")).before args s = true := hs _ (by decide +kernel)
  have n1 : (Cond.not (.castable "java/lang/IllegalArgumentException" "java/lang/IndexOutOfBoundsException")).before args s = true := hs _ (by decide +kernel)
  have n2 : (Cond.not (.castable "java/lang/IllegalStateException" "java/lang/IndexOutOfBoundsException")).before args s = true := hs _ (by decide +kernel)
  have n3 : (Cond.not (.castable "java/lang/IllegalStateException" "java/lang/IllegalArgumentException")).before args s = true := hs _ (by decide +kernel)
  refine ⟨(D, cI, cO, s.heap.size, tr, tc, td, mi), rfl, ⟨⟨hD, fun k q hq => ?_⟩, fun w hw hn => ?_, ⟨⟨va_Zof l1 i1 er hA, hr⟩, ⟨va_Zof l2 i1 ec hA, hc⟩, ⟨va_Zof l3 i2 ed hA, hd⟩, ?_, hm⟩, ⟨vx_Zqof l4 i3 r4 hA, vx_Zqof l5 i3 r5 hA⟩, fun own k tx hw => str_of (hts _ hw)⟩, ⟨va_Nc.of n1, va_Nc.of n2, va_Nc.of n3⟩⟩
  · match k, hq with
    | 0, hq => cases hq; exact ⟨hI1, hI2⟩
    | 1, hq => cases hq; exact ⟨hO1, hO2⟩
    | k + 2, hq => simp at hq
  · have h1 := hts w hw
    cases w <;> first | (simp [isNw] at hn; done) | exact va_Nw.of rfl h1
  · exact va_AO.of (A := args) ho
end ENX
