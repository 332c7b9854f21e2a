/-! words of growing a list -/
abbrev gC : MethodName := ⟨"java/lang/Object", "getClass", "()Ljava/lang/Class;"⟩
theorem wM_J7_86 : Cond.methodLink RJ7 86 gC ∈ wsU := mU 680 (by decide +kernel) rfl
theorem wI_gC : Cond.instanceMethod gC ∈ wsU := mU 681 (by decide +kernel) rfl
theorem wT_gC : Cond.native gC ∈ wsU := mU 695 (by decide +kernel) rfl
theorem wV_gC : Cond.selects "[Ljava/lang/Object;" gC gC ∈ wsU := mU 1027 (by decide +kernel) rfl
theorem nD_gC : Cond.declares gC ∈ lw_tbl := List.mem_of_getElem? (i := 1028) (by decide +kernel)
theorem wT_ac : Cond.native arraycopyName ∈ wsU := mU 705 (by decide +kernel) rfl
