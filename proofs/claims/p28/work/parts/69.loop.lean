/-! the law: its seventy turns -/
section LLP
variable {p : Program} {l : Launch} {e : Env} {s : State} {m : MethodId} {args : Array Value} {below : List Frame} {meth : Method} {c : Code} {Q : State → Prop} {E : EV}
set_option maxRecDepth 100000 in
theorem law_loop (M : MC E p s m args meth c cL_law RL 13 (some .boolean)) (hlt : l.stackTraces = false) (hn : NC3 s) {b L : Nat} {xs : Nat → Int32} (hX : XS E b L xs s) (hL : L ≤ 260) {K : Nat → Nat} {C wa A B : Nat} (hC0 : 0 < C) (hC6 : C ≤ 196) (hA : A ≤ room_1.cells) (hB : B ≤ room_1.slots)
    (KX : ∀ U : PS, J p l e room_1 s m args below meth c Q E 13 363 [] [] U A B) :
    ∀ (n j : Nat) (r : Int32) (S : PS) (cl sl : Nat), n + j = 70 → TL E K wa C j r S → cl + 100 * n ≤ A → sl + 700 * n ≤ B →
      J p l e room_1 s m args below meth c Q E 13 56 [(0, .ref b), (1, .ref (K 0)), (2, .int (nI C)), (3, .int r), (4, .ref wa), (5, .int (nI j))] [] S cl sl := by
  intro n
  induction n with
  | zero =>
    intro j r S cl sl hj h h1 h2
    have ej : j = 70 := by omega
    subst ej
    refine j_iload M dL_law_56 rfl ?_
    refine j_bipush (v := 70) M dL_law_58 (by decide) ?_
    refine j_icmp_ge (tgt := 363) M dL_law_60 (by decide) (fun _ => ?_) (fun z => absurd (by decide) z)
    refine j_pick (lv' := []) [] rfl ?_
    refine j_widen (k := A) (n := B) (by omega) (by omega) ?_
    exact KX _
  | succ n ih =>
    intro j r S cl sl hj h h1 h2
    refine j_iload M dL_law_56 rfl ?_
    refine j_bipush (v := 70) M dL_law_58 (by decide) ?_
    refine j_icmp_ge (tgt := 363) M dL_law_60 (by decide) (fun z => absurd ((nI_leI (a := 70) (by decide) (by omega)).mp z) (by omega)) (fun _ => ?_)
    exact law_turn M hlt hn hX hL h (by omega) hC0 hC6 (by omega) (by omega) (fun r' U hU => ih (j + 1) r' U (cl + 100) (sl + 700) (by omega) hU (by omega) (by omega))
end LLP
