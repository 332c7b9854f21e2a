/-! a new crane -/
section NCR
variable {E : EV} {K : Nat → Nat} {S T u : PS} {q n N : Nat}
theorem tdiv_of {w x : Int32} (hw : 6 ≤ w.toInt ∧ w.toInt ≤ 14) (hx : 0 ≤ x.toInt ∧ x.toInt < 196) : (x / w).toInt = x.toInt / w.toInt ∧ (x - x / w * w).toInt = x.toInt % w.toInt := by
  have e : (x / w).toInt = x.toInt / w.toInt := by
    rw [Int32.toInt_div_of_ne_right _ _ (fun e => by rw [e, ti_m1] at hw; omega), Int.tdiv_eq_ediv_of_nonneg hx.1]
  have hd := Int.mul_ediv_add_emod x.toInt w.toInt
  have hm0 := Int.emod_nonneg x.toInt (show w.toInt ≠ 0 by omega)
  have hm1 := Int.emod_lt_of_pos x.toInt (show 0 < w.toInt by omega)
  have e2 : (x / w * w).toInt = x.toInt / w.toInt * w.toInt := by
    rw [ti_mul (by rw [e, Int.mul_comm]; omega) (by rw [e, Int.mul_comm]; omega), e]
  refine ⟨e, ?_⟩
  rw [Int.mul_comm] at e2
  rw [ti_sub (by rw [e2]; omega) (by rw [e2]; omega), e2]
  omega
theorem newcrane (h : IV E K S N) {w a r o b : Int32} (h0 : (m_crane K S w a r o b).1 = 0) (hq : q ∉ sL S) (hT : T = m_drawIn K (n_Crane (nw S q 0) q (K 2) (nI (sZ S (K 13))) w a r o) q b) (hh : m_hindrance K T q 0 0 = 0) {v : Int32} (A : Add0 (uI T 51 (K 13) v) (K 13) q u) (hG : GW K u) (hL : LW E K u) : IV E K u N ∧ MO K S u := by
  have hW := h.g.1
  have hY := h.y
  -- the guards
  have gd : ¬ m_hasCell K S w = 0 ∧ OKw a 3 30 ∧ OKw r 2 9 ∧ OKw b 0 7 ∧ ¬ m_canFound K S w = 0 := by
    unfold m_crane at h0
    by_cases c1 : m_hasCell K S w = 0
    · rw [if_pos c1] at h0; exact absurd h0 (show ¬ (1 : Nat) = 0 by decide)
    rw [if_neg c1] at h0
    by_cases c2 : OKw a 3 30
    · rw [if_pos c2] at h0
      by_cases c3 : OKw r 2 9
      · rw [if_pos c3] at h0
        by_cases c4 : OKw o 5 400
        · rw [if_pos c4] at h0
          by_cases c5 : OKw b 0 7
          · rw [if_pos c5] at h0
            by_cases c6 : 4 ≤ nI (sZ S (K 13))
            · rw [if_pos c6] at h0; exact absurd h0 (show ¬ (3 : Nat) = 0 by decide)
            rw [if_neg c6] at h0
            by_cases c7 : m_canFound K S w = 0
            · rw [if_pos c7] at h0; exact absurd h0 (show ¬ (3 : Nat) = 0 by decide)
            exact ⟨c1, c2, c3, c5, c7⟩
          · rw [if_neg c5] at h0; exact absurd h0 (show ¬ (2 : Nat) = 0 by decide)
        · rw [if_neg c4] at h0; exact absurd h0 (show ¬ (2 : Nat) = 0 by decide)
      · rw [if_neg c3] at h0; exact absurd h0 (show ¬ (2 : Nat) = 0 by decide)
    · rw [if_neg c2] at h0; exact absurd h0 (show ¬ (2 : Nat) = 0 by decide)
  obtain ⟨g1, g2, g3, g4, g5⟩ := gd
  have hb := hasCell_of g1
  have cm := cells_int hY
  have cl : (sI S 17 (K 2)).toInt * (sI S 18 (K 2)).toInt ≤ 14 * 14 := Int.mul_le_mul hY.1.2 hY.2.2 (by have := hY.2; omega) (by omega)
  have n2 : K 2 ≠ q := nel hW.k2.1 hq
  have n1 : K 1 ≠ q := nel hW.k1.1 hq
  have okn : ∀ {x y z : Int32}, OKw x y z → y.toInt ≤ x.toInt ∧ x.toInt ≤ z.toInt := fun {x y z} hx => by
    have a1 := hx.1
    have a2 := hx.2
    rw [Int32.lt_iff_toInt_lt] at a1 a2
    omega
  have ra := okn g2
  have rr := okn g3
  have rb := okn g4
  rw [show (3 : Int32).toInt = 3 from by decide, ti_30] at ra
  rw [show (2 : Int32).toInt = 2 from by decide, show (9 : Int32).toInt = 9 from by decide] at rr
  rw [ti_0, show (7 : Int32).toInt = 7 from by decide] at rb
  -- the crane before it is drawn in
  have eC := es_Crane (g := K 2) (n := nI (sZ S (K 13))) (t := w) (m1 := a) (r := r) (o := o) hq
  have gC : GW K (n_Crane (nw S q 0) q (K 2) (nI (sZ S (K 13))) w a r o) := gw_Crane hq (le20_of g3) h.g
  have kC : InK (n_Crane (nw S q 0) q (K 2) (nI (sZ S (K 13))) w a r o) q 0 := ink_Crane
  have oC : ∀ f x, x ≠ q → sI (n_Crane (nw S q 0) q (K 2) (nI (sZ S (K 13))) w a r o) f x = sI S f x := fun f x ha => by
    refine (up2_a _ _ _ _ ha).trans ((up2_a _ _ _ _ ha).trans ((up2_a _ _ _ _ ha).trans ((up2_a _ _ _ _ ha).trans ((up2_a _ _ _ _ ha).trans ((up2_a _ _ _ _ ha).trans ((up2_a _ _ _ _ ha).trans ((up2_a _ _ _ _ ha).trans ?_)))))))
    exact (up2_a _ _ _ _ ha).trans ((up2_a _ _ _ _ ha).trans ((up2_a _ _ _ _ ha).trans ((up2_a _ _ _ _ ha).trans ((up2_a _ _ _ _ ha).trans ((up2_a _ _ _ _ ha).trans (va_up_ne _ _ ha))))))
  have mC : ∀ f x, x ≠ q → sM (n_Crane (nw S q 0) q (K 2) (nI (sZ S (K 13))) w a r o) f x = sM S f x := fun f x ha => (up2_a _ _ _ _ ha).trans (va_up_ne _ _ ha)
  have f1 : sI (n_Crane (nw S q 0) q (K 2) (nI (sZ S (K 13))) w a r o) 1 q = nI (sZ S (K 13)) := up2_s _ 1 q _
  have f2 : sI (n_Crane (nw S q 0) q (K 2) (nI (sZ S (K 13))) w a r o) 2 q = w := up2_s _ 2 q _
  have f5 : sI (n_Crane (nw S q 0) q (K 2) (nI (sZ S (K 13))) w a r o) 5 q = a := up2_s _ 5 q _
  have f6 : sI (n_Crane (nw S q 0) q (K 2) (nI (sZ S (K 13))) w a r o) 6 q = r := up2_s _ 6 q _
  have f12 : sI (n_Crane (nw S q 0) q (K 2) (nI (sZ S (K 13))) w a r o) 12 q = 0 := up2_s _ 12 q _
  have f13 : sI (n_Crane (nw S q 0) q (K 2) (nI (sZ S (K 13))) w a r o) 13 q = 0 := up2_s _ 13 q _
  have f15 : sI (n_Crane (nw S q 0) q (K 2) (nI (sZ S (K 13))) w a r o) 15 q = 0 := up2_s _ 15 q _
  have f14 : sM (n_Crane (nw S q 0) q (K 2) (nI (sZ S (K 13))) w a r o) 14 q = none := up2_s _ 14 q _
  have w17 : ∀ X : PS, sI X 17 (K 2) = sI S 17 (K 2) → (m_rowOf0 X (K 2) w).toInt = w.toInt / (sI S 17 (K 2)).toInt ∧ (m_columnOf0 X (K 2) w).toInt = w.toInt % (sI S 17 (K 2)).toInt := fun X hX => by
    have t := tdiv_of (w := sI S 17 (K 2)) (x := w) hY.1 ⟨hb.1, by omega⟩
    unfold m_rowOf0 m_columnOf0
    rw [hX, if_neg (by rw [Int32.le_iff_toInt_le, ti_0]; have := hY.1; omega), if_neg (by rw [Int32.le_iff_toInt_le, ti_0]; have := hY.1; omega)]
    exact t
  have f3 : (sI (n_Crane (nw S q 0) q (K 2) (nI (sZ S (K 13))) w a r o) 3 q).toInt = w.toInt / (sI S 17 (K 2)).toInt := by
    have e : sI (n_Crane (nw S q 0) q (K 2) (nI (sZ S (K 13))) w a r o) 3 q = m_rowOf0 _ (K 2) w := up2_s _ 3 q _
    rw [e]
    exact (w17 _ (va_up_ne _ _ n2)).1
  have f4 : (sI (n_Crane (nw S q 0) q (K 2) (nI (sZ S (K 13))) w a r o) 4 q).toInt = w.toInt % (sI S 17 (K 2)).toInt := by
    have e : sI (n_Crane (nw S q 0) q (K 2) (nI (sZ S (K 13))) w a r o) 4 q = m_columnOf0 _ (K 2) w := up2_s _ 4 q _
    rw [e]
    exact (w17 _ (va_up_ne _ _ n2)).2
  have hsA : sA (n_Crane (nw S q 0) q (K 2) (nI (sZ S (K 13))) w a r o) = sA S := rfl
  generalize n_Crane (nw S q 0) q (K 2) (nI (sZ S (K 13))) w a r o = C at hT eC gC kC oC mC f1 f2 f5 f6 f12 f13 f15 f14 f3 f4 hsA
  have hdm := Int.mul_ediv_add_emod w.toInt (sI S 17 (K 2)).toInt
  have hm0 := Int.emod_nonneg w.toInt (show (sI S 17 (K 2)).toInt ≠ 0 by have := hY.1; omega)
  have hm1 := Int.emod_lt_of_pos w.toInt (show 0 < (sI S 17 (K 2)).toInt by have := hY.1; omega)
  have hd0 : 0 ≤ w.toInt / (sI S 17 (K 2)).toInt := Int.ediv_nonneg hb.1 (by have := hY.1; omega)
  have hd1 : w.toInt / (sI S 17 (K 2)).toInt < (sI S 18 (K 2)).toInt := Int.ediv_lt_of_lt_mul (by have := hY.1; omega) (by rw [Int.mul_comm]; omega)
  have tw : TW K C q := by
    unfold TW inY
    rw [oC 18 _ n2, oC 17 _ n2, f6]
    have := hY.1
    have := hY.2
    omega
  -- drawn in
  have gD := g_drawIn gC.1 gC.2.1 gC.2.2 kC.1 kC.2 b
  have fs := face_spec (b := b) tw
  have dI : ∀ f x, f ≠ 10 → f ≠ 11 → sI T f x = sI (m_face K C q b) f x := fun f x h10 h11 => by rw [hT]; exact (uI_f h11).trans (uI_f h10)
  have d10 : sI T 10 q = 1 := by rw [hT]; exact (uI_f (by decide)).trans uI_s
  have d11 : sI T 11 q = a - 1 := by
    rw [hT]
    refine uI_s.trans ?_
    rw [face_f (by decide) (by decide), f5]
  have dF : ∀ f x, f ≠ 8 → f ≠ 9 → f ≠ 10 → f ≠ 11 → sI T f x = sI C f x := fun f x h8 h9 h10 h11 => (dI f x h10 h11).trans (face_f h8 h9 x)
  have dO : ∀ f x, x ≠ q → sI T f x = sI S f x := fun f x hx => by
    rw [hT]
    exact (uI_a hx).trans ((uI_a hx).trans ((uI_a hx).trans ((uI_a hx).trans (oC f x hx))))
  have dM : ∀ f x, x ≠ q → sM T f x = sM S f x := fun f x hx => by rw [hT]; exact mC f x hx
  have d14 : sM T 14 q = none := by rw [hT]; exact f14
  have dA : sA T = sA S := by rw [hT]; exact hsA
  have eT : ES S T := by rw [hT]; exact eC.tr (ES.ss gD.2)
  have kT : InK T q 0 := by rw [hT]; exact gD.2.kk.mpr kC
  have GT : GW K T := by rw [hT]; exact gD.1
  have D := ad_of hW h.l (by decide) (by decide) hq eT dO dM dA A
  obtain ⟨a1, a2, a3, a4⟩ := A.flds
  have uI' : ∀ f, f ≠ 51 → ∀ x, sI u f x = sI T f x := fun f hf x => by rw [a1]; exact uI_f hf
  have F := free_of hh
  have po := poss_of F.1
  have e10 : (sI T 10 q).toInt = 1 := by rw [d10]; exact ti_1
  have e11 : (sI T 11 q).toInt = a.toInt - 1 := by rw [d11, ti_sub (by rw [ti_1]; omega) (by rw [ti_1]; omega), ti_1]
  have lvT : ∀ x, m_levelOf K T x = m_levelOf K S x := fun x => by
    unfold m_levelOf
    rw [dA, (eT _ hW.k6.1).2.2.2.2.2.1]
  have hcf : m_towerOn K S w = -1 ∧ m_levelOf K S w = 0 := by
    unfold m_canFound at g5
    by_cases c1 : m_towerOn K S w = -1
    · rw [if_pos c1] at g5
      by_cases c2 : m_loadsOn K S w = 0
      · rw [if_pos c2] at g5
        by_cases c3 : m_levelOf K S w = 0
        · exact ⟨c1, c3⟩
        · rw [if_neg c3] at g5; exact absurd rfl g5
      · rw [if_neg c2] at g5; exact absurd rfl g5
    · rw [if_neg c1] at g5; exact absurd rfl g5
  have e2 : sI u 2 q = w := by rw [uI' 2 (by decide), dF 2 q (by decide) (by decide) (by decide) (by decide), f2]
  have r := iv_add (n := 13) h (by decide) (by decide) D hG hL (fun _ => by
    refine ⟨?_, fun k hk e => ?_, by rw [e2]; exact hcf.2, by rw [a3]; exact d14⟩
    · have y : ∀ {r q : Int}, inY K u r q ↔ inY K C r q := fun {r q} => by
        unfold inY
        rw [uI' 17 (by decide), uI' 18 (by decide), dO 17 _ n2, dO 18 _ n2, oC 17 _ n2, oC 18 _ n2]
      have e3 : sI u 3 q = sI C 3 q := (uI' 3 (by decide) q).trans (dF 3 q (by decide) (by decide) (by decide) (by decide))
      have e4 : sI u 4 q = sI C 4 q := (uI' 4 (by decide) q).trans (dF 4 q (by decide) (by decide) (by decide) (by decide))
      have e5 : sI u 5 q = a := (uI' 5 (by decide) q).trans ((dF 5 q (by decide) (by decide) (by decide) (by decide)).trans f5)
      have e6 : sI u 6 q = r := (uI' 6 (by decide) q).trans ((dF 6 q (by decide) (by decide) (by decide) (by decide)).trans f6)
      have e8 : sI u 8 q = b := (uI' 8 (by decide) q).trans ((dI 8 q (by decide) (by decide)).trans face_8)
      have e9 : sI u 9 q = sI (m_face K C q b) 9 q := (uI' 9 (by decide) q).trans (dI 9 q (by decide) (by decide))
      have ed : dR u q = dR (m_face K C q b) q ∧ dC u q = dC (m_face K C q b) q := by
        unfold dR dC bea
        rw [e8, face_8]
        exact ⟨rfl, rfl⟩
      have ay : AY K u q := fun i i0 i1 => by
        rw [e9] at i1
        have z := fs.1 i i0 i1
        rw [ed.1, ed.2, e3, e4, y]
        unfold inY at z ⊢
        rw [face_f (by decide) (by decide), face_f (by decide) (by decide), face_f (by decide) (by decide), face_f (by decide) (by decide)] at z
        exact z
      have pe : m_plumb K u q = m_plumb K T q := plumb_eq (v := u) (uI' 3 (by decide) q) (uI' 4 (by decide) q) (uI' 8 (by decide) q) (uI' 10 (by decide) q) (uI' 17 (by decide) _) (uI' 18 (by decide) _)
      refine ⟨⟨A.ink kT, fun e => hq (e ▸ hW.k4.1), (uI' 1 (by decide) q).trans ((dF 1 q (by decide) (by decide) (by decide) (by decide)).trans f1)⟩, ⟨?_, ?_, ?_, ?_⟩, ⟨?_, ?_, ay, ?_, ?_, ?_⟩, ⟨?_, ?_, ?_, ?_⟩, ?_, ?_, ?_, ?_⟩
      · unfold TW
        rw [y, e3, e4, e6]
        exact ⟨tw.1, tw.2.1, by omega, by omega⟩
      · rw [e6]; omega
      · rw [e6]; omega
      · rw [e2, e3, e4, f3, f4, uI' 17 (by decide), dO 17 _ n2, Int.mul_comm]; omega
      · rw [e8]; omega
      · rw [e8]; omega
      · rw [e9, e6]
        have := fs.2.2
        rw [f6] at this
        exact this
      · rw [uI' 10 (by decide), e10]; omega
      · rw [uI' 10 (by decide), uI' 9 (by decide)]; exact po.2.1
      · rw [e5]; omega
      · rw [e5]; omega
      · rw [uI' 11 (by decide), e11, e5]; omega
      · have c3 := F.2.2.1
        have lb := level_in h (m_plumb K T q)
        rw [lvT, Int32.le_iff_toInt_le, ti_1, ti_sub (by omega) (by omega), e11] at c3
        rw [pe, D.lv, uI' 11 (by decide), e11]
        omega
      · rw [uI' 12 (by decide), dF 12 q (by decide) (by decide) (by decide) (by decide), f12]; decide
      · rw [uI' 13 (by decide), dF 13 q (by decide) (by decide) (by decide) (by decide), f13]; decide
      · rw [uI' 15 (by decide), dF 15 q (by decide) (by decide) (by decide) (by decide), f15]; decide
      · rw [uI' 15 (by decide), dF 15 q (by decide) (by decide) (by decide) (by decide), f15, uI' 40 (by decide), dO 40 _ n1, ti_0]
        have := h.ti.2.1.1
        omega
    · rw [e2] at e
      have t := w_tower h hk
      rw [← e, hcf.1] at t
      exact (nIne (show k < 2 ^ 31 by have := h.n4; omega)).1 t.symm) (fun e => absurd e (by decide)) (fun e => absurd e (by decide))
  exact ⟨r.1, r.2.1⟩
end NCR
