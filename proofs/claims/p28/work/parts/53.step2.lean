/-! steps as they are called -/
section S2
variable {E : EV} {K : Nat → Nat} {S Q u : PS} {a N k : Nat}
theorem missesLe : ∀ (r j : Nat) (n : Int32), j + r ≤ 4 → 0 ≤ n.toInt → n.toInt ≤ j → 0 ≤ (m_missesNow_lp K S a r j n).toInt ∧ (m_missesNow_lp K S a r j n).toInt ≤ j + r
  | 0, j, n, _, h0, h1 => ⟨h0, by simp only [m_missesNow_lp]; omega⟩
  | r + 1, j, n, hj, h0, h1 => by
    have e : (n + 1).toInt = n.toInt + 1 := by rw [ti_add (by rw [ti_1]; omega) (by rw [ti_1]; omega), ti_1]
    have i1 := missesLe r (j + 1) n (by omega) h0 (by omega)
    have i2 := missesLe r (j + 1) (n + 1) (by omega) (by omega) (by omega)
    simp only [m_missesNow_lp]
    repeat' split
    all_goals (constructor <;> omega)
theorem take_keep (h : IV E K S N) (hk : k < sZ S (K 13)) {x : Int32} (hx6 : ¬ x = 6) (ht : (sI S 39 (K 1)).toInt < 600) (hw : sI S 13 (cr K S k) < 30) {q : Int32}
    (hh : m_hindrance K (m_move K (m_mimic K S (K 4) (cr K S k)) (K 4) x) (K 4) q (m_clashesOf K (m_move K (m_mimic K S (K 4) (cr K S k)) (K 4) x) (cr K S k)) = 0) :
    KP E K (m_move K (m_mimic K S (K 4) (cr K S k)) (K 4) x) (m_take K (m_move K (m_mimic K S (K 4) (cr K S k)) (K 4) x) (cr K S k) x) N := by
  have c0 := h.c hk
  have ha := c0.1.2.1
  have g1 := g_mimic h.g.1 h.g.2.1 h.g.2.2 h.g.1.k4.1 h.g.1.k4.2 c0.1.1.1 c0.1.1.2
  have g2 := g_move g1.1.1 g1.1.2.1 g1.1.2.2 g1.1.1.k4.1 g1.1.1.k4.2 x
  have qs : QS K S (m_move K (m_mimic K S (K 4) (cr K S k)) (K 4) x) := (q_mimic _).tr (q_move x)
  have hQ := h.qs g2.1 qs
  have gq := qs.ag h.kd
  -- the trial crane stands as the crane will
  have sxP : sx S (cr K S k) (m_mimic K S (K 4) (cr K S k)) (K 4) := fun f f1 f2 => mimic_f ha f f1 f2
  have sxQ : sx (m_move K (m_mimic K S (K 4) (cr K S k)) (K 4) x) (cr K S k) (m_mimic K S (K 4) (cr K S k)) (K 4) := fun f f1 f2 => by
    rw [gq.i f ha]; exact sxP f f1 f2
  have e17 : sI (m_mimic K S (K 4) (cr K S k)) 17 (K 2) = sI (m_move K (m_mimic K S (K 4) (cr K S k)) (K 4) x) 17 (K 2) := (mimic_a h.g.1.n2 17).trans (gq.i 17 h.g.1.n2).symm
  have e18 : sI (m_mimic K S (K 4) (cr K S k)) 18 (K 2) = sI (m_move K (m_mimic K S (K 4) (cr K S k)) (K 4) x) 18 (K 2) := (mimic_a h.g.1.n2 18).trans (gq.i 18 h.g.1.n2).symm
  have sxM := x_move sxQ e17 e18 x
  have zc : ∀ i, cr K (m_move K (m_mimic K S (K 4) (cr K S k)) (K 4) x) i = cr K S i := fun i => gq.cr i
  have zz := gq.z (K 13)
  have e39 : sI (m_move K (m_mimic K S (K 4) (cr K S k)) (K 4) x) 39 (K 1) = sI S 39 (K 1) := gq.i 39 h.g.1.n1
  have e13 : sI (m_move K (m_mimic K S (K 4) (cr K S k)) (K 4) x) 13 (cr K S k) = sI S 13 (cr K S k) := gq.i 13 ha
  generalize m_move K (m_mimic K S (K 4) (cr K S k)) (K 4) x = Q at *
  have c1 : CI K Q k (cr K S k) := by rw [← zc]; exact hQ.c (by rw [zz]; exact hk)
  generalize hA : cr K S k = a at *
  have F := free_of hh
  have hWQ := hQ.g.1
  have po := poss_of F.1
  have gm := g_move hWQ hQ.g.2.1 hQ.g.2.2 c1.1.1.1 c1.1.1.2 x
  have n2a : K 2 ≠ a := ne_k hWQ.k2 c1.1.1 (by decide)
  have n1a : K 1 ≠ a := ne_k hWQ.k1 c1.1.1 (by decide)
  have ay := move_ay c1.2.1.1 ⟨c1.2.2.1.1, c1.2.2.1.2.1⟩ c1.2.2.1.2.2.1 c1.2.2.1.2.2.2.1 n2a x
  have mo : ∀ f c, c ≠ a → sI (m_move K Q a x) f c = sI Q f c := fun f c hc => move_o hc
  have mf : ∀ f c, f ≠ 8 → f ≠ 9 → f ≠ 10 → f ≠ 11 → sI (m_move K Q a x) f c = sI Q f c := fun f c h8 h9 h10 h11 => move_f h8 h9 h10 h11
  have mA : sA (m_move K Q a x) = sA Q := move_A
  have mM : sM (m_move K Q a x) = sM Q := move_m
  have hmv : ∀ f, 1 ≤ f → f ≤ 11 → sI (m_move K Q a x) f a = sI Q f (K 4) := fun f f1 f2 => (sxM f f1 f2).symm
  have s12 : 0 ≤ (sI (m_move K Q a x) 12 a).toInt ∧ (sI (m_move K Q a x) 12 a).toInt ≤ 20 := by rw [mf 12 a (by decide) (by decide) (by decide) (by decide)]; exact c1.2.2.2.2.1
  obtain ⟨s, hs, et⟩ := tire_form (K := K) (M := m_move K Q a x) (a := a) x s12
  rw [if_neg hx6] at et
  unfold m_take
  rw [if_neg hx6, et]
  generalize hMM : m_move K Q a x = M at *
  have ty : ∀ w, sI (uI (uI M 13 a (sI M 13 a + 1)) 12 a w) 39 (K 1) = sI M 39 (K 1) := fun w => (uI_f (by decide)).trans (uI_f (by decide))
  have ty2 : ∀ w, sI (uI (uI M 13 a (sI M 13 a + 1)) 12 a w) 40 (K 1) = sI M 40 (K 1) := fun w => (uI_f (by decide)).trans (uI_f (by decide))
  have ty3 : ∀ w, sI (uI (uI M 13 a (sI M 13 a + 1)) 12 a w) 15 a = sI M 15 a := fun w => (uI_f (by decide)).trans (uI_f (by decide))
  rw [ty, ty2, ty3]
  generalize hZ : m_missesNow K (uI (uI (uI (uI M 13 a (sI M 13 a + 1)) 12 a s) 39 (K 1) (sI M 39 (K 1) + 1)) 40 (K 1) (sI M 40 (K 1) + 1)) a = Z
  have hz : 0 ≤ Z.toInt ∧ Z.toInt ≤ 4 := by
    have n4 := hQ.n4
    have zM : sZ (uI (uI (uI (uI M 13 a (sI M 13 a + 1)) 12 a s) 39 (K 1) (sI M 39 (K 1) + 1)) 40 (K 1) (sI M 40 (K 1) + 1)) (K 13) = sZ Q (K 13) := gm.2.z _
    rw [← hZ]
    unfold m_missesNow
    rw [zM]
    have := missesLe (K := K) (S := uI (uI (uI (uI M 13 a (sI M 13 a + 1)) 12 a s) 39 (K 1) (sI M 39 (K 1) + 1)) 40 (K 1) (sI M 40 (K 1) + 1)) (a := a) (sZ Q (K 13)) 0 0 (by omega) (by decide) (by decide)
    omega
  have tb := hQ.ti
  have tb1 := tb.1
  have tb2 := tb.2.1
  have nb := c1.2.2.2.2.2.2
  have m15 : sI M 15 a = sI Q 15 a := mf 15 a (by decide) (by decide) (by decide) (by decide)
  have t15 : (sI M 15 a + Z).toInt = (sI Q 15 a).toInt + Z.toInt := by rw [m15, ti_add (by omega) (by omega)]
  have t13 : (sI M 13 a + 1).toInt = (sI Q 13 a).toInt + 1 := by
    have := c1.2.2.2.2.2.1
    rw [mf 13 a (by decide) (by decide) (by decide) (by decide), ti_add (by rw [ti_1]; omega) (by rw [ti_1]; omega), ti_1]
  -- fields of what the step leaves
  have uo : ∀ f c, c ≠ a → c ≠ K 1 → sI (uI (uI (uI (uI (uI M 13 a (sI M 13 a + 1)) 12 a s) 39 (K 1) (sI M 39 (K 1) + 1)) 40 (K 1) (sI M 40 (K 1) + 1)) 15 a (sI M 15 a + Z)) f c = sI Q f c := fun f c hc hc1 =>
    (uI_a hc).trans ((uI_a hc1).trans ((uI_a hc1).trans ((uI_a hc).trans ((uI_a hc).trans (mo f c hc)))))
  have uk : ∀ f, f ≠ 39 → f ≠ 40 → sI (uI (uI (uI (uI (uI M 13 a (sI M 13 a + 1)) 12 a s) 39 (K 1) (sI M 39 (K 1) + 1)) 40 (K 1) (sI M 40 (K 1) + 1)) 15 a (sI M 15 a + Z)) f (K 1) = sI Q f (K 1) := fun f h1 h2 =>
    (uI_a n1a).trans ((uI_f h2).trans ((uI_f h1).trans ((uI_a n1a).trans ((uI_a n1a).trans (mo f _ n1a)))))
  have ua : ∀ f, f ≠ 12 → f ≠ 13 → f ≠ 15 → f ≠ 39 → f ≠ 40 → sI (uI (uI (uI (uI (uI M 13 a (sI M 13 a + 1)) 12 a s) 39 (K 1) (sI M 39 (K 1) + 1)) 40 (K 1) (sI M 40 (K 1) + 1)) 15 a (sI M 15 a + Z)) f a = sI M f a := fun f h1 h2 h3 h4 h5 =>
    (uI_f h3).trans ((uI_f h5).trans ((uI_f h4).trans ((uI_f h1).trans (uI_f h2))))
  have u39 : sI (uI (uI (uI (uI (uI M 13 a (sI M 13 a + 1)) 12 a s) 39 (K 1) (sI M 39 (K 1) + 1)) 40 (K 1) (sI M 40 (K 1) + 1)) 15 a (sI M 15 a + Z)) 39 (K 1) = sI Q 39 (K 1) + 1 := by
    refine ((uI_f (by decide)).trans ((uI_f (by decide)).trans uI_s)).trans ?_
    rw [mo 39 _ n1a]
  have u40 : sI (uI (uI (uI (uI (uI M 13 a (sI M 13 a + 1)) 12 a s) 39 (K 1) (sI M 39 (K 1) + 1)) 40 (K 1) (sI M 40 (K 1) + 1)) 15 a (sI M 15 a + Z)) 40 (K 1) = sI Q 40 (K 1) + 1 := by
    refine ((uI_f (by decide)).trans uI_s).trans ?_
    rw [mo 40 _ n1a]
  have u12 : sI (uI (uI (uI (uI (uI M 13 a (sI M 13 a + 1)) 12 a s) 39 (K 1) (sI M 39 (K 1) + 1)) 40 (K 1) (sI M 40 (K 1) + 1)) 15 a (sI M 15 a + Z)) 12 a = s := (uI_f (by decide)).trans ((uI_f (by decide)).trans ((uI_f (by decide)).trans uI_s))
  have u13 : sI (uI (uI (uI (uI (uI M 13 a (sI M 13 a + 1)) 12 a s) 39 (K 1) (sI M 39 (K 1) + 1)) 40 (K 1) (sI M 40 (K 1) + 1)) 15 a (sI M 15 a + Z)) 13 a = sI M 13 a + 1 := (uI_f (by decide)).trans ((uI_f (by decide)).trans ((uI_f (by decide)).trans ((uI_f (by decide)).trans uI_s)))
  have u15 : sI (uI (uI (uI (uI (uI M 13 a (sI M 13 a + 1)) 12 a s) 39 (K 1) (sI M 39 (K 1) + 1)) 40 (K 1) (sI M 40 (K 1) + 1)) 15 a (sI M 15 a + Z)) 15 a = sI M 15 a + Z := uI_s
  have uG : GW K (uI (uI (uI (uI (uI M 13 a (sI M 13 a + 1)) 12 a s) 39 (K 1) (sI M 39 (K 1) + 1)) 40 (K 1) (sI M 40 (K 1) + 1)) 15 a (sI M 15 a + Z)) :=
    ⟨gm.1.1.uI.uI.uI.uI.uI, AW.uI (by decide) (by decide) (AW.uI (by decide) (by decide) (AW.uI (by decide) (by decide) (AW.uI (by decide) (by decide) (AW.uI (by decide) (by decide) gm.1.2.1)))), WM.uI (WM.uI (WM.uI (WM.uI (WM.uI gm.1.2.2))))⟩
  have uS : SS Q (uI (uI (uI (uI (uI M 13 a (sI M 13 a + 1)) 12 a s) 39 (K 1) (sI M 39 (K 1) + 1)) 40 (K 1) (sI M 40 (K 1) + 1)) 15 a (sI M 15 a + Z)) := gm.2
  have uM' : sM (uI (uI (uI (uI (uI M 13 a (sI M 13 a + 1)) 12 a s) 39 (K 1) (sI M 39 (K 1) + 1)) 40 (K 1) (sI M 40 (K 1) + 1)) 15 a (sI M 15 a + Z)) = sM Q := mM
  have uA' : sA (uI (uI (uI (uI (uI M 13 a (sI M 13 a + 1)) 12 a s) 39 (K 1) (sI M 39 (K 1) + 1)) 40 (K 1) (sI M 40 (K 1) + 1)) 15 a (sI M 15 a + Z)) (K 6) = sA Q (K 6) := congrFun mA (K 6)
  generalize uI (uI (uI (uI (uI M 13 a (sI M 13 a + 1)) 12 a s) 39 (K 1) (sI M 39 (K 1) + 1)) 40 (K 1) (sI M 40 (K 1) + 1)) 15 a (sI M 15 a + Z) = U at uo uk ua u39 u40 u12 u13 u15 uG uS uM' uA' ⊢
  have ug : ∀ f, 1 ≤ f → f ≤ 11 → sI U f a = sI Q f (K 4) := fun f f1 f2 => (ua f (by omega) (by omega) (by omega) (by omega) (by omega)).trans (hmv f f1 f2)
  have hak : cr K Q k = a := (zc k).trans hA
  have n21 : K 2 ≠ K 1 := ne_k hWQ.k2 hWQ.k1 (by decide)
  have pe : m_plumb K U a = m_plumb K Q (K 4) := plumb_eq (v := U) (ug 3 (by decide) (by decide)) (ug 4 (by decide) (by decide)) (ug 8 (by decide) (by decide)) (ug 10 (by decide) (by decide)) (uo 17 _ n2a n21) (uo 18 _ n2a n21)
  have yU : ∀ {r q : Int}, inY K U r q ↔ inY K M r q := fun {r q} => by unfold inY; rw [uo 17 _ n2a n21, uo 18 _ n2a n21, mo 17 _ n2a, mo 18 _ n2a]
  have e5 : sI Q 5 (K 4) = sI Q 5 a := (hmv 5 (by decide) (by decide)).symm.trans (mf 5 a (by decide) (by decide) (by decide) (by decide))
  refine step_keep (k := k) hQ (by rw [zz]; exact hk) uS uG uM' uA' (by rw [e39]; exact ht) (by rw [hak]; exact uo) uk u39 u40 ?_ ?_ ?_ ?_ ?_ ?_ ?_ ?_ ?_ ?_ ?_
  · rw [hak]
    intro f hf
    rw [ua f (by omega) (by omega) (by omega) (by omega) (by omega)]
    exact mf f a (by omega) (by omega) (by omega) (by omega)
  · rw [hak, ua 8 (by decide) (by decide) (by decide) (by decide) (by decide)]; exact ay.1
  · rw [hak]
    intro i i0 i1
    rw [ua 9 (by decide) (by decide) (by decide) (by decide) (by decide)] at i1
    have := ay.2.1 i i0 i1
    have ed : dR U a = dR M a ∧ dC U a = dC M a := by
      unfold dR dC bea
      rw [ua 8 (by decide) (by decide) (by decide) (by decide) (by decide)]
      exact ⟨rfl, rfl⟩
    rw [yU, ed.1, ed.2, ua 3 (by decide) (by decide) (by decide) (by decide) (by decide), ua 4 (by decide) (by decide) (by decide) (by decide) (by decide)]
    exact this
  · rw [hak, ua 9 (by decide) (by decide) (by decide) (by decide) (by decide)]; exact ay.2.2
  · rw [hak, ug 10 (by decide) (by decide), ug 9 (by decide) (by decide)]; exact ⟨po.1, po.2.1⟩
  · rw [hak, ug 11 (by decide) (by decide)]
    have p3 := po.2.2
    have m5 := c1.2.2.2.1
    rw [e5, Int32.lt_iff_toInt_lt, ti_sub (by rw [ti_1]; omega) (by rw [ti_1]; omega), ti_1] at p3
    omega
  · rw [hak, pe, ug 11 (by decide) (by decide)]
    have c3 := F.2.2.1
    have lb := level_in hQ (m_plumb K Q (K 4))
    have b11 := (sI Q 11 (K 4)).toInt_lt
    have b12 := (sI Q 11 (K 4)).le_toInt
    rw [Int32.le_iff_toInt_le, ti_1] at c3
    by_cases cc : (sI Q 11 (K 4)).toInt < -2147483600
    · have p3 := po.2.2
      exfalso
      have h4 := c1.2.2.2.1
      have e11 : sI M 11 a = sI Q 11 (K 4) := hmv 11 (by decide) (by decide)
      have q11 : (sI Q 11 a).toInt - 1 ≤ (sI M 11 a).toInt := by
        rw [← hMM]
        unfold m_move
        have l0 := level_in hQ (m_plumb K Q a)
        have o1 : (sI Q 11 a + 1).toInt = (sI Q 11 a).toInt + 1 := by rw [ti_add (by rw [ti_1]; omega) (by rw [ti_1]; omega), ti_1]
        have o2 : (sI Q 11 a - 1).toInt = (sI Q 11 a).toInt - 1 := by rw [ti_sub (by rw [ti_1]; omega) (by rw [ti_1]; omega), ti_1]
        repeat' split
        · rw [face_f (by decide) (by decide)]; omega
        · rw [face_f (by decide) (by decide)]; omega
        · rw [uI_f (by decide)]; omega
        · rw [uI_f (by decide)]; omega
        · rw [uI_s]; omega
        · rw [uI_s]; omega
        · omega
      have l0 := level_in hQ (m_plumb K Q a)
      rw [e11] at q11
      omega
    · rw [ti_sub (by omega) (by omega)] at c3
      omega
  · rw [hak, u12]; exact hs
  · rw [hak, u13]
    have := c1.2.2.2.2.2.1
    have hw2 := hw
    rw [← e13, Int32.lt_iff_toInt_lt, ti_30] at hw2
    omega
  · rw [hak, u15]; omega
  · intro j hj hjk hc
    rw [zz] at hj
    rw [hak, zc] at hc
    have nja : cr K S j ≠ a := fun e => hjk (h.inj hj hk (e.trans hA.symm))
    have nj4 : cr K S j ≠ K 4 := (h.c hj).1.2.1
    have njc : cr K S j ≠ K 1 := ne_k (h.c hj).1.1 h.g.1.k1 (by decide)
    have e1 : m_clashRule K U a (cr K S j) 1 = m_clashRule K Q (K 4) (cr K S j) 1 := x_clash (S := Q) (T := U) (a := K 4) (b := a) (c := cr K S j) (d := cr K S j) ug (fun f _ _ => uo f _ nja njc) nj4 nja 1
    rw [e1] at hc
    have ej : el Q (K 13) j = cr K S j := zc j
    have fj := F.2.2.2 j (by rw [zz]; exact hj)
    rw [ej] at fj
    have num : sI Q 1 (K 4) = nI k := by rw [← hmv 1 (by decide) (by decide), mf 1 a (by decide) (by decide) (by decide) (by decide)]; exact c1.1.2.2
    rcases fj with f1 | f2 | f3
    · rw [num] at f1
      have n4 := h.n4
      exact absurd ((nI_eq (by omega) (by omega)).mp f1) hjk
    · have b := w_bit hQ (k := k) (o := j) (by rw [zz]; exact hk) (by rw [zz]; exact hj) hjk
      rw [w_13, hak] at b
      intro e0
      rw [e0] at b
      exact f2 (b.trans (if_pos rfl))
    · exact absurd f3 hc
theorem take6 (h : IV E K S N) (hk : k < sZ S (K 13)) (ht : (sI S 39 (K 1)).toInt < 600) : KP E K S (m_take K S (cr K S k) 6) N := by
  have c1 := h.c hk
  have hW := h.g.1
  generalize hA : cr K S k = a at *
  have n1a : K 1 ≠ a := ne_k hW.k1 c1.1.1 (by decide)
  obtain ⟨s, hs, et⟩ := tire_form (K := K) (M := S) (a := a) 6 c1.2.2.2.2.1
  rw [if_pos rfl] at et
  have e6 : m_move K S a 6 = S := by unfold m_move; rw [if_neg (by decide), if_neg (by decide), if_neg (by decide), if_neg (by decide), if_neg (by decide), if_neg (by decide)]
  unfold m_take
  rw [if_pos rfl, e6, et]
  have ty : sI (uI (uI S 13 a 0) 12 a s) 39 (K 1) = sI S 39 (K 1) := (uI_f (by decide)).trans (uI_f (by decide))
  have ty2 : sI (uI (uI S 13 a 0) 12 a s) 40 (K 1) = sI S 40 (K 1) := (uI_f (by decide)).trans (uI_f (by decide))
  rw [ty, ty2]
  have uo : ∀ f c, c ≠ a → c ≠ K 1 → sI (uI (uI (uI (uI S 13 a 0) 12 a s) 39 (K 1) (sI S 39 (K 1) + 1)) 40 (K 1) (sI S 40 (K 1) + 1)) f c = sI S f c := fun f c hc hc1 => (uI_a hc1).trans ((uI_a hc1).trans ((uI_a hc).trans (uI_a hc)))
  have uk : ∀ f, f ≠ 39 → f ≠ 40 → sI (uI (uI (uI (uI S 13 a 0) 12 a s) 39 (K 1) (sI S 39 (K 1) + 1)) 40 (K 1) (sI S 40 (K 1) + 1)) f (K 1) = sI S f (K 1) := fun f h1 h2 => (uI_f h2).trans ((uI_f h1).trans ((uI_a n1a).trans (uI_a n1a)))
  have ua : ∀ f, f ≠ 12 → f ≠ 13 → f ≠ 39 → f ≠ 40 → sI (uI (uI (uI (uI S 13 a 0) 12 a s) 39 (K 1) (sI S 39 (K 1) + 1)) 40 (K 1) (sI S 40 (K 1) + 1)) f a = sI S f a := fun f h1 h2 h4 h5 => (uI_f h5).trans ((uI_f h4).trans ((uI_f h1).trans (uI_f h2)))
  have u39 : sI (uI (uI (uI (uI S 13 a 0) 12 a s) 39 (K 1) (sI S 39 (K 1) + 1)) 40 (K 1) (sI S 40 (K 1) + 1)) 39 (K 1) = sI S 39 (K 1) + 1 := (uI_f (by decide)).trans uI_s
  have u40 : sI (uI (uI (uI (uI S 13 a 0) 12 a s) 39 (K 1) (sI S 39 (K 1) + 1)) 40 (K 1) (sI S 40 (K 1) + 1)) 40 (K 1) = sI S 40 (K 1) + 1 := uI_s
  have u12 : sI (uI (uI (uI (uI S 13 a 0) 12 a s) 39 (K 1) (sI S 39 (K 1) + 1)) 40 (K 1) (sI S 40 (K 1) + 1)) 12 a = s := (uI_f (by decide)).trans ((uI_f (by decide)).trans uI_s)
  have u13 : sI (uI (uI (uI (uI S 13 a 0) 12 a s) 39 (K 1) (sI S 39 (K 1) + 1)) 40 (K 1) (sI S 40 (K 1) + 1)) 13 a = 0 := (uI_f (by decide)).trans ((uI_f (by decide)).trans ((uI_f (by decide)).trans uI_s))
  have uG : GW K (uI (uI (uI (uI S 13 a 0) 12 a s) 39 (K 1) (sI S 39 (K 1) + 1)) 40 (K 1) (sI S 40 (K 1) + 1)) :=
    ⟨hW.uI.uI.uI.uI, AW.uI (by decide) (by decide) (AW.uI (by decide) (by decide) (AW.uI (by decide) (by decide) (AW.uI (by decide) (by decide) h.g.2.1))), WM.uI (WM.uI (WM.uI (WM.uI h.g.2.2)))⟩
  have uS : SS S (uI (uI (uI (uI S 13 a 0) 12 a s) 39 (K 1) (sI S 39 (K 1) + 1)) 40 (K 1) (sI S 40 (K 1) + 1)) := SS.rf
  have uM' : sM (uI (uI (uI (uI S 13 a 0) 12 a s) 39 (K 1) (sI S 39 (K 1) + 1)) 40 (K 1) (sI S 40 (K 1) + 1)) = sM S := rfl
  have uA' : sA (uI (uI (uI (uI S 13 a 0) 12 a s) 39 (K 1) (sI S 39 (K 1) + 1)) 40 (K 1) (sI S 40 (K 1) + 1)) (K 6) = sA S (K 6) := rfl
  generalize uI (uI (uI (uI S 13 a 0) 12 a s) 39 (K 1) (sI S 39 (K 1) + 1)) 40 (K 1) (sI S 40 (K 1) + 1) = U at uo uk ua u39 u40 u12 u13 uG uS uM' uA' ⊢
  have ua' : ∀ f, f ≤ 11 → sI U f a = sI S f a := fun f hf => ua f (by omega) (by omega) (by omega) (by omega)
  have n2a : K 2 ≠ a := ne_k hW.k2 c1.1.1 (by decide)
  have n21 : K 2 ≠ K 1 := ne_k hW.k2 hW.k1 (by decide)
  have pe : m_plumb K U a = m_plumb K S a := plumb_eq (v := U) (ua' 3 (by decide)) (ua' 4 (by decide)) (ua' 8 (by decide)) (ua' 10 (by decide)) (uo 17 _ n2a n21) (uo 18 _ n2a n21)
  obtain ⟨-, t1, ⟨b1, b2, b3, b4, b5, b6⟩, ⟨m1, m2, m3, m4⟩, -⟩ := id c1
  refine step_keep (k := k) h hk uS uG uM' uA' ht (by rw [hA]; exact uo) uk u39 u40 ?_ ?_ ?_ ?_ ?_ ?_ ?_ ?_ ?_ ?_ ?_
  · rw [hA]; exact fun f hf => ua' f (by omega)
  · rw [hA, ua' 8 (by decide)]; exact ⟨b1, b2⟩
  · rw [hA]
    intro i i0 i1
    rw [ua' 9 (by decide)] at i1
    have := b3 i i0 i1
    unfold inY dR dC bea at this ⊢
    rw [ua' 3 (by decide), ua' 4 (by decide), ua' 8 (by decide), uo 17 _ n2a n21, uo 18 _ n2a n21]
    exact this
  · rw [hA, ua' 9 (by decide)]; exact b4
  · rw [hA, ua' 10 (by decide), ua' 9 (by decide)]; exact ⟨b5, b6⟩
  · rw [hA, ua' 11 (by decide)]; exact m3
  · rw [hA, pe, ua' 11 (by decide)]; exact m4
  · rw [hA, u12]; exact hs
  · rw [hA, u13]; decide
  · rw [hA, ua 15 (by decide) (by decide) (by decide) (by decide)]; omega
  · intro j hj hjk hc
    rw [hA] at hc
    have nja : cr K S j ≠ a := fun e => hjk (h.inj hj hk (e.trans hA.symm))
    have njc : cr K S j ≠ K 1 := ne_k (h.c hj).1.1 hW.k1 (by decide)
    rw [t_clash (S := S) (fun f f1 f2 => ua' f f2) (fun f _ _ => uo f _ nja njc), ← hA] at hc
    exact hc
theorem note_keep (h : IV E K S N) : KP E K S (uI S 41 (K 1) (sI S 41 (K 1) + 1)) (N + 1) ∨ 2147483646 < N := by
  by_cases hN : 2147483646 < N
  · exact Or.inr hN
  refine Or.inl ?_
  have hW := h.g.1
  have t := h.ti
  have t3 := t.2.2.1
  have hI : ∀ f c, f ≠ 41 → sI (uI S 41 (K 1) (sI S 41 (K 1) + 1)) f c = sI S f c := fun f c hf => uI_f hf
  have h41 : (sI (uI S 41 (K 1) (sI S 41 (K 1) + 1)) 41 (K 1)).toInt = (sI S 41 (K 1)).toInt + 1 := by
    rw [uI_s, ti_add (by rw [ti_1]; omega) (by rw [ti_1]; omega), ti_1]
  have hG : GW K (uI S 41 (K 1) (sI S 41 (K 1) + 1)) := ⟨hW.uI, AW.uI (by decide) (by decide) h.g.2.1, WM.uI h.g.2.2⟩
  have hs : SS S (uI S 41 (K 1) (sI S 41 (K 1) + 1)) := SS.rf
  have hM : sM (uI S 41 (K 1) (sI S 41 (K 1) + 1)) = sM S := rfl
  have hA : sA (uI S 41 (K 1) (sI S 41 (K 1) + 1)) (K 6) = sA S (K 6) := rfl
  have lv : ∀ x, m_levelOf K (uI S 41 (K 1) (sI S 41 (K 1) + 1)) x = m_levelOf K S x := fun _ => rfl
  generalize uI S 41 (K 1) (sI S 41 (K 1) + 1) = u at *
  have z := hs.z
  have hcl : m_cells K u = m_cells K S := by unfold m_cells; rw [hI 17 _ (by decide), hI 18 _ (by decide)]
  refine ⟨⟨⟨hG, h.l.ss hs, h.kd, ?_⟩, fun k hk => ?_, fun i j hi hj e => ?_, fun k hk => ?_, ⟨fun j hj => ?_, fun j hj c hc => ?_, fun k hk x hx => ?_⟩, by rw [hA]; exact h.lvl, ?_, h.rb.of hW (z _) (fun j _ => hs.elem _ _) (fun c _ => hI 31 c (by decide))⟩, ⟨⟨?_, ?_, ?_⟩, ⟨?_, ?_, ?_⟩, fun k hk => ?_, hcl⟩, ⟨z _, fun i j hi hj _ hc => ?_⟩, ?_⟩
  · unfold YD; rw [hI 17 _ (by decide), hI 18 _ (by decide)]; exact h.y
  · rw [z] at hk
    rw [hs.cr]
    exact (h.c hk).same (hs.kk.mpr (h.c hk).1.1) (fun f hf => hI f _ (by omega)) (hI 17 _ (by decide)) (hI 18 _ (by decide)) (by rw [hI 40 _ (by decide)]; exact Int.le_refl _) (by rw [lv]; exact (h.c hk).2.2.2.1.2.2.2)
  · rw [z] at hi hj
    rw [hs.cr, hs.cr, hI 2 _ (by decide), hI 2 _ (by decide)] at e
    exact h.tw i j hi hj e
  · rw [z] at hk
    rw [hs.cr, hI 2 _ (by decide), lv]
    exact h.lv k hk
  · rw [z] at hj
    rw [hs.ld, hI 19 _ (by decide), hI 21 _ (by decide), hcl]
    exact h.li.1 j hj
  · rw [z] at hj
    rw [hM, hs.ld] at hc
    obtain ⟨i, i1, i2, i3⟩ := h.li.2.1 j hj c hc
    exact ⟨i, by rw [z]; exact i1, by rw [hs.cr]; exact i2, by rw [hM, hs.ld]; exact i3⟩
  · rw [z] at hk
    rw [hM, hs.cr] at hx
    obtain ⟨i2, i3, i4, i5⟩ := h.li.2.2 k hk x hx
    exact ⟨i2, by rw [z]; exact i3, by rw [hs.ld]; exact i4, by rw [hM, hs.cr]; exact i5⟩
  · refine ⟨by rw [hI 39 _ (by decide)]; exact t.1, by rw [hI 39 _ (by decide), hI 40 _ (by decide)]; exact t.2.1, ⟨by omega, by omega⟩, by rw [hI 50 _ (by decide)]; exact t.2.2.2⟩
  · rw [z]; exact Nat.le_refl _
  · rw [z]; exact Nat.le_refl _
  · rw [z]; exact Nat.le_refl _
  · rw [hI 39 _ (by decide)]; exact Int.le_refl _
  · rw [hI 40 _ (by decide)]; exact Int.le_refl _
  · omega
  · rw [hs.cr, hI 15 _ (by decide)]; exact Int.le_refl _
  · have e : m_clash K u i j = m_clash K S i j := by
      unfold m_clash
      rw [hs.elem, hs.elem]
      exact t_clash (fun f f1 f2 => hI f _ (by omega)) (fun f f1 f2 => hI f _ (by omega)) 1
    rw [← e]; exact hc
  · unfold TT; rw [hI 39 _ (by decide), hI 40 _ (by decide)]
theorem KP.tr {u v : PS} {N2 : Nat} (h : KP E K S u N) (h2 : KP E K u v N2) : KP E K S v N2 := ⟨h2.1, h.2.1.tr h2.2.1, h.2.2.1.tr h2.2.2.1, h.2.2.2.tr h2.2.2.2⟩
theorem KP.mono {u : PS} {N2 : Nat} (h : KP E K S u N) (hn : N ≤ N2) : KP E K S u N2 := ⟨h.1.mono hn, h.2⟩
theorem KP.qs (h : IV E K S N) {T : PS} (hT : GW K T) (q : QS K S T) : KP E K S T N := ⟨h.qs hT q, q.mo h, q.nc h, q.tt h⟩
theorem act_step (h : IV E K S N) (hN : N ≤ 2147483646) (k : Nat) (x : Int32) : KP E K S (m_step K S k x).2.2 (N + 1) := by
  unfold m_step
  by_cases c1 : k < sZ S (K 13)
  · rw [if_pos c1]
    by_cases c2 : OKw x 0 6
    · rw [if_pos c2]
      by_cases c3 : sI S 39 (K 1) < 600
      · rw [if_pos c3]
        have ht : (sI S 39 (K 1)).toInt < 600 := by
          rw [Int32.lt_iff_toInt_lt, show (600 : Int32).toInt = 600 from by decide] at c3; exact c3
        have gq := gq_reasonAgainst h.g.1 h.g.2.1 h.g.2.2 (h.c c1).1.1.1 (h.c c1).1.1.2 x
        have kq := KP.qs h gq.1 gq.2
        by_cases c4 : (m_reasonAgainst K S (el S (K 13) k) x).1 = 0
        · rw [if_pos c4]
          refine KP.mono ?_ (Nat.le_succ N)
          show KP E K S (m_take K (m_reasonAgainst K S (cr K S k) x).2 (cr K S k) x) N
          have c4 : (m_reasonAgainst K S (cr K S k) x).1 = 0 := c4
          by_cases c6 : x = 6
          · subst c6
            have : (m_reasonAgainst K S (cr K S k) 6).2 = S := by unfold m_reasonAgainst; rw [if_pos rfl]
            rw [this]
            exact take6 h c1 ht
          · have key : ∀ q, (q = 0 ∨ q = 1) → m_hindrance K (m_move K (m_mimic K S (K 4) (cr K S k)) (K 4) x) (K 4) q (m_clashesOf K (m_move K (m_mimic K S (K 4) (cr K S k)) (K 4) x) (cr K S k)) = 0 → sI (m_move K (m_mimic K S (K 4) (cr K S k)) (K 4) x) 13 (cr K S k) < 30 → (m_reasonAgainst K S (cr K S k) x).2 = m_move K (m_mimic K S (K 4) (cr K S k)) (K 4) x → KP E K S (m_take K (m_reasonAgainst K S (cr K S k) x).2 (cr K S k) x) N := fun q _ hh hw e2 => by
              rw [e2] at kq ⊢
              have q0 : QS K S (m_move K (m_mimic K S (K 4) (cr K S k)) (K 4) x) := (q_mimic _).tr (q_move x)
              have e13 := (q0.ag h.kd).i 13 (h.c c1).1.2.1
              rw [e13] at hw
              exact kq.tr (take_keep h c1 c6 ht hw hh)
            have e2 : (m_reasonAgainst K S (cr K S k) x).2 = m_move K (m_mimic K S (K 4) (cr K S k)) (K 4) x := by
              unfold m_reasonAgainst
              rw [if_neg c6]
              repeat' split
              all_goals rfl
            have c4' := c4
            unfold m_reasonAgainst at c4'
            rw [if_neg c6] at c4'
            by_cases d1 : 3 < x
            · rw [if_pos d1] at c4'
              by_cases d2 : m_hindrance K (m_move K (m_mimic K S (K 4) (cr K S k)) (K 4) x) (K 4) 0 (m_clashesOf K (m_move K (m_mimic K S (K 4) (cr K S k)) (K 4) x) (cr K S k)) = 1
              · rw [if_pos d2] at c4'; exact absurd c4' (show ¬ (1 : Int32) = 0 by decide)
              rw [if_neg d2] at c4'
              by_cases d3 : m_force K (m_move K (m_mimic K S (K 4) (cr K S k)) (K 4) x) ≤ 6
              · rw [if_pos d3] at c4'
                by_cases d4 : sI (m_move K (m_mimic K S (K 4) (cr K S k)) (K 4) x) 13 (cr K S k) < 30
                · rw [if_pos d4] at c4'
                  exact key 0 (Or.inl rfl) c4' d4 e2
                · rw [if_neg d4] at c4'; exact absurd c4' (show ¬ (3 : Int32) = 0 by decide)
              · rw [if_neg d3] at c4'; exact absurd c4' (show ¬ (2 : Int32) = 0 by decide)
            · rw [if_neg d1] at c4'
              by_cases d2 : m_hindrance K (m_move K (m_mimic K S (K 4) (cr K S k)) (K 4) x) (K 4) 1 (m_clashesOf K (m_move K (m_mimic K S (K 4) (cr K S k)) (K 4) x) (cr K S k)) = 1
              · rw [if_pos d2] at c4'; exact absurd c4' (show ¬ (1 : Int32) = 0 by decide)
              rw [if_neg d2] at c4'
              by_cases d3 : m_force K (m_move K (m_mimic K S (K 4) (cr K S k)) (K 4) x) ≤ 6
              · rw [if_pos d3] at c4'
                by_cases d4 : sI (m_move K (m_mimic K S (K 4) (cr K S k)) (K 4) x) 13 (cr K S k) < 30
                · rw [if_pos d4] at c4'
                  exact key 1 (Or.inr rfl) c4' d4 e2
                · rw [if_neg d4] at c4'; exact absurd c4' (show ¬ (3 : Int32) = 0 by decide)
              · rw [if_neg d3] at c4'; exact absurd c4' (show ¬ (2 : Int32) = 0 by decide)
        · rw [if_neg c4]
          rcases note_keep kq.1 with h2 | h2
          · exact kq.tr h2
          · omega
      · rw [if_neg c3]; exact (KP.rf h).mono (Nat.le_succ N)
    · rw [if_neg c2]; exact (KP.rf h).mono (Nat.le_succ N)
  · rw [if_neg c1]; exact (KP.rf h).mono (Nat.le_succ N)
/-- what a step would tell it tells -/
theorem wouldx_cases (k : Nat) (x : Int32) : (m_wouldx K S k x = (0, (m_reasonAgainst K S (el S (K 13) k) x).1, (m_reasonAgainst K S (el S (K 13) k) x).2) ∧ k < sZ S (K 13) ∧ OKw x 0 6 ∧ sI S 39 (K 1) < 600) ∨ (m_wouldx K S k x = (0, (-1), S) ∧ k < sZ S (K 13) ∧ OKw x 0 6 ∧ ¬ sI S 39 (K 1) < 600) ∨ (m_wouldx K S k x).1 ≠ 0 ∧ (m_wouldx K S k x).2.2 = S := by
  by_cases c1 : k < sZ S (K 13)
  · by_cases c2 : OKw x 0 6
    · by_cases c3 : sI S 39 (K 1) < 600
      · exact Or.inl ⟨by unfold m_wouldx; rw [if_pos c1, if_pos c2, if_pos c3], c1, c2, c3⟩
      · exact Or.inr (Or.inl ⟨by unfold m_wouldx; rw [if_pos c1, if_pos c2, if_neg c3], c1, c2, c3⟩)
    · have e : m_wouldx K S k x = (2, 0, S) := by unfold m_wouldx; rw [if_pos c1, if_neg c2]
      exact Or.inr (Or.inr (by rw [e]; exact ⟨(show ¬ (2 : Nat) = 0 by decide), rfl⟩))
  · have e : m_wouldx K S k x = (1, 0, S) := by unfold m_wouldx; rw [if_neg c1]
    exact Or.inr (Or.inr (by rw [e]; exact ⟨(show ¬ (1 : Nat) = 0 by decide), rfl⟩))
theorem step_val {T : PS} {k : Nat} {x : Int32} (c1 : k < sZ T (K 13)) (c2 : OKw x 0 6) (c3 : sI T 39 (K 1) < 600) : (m_step K T k x).2.1 = (m_reasonAgainst K T (el T (K 13) k) x).1 := by
  simp only [m_step]
  rw [if_pos c1, if_pos c2, if_pos c3]
  by_cases c4 : (m_reasonAgainst K T (el T (K 13) k) x).1 = 0
  · rw [if_pos c4]
  · rw [if_neg c4]
theorem step_late {T : PS} {k : Nat} {x : Int32} (c1 : k < sZ T (K 13)) (c2 : OKw x 0 6) (c3 : ¬ sI T 39 (K 1) < 600) : (m_step K T k x).1 = 3 := by
  have e : m_step K T k x = (3, 0, T) := by unfold m_step; rw [if_pos c1, if_pos c2, if_neg c3]
  rw [e]
theorem act_would (h : IV E K S N) (k : Nat) (x : Int32) : KP E K S (m_wouldx K S k x).2.2 N ∧ (((m_wouldx K S k x).1 = 0) → (m_step K (m_wouldx K S k x).2.2 k x).1 = 0 → (m_step K (m_wouldx K S k x).2.2 k x).2.1 = (m_wouldx K S k x).2.1) := by
  rcases wouldx_cases (K := K) (S := S) k x with ⟨e, c1, c2, c3⟩ | ⟨e, c1, c2, c3⟩ | ⟨e1, e2⟩
  · have gq : GW K (m_reasonAgainst K S (el S (K 13) k) x).2 ∧ QS K S (m_reasonAgainst K S (el S (K 13) k) x).2 := gq_reasonAgainst h.g.1 h.g.2.1 h.g.2.2 (LSt.el h.g.1.l13 c1).1 (LSt.el h.g.1.l13 c1).2 x
    have g := gq.2.ag h.kd
    have er : (m_reasonAgainst K (m_reasonAgainst K S (el S (K 13) k) x).2 (el S (K 13) k) x).1 = (m_reasonAgainst K S (el S (K 13) k) x).1 := s_reason h.kd h.g h.to g (LSt.el h.g.1.l13 c1) (h.to k c1) x
    rw [e]
    generalize m_reasonAgainst K S (el S (K 13) k) x = RR at er gq g
    have ee : el RR.2 (K 13) k = el S (K 13) k := g.el _ _
    refine ⟨KP.qs h gq.1 gq.2, fun _ _ => ?_⟩
    have v := step_val (K := K) (T := RR.2) (k := k) (x := x) (by rw [g.z]; exact c1) c2 (by rw [g.i 39 h.g.1.n1]; exact c3)
    rw [ee, er] at v
    exact v
  · rw [e]
    refine ⟨KP.rf h, fun _ h0 => ?_⟩
    have v := step_late (K := K) (T := S) (k := k) (x := x) c1 c2 c3
    have h1 : (m_step K S k x).1 = 0 := h0
    rw [v] at h1
    exact absurd h1 (show ¬ (3 : Nat) = 0 by decide)
  · exact ⟨by rw [e2]; exact KP.rf h, fun h0 => absurd h0 e1⟩
end S2
