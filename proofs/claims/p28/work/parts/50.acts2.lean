/-! what is added: reports, zones, loads, cranes -/
def AD (K : Nat → Nat) (n : Nat) (S u : PS) (q : Nat) : Prop :=
  (∀ x, x ∈ sL S → ∀ f, f ≠ 51 → sI u f x = sI S f x) ∧ (∀ x, x ∈ sL S → ∀ f, sM u f x = sM S f x) ∧ (sA u (K 6) = sA S (K 6) ∧ sN u (K 6) = sN S (K 6)) ∧ (∀ m, 11 ≤ m → m ≤ 14 → sZ u (K m) = if m = n then sZ S (K m) + 1 else sZ S (K m)) ∧
  (∀ m, 11 ≤ m → m ≤ 14 → ∀ j, j < sZ S (K m) → el u (K m) j = el S (K m) j) ∧ el u (K n) (sZ S (K n)) = q ∧ ∀ x k, InK S x k → InK u x k
section AQ
variable {E : EV} {K : Nat → Nat} {S T u : PS} {q n N : Nat}
theorem ad_of (hW : WS K S) (hL : LW E K S) (n1 : 11 ≤ n) (n2 : n ≤ 14) (hq : q ∉ sL S) (e : ES S T) (hI : ∀ f x, x ≠ q → sI T f x = sI S f x) (hM : ∀ f x, x ≠ q → sM T f x = sM S f x) (hA : sA T = sA S) {v : Int32} (A : Add0 (uI T 51 (K n) v) (K n) q u) : AD K n S u q := by
  obtain ⟨f1, f2, f3, f4⟩ := A.flds
  have inL : ∀ m, 11 ≤ m → m ≤ 14 → K m ∈ sL S := fun m h1 h2 => (hL.1 m h1 h2).1.1
  refine ⟨fun x hx f hf => ?_, fun x hx f => ?_, ⟨?_, ?_⟩, fun m h1 h2 => ?_, fun m h1 h2 j hj => ?_, ?_, fun x k hx => A.ink (e.k hx)⟩
  · rw [f1]
    exact (uI_f hf).trans (hI f x (nel hx hq))
  · rw [f3]
    exact hM f x (nel hx hq)
  · rw [f4]
    exact congrFun hA (K 6)
  · exact (A.old (e _ hW.k6.1).1).2.2.trans (e _ hW.k6.1).2.2.2.2.2.1
  · by_cases c : m = n
    · subst c
      rw [if_pos rfl, A.size]
      exact congrArg (· + 1) (e _ (inL m h1 h2)).2.2.2.2.1
    · rw [if_neg c, A.sizeN (hL.2 m n h1 h2 n1 n2 c).1]
      exact (e _ (inL m h1 h2)).2.2.2.2.1
  · have ee : el (uI T 51 (K n) v) (K m) j = el S (K m) j := e.elem (hW.lst h1 h2) hj
    by_cases c : m = n
    · subst c
      rw [A.elj (by rw [show sZ (uI T 51 (K m) v) (K m) = sZ S (K m) from (e _ (inL m h1 h2)).2.2.2.2.1]; exact hj), ee]
    · have d := hL.2 m n h1 h2 n1 n2 c
      obtain ⟨t, t1, t2, -⟩ := (hW.lst h1 h2).2.2 j hj
      rw [A.elo d.1 (t := t) ((e _ (inL m h1 h2)).2.2.2.1.trans t1) (e _ t2.1).1 (fun e9 => d.2 t t2.1 t1 ((e _ (inL n n1 n2)).2.2.2.1.symm.trans e9)), ee]
  · have := A.elx
    rw [show sZ (uI T 51 (K n) v) (K n) = sZ S (K n) from (e _ (inL n n1 n2)).2.2.2.2.1] at this
    exact this
theorem AD.lv (D : AD K n S u q) (x : Int32) : m_levelOf K u x = m_levelOf K S x := by unfold m_levelOf; rw [D.2.2.1.1, D.2.2.1.2]
theorem AD.cells (D : AD K n S u q) (hW : WS K S) : m_cells K u = m_cells K S := by unfold m_cells; rw [D.1 _ hW.k2.1 17 (by decide), D.1 _ hW.k2.1 18 (by decide)]
theorem AD.cr (D : AD K n S u q) {k : Nat} (hk : k < sZ S (K 13)) : CSlewyardLaw_law_r4819_b4f950.cr K u k = CSlewyardLaw_law_r4819_b4f950.cr K S k := D.2.2.2.2.1 13 (by decide) (by decide) k hk
theorem AD.ld (D : AD K n S u q) {k : Nat} (hk : k < sZ S (K 14)) : CSlewyardLaw_law_r4819_b4f950.ld K u k = CSlewyardLaw_law_r4819_b4f950.ld K S k := D.2.2.2.2.1 14 (by decide) (by decide) k hk
theorem AD.zle (D : AD K n S u q) {m : Nat} (h1 : 11 ≤ m) (h2 : m ≤ 14) : sZ S (K m) ≤ sZ u (K m) := by
  rw [D.2.2.2.1 m h1 h2]
  split <;> omega
theorem iv_add (h : IV E K S N) (n1 : 11 ≤ n) (n2 : n ≤ 14) (D : AD K n S u q) (hG : GW K u) (hL : LW E K u)
    (hc : n = 13 → CI K u (sZ S (K 13)) q ∧ (∀ k, k < sZ S (K 13) → sI u 2 q ≠ sI S 2 (cr K S k)) ∧ m_levelOf K S (sI u 2 q) = 0 ∧ sM u 14 q = none)
    (hl : n = 14 → sI u 19 q = nI (sZ S (K 14)) ∧ 0 ≤ (sI u 21 q).toInt ∧ (sI u 21 q).toInt < (m_cells K S).toInt ∧ sM u 22 q = none) (hr : n = 11 → 0 ≤ (sI u 31 q).toInt ∧ (sI u 31 q).toInt ≤ 7) : IV E K u N ∧ MO K S u ∧ (n ≠ 13 → NC K S u) ∧ TT K S u := by
  have hW := h.g.1
  have i1 : ∀ f, f ≠ 51 → sI u f (K 1) = sI S f (K 1) := D.1 _ hW.k1.1
  have i2 : ∀ f, f ≠ 51 → sI u f (K 2) = sI S f (K 2) := D.1 _ hW.k2.1
  have ic : ∀ {k}, k < sZ S (K 13) → ∀ f, f ≠ 51 → sI u f (cr K S k) = sI S f (cr K S k) := fun hk => D.1 _ (h.c hk).1.1.1
  have z13 := D.2.2.2.1 13 (by decide) (by decide)
  have z14 := D.2.2.2.1 14 (by decide) (by decide)
  have old13 : ∀ k, k < sZ u (K 13) → k < sZ S (K 13) ∨ (n = 13 ∧ k = sZ S (K 13) ∧ cr K u k = q) := fun k hk => by
    rw [z13] at hk
    by_cases c : 13 = n
    · rw [if_pos c] at hk
      by_cases c2 : k < sZ S (K 13)
      · exact Or.inl c2
      · have e : k = sZ S (K 13) := by omega
        have := D.2.2.2.2.2.1
        rw [← c] at this
        exact Or.inr ⟨c.symm, e, by rw [e]; exact this⟩
    · rw [if_neg c] at hk; exact Or.inl hk
  have old14 : ∀ k, k < sZ u (K 14) → k < sZ S (K 14) ∨ (n = 14 ∧ k = sZ S (K 14) ∧ ld K u k = q) := fun k hk => by
    rw [z14] at hk
    by_cases c : 14 = n
    · rw [if_pos c] at hk
      by_cases c2 : k < sZ S (K 14)
      · exact Or.inl c2
      · have e : k = sZ S (K 14) := by omega
        have := D.2.2.2.2.2.1
        rw [← c] at this
        exact Or.inr ⟨c.symm, e, by rw [e]; exact this⟩
    · rw [if_neg c] at hk; exact Or.inl hk
  have kld : ∀ j, j < sZ S (K 14) → ld K S j ∈ sL S := fun j hj => (LSt.el hW.l14 hj).1
  refine ⟨⟨⟨hG, hL, h.kd, ?_⟩, fun k hk => ?_, fun i j hi hj e => ?_, fun k hk => ?_, ⟨fun j hj => ?_, fun j hj c hcc => ?_, fun k hk x hx => ?_⟩, by rw [D.2.2.1.1]; exact h.lvl, ?_, ?_⟩, ⟨⟨D.zle (by decide) (by decide), D.zle (by decide) (by decide), D.zle (by decide) (by decide)⟩, ⟨?_, ?_, ?_⟩, fun k hk => ?_, D.cells hW⟩, fun hn => ⟨?_, fun i j hi hj _ hcc => ?_⟩, ?_⟩
  · unfold YD; rw [i2 17 (by decide), i2 18 (by decide)]; exact h.y
  · rcases old13 k hk with hk | ⟨e1, e2, e3⟩
    · rw [D.cr hk]
      exact (h.c hk).same (D.2.2.2.2.2.2 _ _ (h.c hk).1.1) (fun f hf => ic hk f (by omega)) (i2 17 (by decide)) (i2 18 (by decide)) (by rw [i1 40 (by decide)]; exact Int.le_refl _) (by rw [D.lv]; exact (h.c hk).2.2.2.1.2.2.2)
    · rw [e3, e2]
      exact (hc e1).1
  · rcases old13 i hi with hi | ⟨e1, e2, e3⟩ <;> rcases old13 j hj with hj | ⟨g1, g2, g3⟩
    · rw [D.cr hi, D.cr hj, ic hi 2 (by decide), ic hj 2 (by decide)] at e
      exact h.tw i j hi hj e
    · rw [D.cr hi, ic hi 2 (by decide), g3] at e
      exact absurd e.symm ((hc g1).2.1 i hi)
    · rw [D.cr hj, ic hj 2 (by decide), e3] at e
      exact absurd e ((hc e1).2.1 j hj)
    · omega
  · rw [D.lv]
    rcases old13 k hk with hk | ⟨e1, e2, e3⟩
    · rw [D.cr hk, ic hk 2 (by decide)]
      exact h.lv k hk
    · rw [e3]; exact (hc e1).2.2.1
  · rw [D.cells hW]
    rcases old14 j hj with hj | ⟨e1, e2, e3⟩
    · rw [D.ld hj, D.1 _ (kld j hj) 19 (by decide), D.1 _ (kld j hj) 21 (by decide)]
      exact h.li.1 j hj
    · rw [e3, e2]
      exact ⟨(hl e1).1, (hl e1).2.1, (hl e1).2.2.1⟩
  · rcases old14 j hj with hj | ⟨e1, e2, e3⟩
    · rw [D.ld hj, D.2.1 _ (kld j hj)] at hcc
      obtain ⟨k, k1, k2, k3⟩ := h.li.2.1 j hj c hcc
      refine ⟨k, Nat.lt_of_lt_of_le k1 (D.zle (by decide) (by decide)), by rw [D.cr k1]; exact k2, ?_⟩
      rw [D.ld hj, k2, D.2.1 _ (h.c k1).1.1.1, ← k2]
      exact k3
    · rw [e3, (hl e1).2.2.2] at hcc
      cases hcc
  · rcases old13 k hk with hk | ⟨e1, e2, e3⟩
    · rw [D.cr hk, D.2.1 _ (h.c hk).1.1.1] at hx
      obtain ⟨j, j1, j2, j3⟩ := h.li.2.2 k hk x hx
      refine ⟨j, Nat.lt_of_lt_of_le j1 (D.zle (by decide) (by decide)), by rw [D.ld j1]; exact j2, ?_⟩
      rw [D.cr hk, j2, D.2.1 _ (kld j j1), ← j2]
      exact j3
    · rw [e3, (hc e1).2.2.2] at hx
      cases hx
  · have t := h.ti
    unfold TI at t ⊢
    rw [i1 39 (by decide), i1 40 (by decide), i1 41 (by decide), D.1 _ hW.k0.1 50 (by decide)]
    exact t
  · have z11 := D.2.2.2.1 11 (by decide) (by decide)
    refine ⟨by rw [D.1 _ hW.k5.1 31 (by decide)]; exact h.rb.1, fun j hj => ?_⟩
    rw [z11] at hj
    have old : j < sZ S (K 11) → 0 ≤ (sI u 31 (el u (K 11) j)).toInt ∧ (sI u 31 (el u (K 11) j)).toInt ≤ 7 := fun hj => by
      rw [D.2.2.2.2.1 11 (by decide) (by decide) j hj, D.1 _ (LSt.el hW.l11 hj).1 31 (by decide)]
      exact h.rb.2 j hj
    by_cases c : 11 = n
    · rw [if_pos c] at hj
      by_cases c2 : j < sZ S (K 11)
      · exact old c2
      · have e : j = sZ S (K 11) := by omega
        have := D.2.2.2.2.2.1
        rw [← c] at this
        rw [e, this]
        exact hr c.symm
    · rw [if_neg c] at hj; exact old hj
  · rw [i1 39 (by decide)]; exact Int.le_refl _
  · rw [i1 40 (by decide)]; exact Int.le_refl _
  · rw [i1 41 (by decide)]; exact Int.le_refl _
  · rw [D.cr hk, ic hk 15 (by decide)]; exact Int.le_refl _
  · rw [z13, if_neg (fun e => hn e.symm)]
  · have : m_clash K u i j = m_clash K S i j := by
      show m_clashRule K u (cr K u i) (cr K u j) 1 = m_clashRule K S (cr K S i) (cr K S j) 1
      rw [D.cr hi, D.cr hj]
      exact t_clash (fun f _ _ => ic hi f (by omega)) (fun f _ _ => ic hj f (by omega)) 1
    rw [← this]; exact hcc
  · unfold TT; rw [i1 39 (by decide), i1 40 (by decide)]
/-! wind, zone, load -/
theorem nw_I {k : Nat} {f x : Nat} (hx : x ≠ q) : sI (nw S q k) f x = sI S f x := va_up_ne _ _ hx
theorem nw_M {k : Nat} {f x : Nat} (hx : x ≠ q) : sM (nw S q k) f x = sM S f x := va_up_ne _ _ hx
theorem hasCell_of {x : Int32} (h : ¬ m_hasCell K S x = 0) : 0 ≤ x.toInt ∧ x.toInt < (m_cells K S).toInt := by
  unfold m_hasCell at h
  by_cases d1 : x < 0
  · rw [if_pos d1] at h; exact absurd rfl h
  rw [if_neg d1] at h
  by_cases d2 : m_cells K S ≤ x
  · rw [if_pos d2] at h; exact absurd rfl h
  rw [Int32.lt_iff_toInt_lt, ti_0] at d1
  rw [Int32.le_iff_toInt_le] at d2
  omega
theorem act_wind (h : IV E K S N) {t f b : Int32} (h0 : (m_wind K S t f b).1 = 0) (hq : q ∉ sL S) (hT : T = n_Report (nw S q 4) q t f b) {v : Int32} (A : Add0 (uI T 51 (K 11) v) (K 11) q u) (hG : GW K u) (hL : LW E K u) : KP E K S u N := by
  have e : ES S T := by rw [hT]; exact (ES.nw hq).tr (ES.ss ⟨rfl, rfl, rfl, rfl, rfl, rfl, rfl⟩)
  have D := ad_of h.g.1 h.l (by decide) (by decide) hq e (fun f x hx => by rw [hT]; exact (uI_a hx).trans ((uI_a hx).trans ((uI_a hx).trans (nw_I (k := 4) hx)))) (fun f x hx => by rw [hT]; exact nw_M (k := 4) hx) (by rw [hT]) A
  obtain ⟨f1, f2, f3, f4⟩ := A.flds
  have hb : OKw b 0 7 := by
    unfold m_wind at h0
    by_cases c1 : OKw t 0 600
    · rw [if_pos c1] at h0
      by_cases c2 : OKw f 0 9
      · rw [if_pos c2] at h0
        by_cases c3 : OKw b 0 7
        · exact c3
        · rw [if_neg c3] at h0; exact absurd h0 (show ¬ (2 : Nat) = 0 by decide)
      · rw [if_neg c2] at h0; exact absurd h0 (show ¬ (2 : Nat) = 0 by decide)
    · rw [if_neg c1] at h0; exact absurd h0 (show ¬ (2 : Nat) = 0 by decide)
  have r := iv_add h (by decide) (by decide) D hG hL (fun e => absurd e (by decide)) (fun e => absurd e (by decide)) (fun _ => by
    have e31 : sI u 31 q = b := by
      rw [f1, hT]
      exact (uI_f (by decide)).trans uI_s
    rw [e31]
    have a1 := hb.1
    have a2 := hb.2
    rw [Int32.lt_iff_toInt_lt, ti_0] at a1
    rw [Int32.lt_iff_toInt_lt, show (7 : Int32).toInt = 7 from by decide] at a2
    omega)
  exact ⟨r.1, r.2.1, r.2.2.1 (by decide), r.2.2.2⟩
theorem act_zone (h : IV E K S N) {t l1 b r f u1 : Int32} (hq : q ∉ sL S) (hT : T = n_Zone (nw S q 6) q t l1 b r f u1) {v : Int32} (A : Add0 (uI T 51 (K 12) v) (K 12) q u) (hG : GW K u) (hL : LW E K u) : KP E K S u N := by
  have e : ES S T := by rw [hT]; exact (ES.nw hq).tr (ES.ss ⟨rfl, rfl, rfl, rfl, rfl, rfl, rfl⟩)
  have D := ad_of h.g.1 h.l (by decide) (by decide) hq e (fun f x hx => by rw [hT]; exact (uI_a hx).trans ((uI_a hx).trans ((uI_a hx).trans ((uI_a hx).trans ((uI_a hx).trans ((uI_a hx).trans (nw_I (k := 6) hx))))))) (fun f x hx => by rw [hT]; exact nw_M (k := 6) hx) (by rw [hT]) A
  have r := iv_add h (by decide) (by decide) D hG hL (fun e => absurd e (by decide)) (fun e => absurd e (by decide)) (fun e => absurd e (by decide))
  exact ⟨r.1, r.2.1, r.2.2.1 (by decide), r.2.2.2⟩
theorem act_load (h : IV E K S N) {w g : Int32} (h0 : (m_load K S w g).1 = 0) (hq : q ∉ sL S) (hT : T = n_Load (nw S q 2) q (nI (sZ S (K 14))) w g) {v : Int32} (A : Add0 (uI T 51 (K 14) v) (K 14) q u) (hG : GW K u) (hL : LW E K u) : KP E K S u N := by
  have e : ES S T := by rw [hT]; exact (ES.nw hq).tr (ES.ss ⟨rfl, rfl, rfl, rfl, rfl, rfl, rfl⟩)
  have D := ad_of h.g.1 h.l (by decide) (by decide) hq e (fun f x hx => by rw [hT]; exact (uI_a hx).trans ((uI_a hx).trans ((uI_a hx).trans (nw_I (k := 2) hx)))) (fun f x hx => by rw [hT]; exact (uM_a hx).trans (nw_M (k := 2) hx)) (by rw [hT]) A
  obtain ⟨f1, f2, f3, f4⟩ := A.flds
  have hc : ¬ m_hasCell K S w = 0 := fun e => by
    unfold m_load at h0
    rw [if_pos e] at h0
    exact absurd h0 (show ¬ (1 : Nat) = 0 by decide)
  have hb := hasCell_of hc
  have r := iv_add h (by decide) (by decide) D hG hL (fun e => absurd e (by decide)) (fun _ => by
    have e19 : sI u 19 q = nI (sZ S (K 14)) := by
      rw [f1, hT]
      exact (uI_f (by decide)).trans ((uI_f (by decide)).trans ((uI_f (by decide)).trans uI_s))
    have e21 : sI u 21 q = w := by
      rw [f1, hT]
      exact (uI_f (by decide)).trans ((uI_f (by decide)).trans uI_s)
    have e22 : sM u 22 q = none := by
      rw [f3, hT]
      exact uM_s
    rw [e19, e21, e22]
    exact ⟨rfl, hb.1, hb.2, rfl⟩) (fun e => absurd e (by decide))
  exact ⟨r.1, r.2.1, r.2.2.1 (by decide), r.2.2.2⟩
end AQ
