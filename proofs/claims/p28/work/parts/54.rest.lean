/-! resting keeps what holds; the wind may turn cranes -/
def RK (E : EV) (K : Nat → Nat) (S u : PS) (N : Nat) : Prop := IV E K u N ∧ MO K S u ∧ sI u 40 (K 1) = sI S 40 (K 1)
section RS
variable {E : EV} {K : Nat → Nat} {S T M Q u : PS} {a b c d N k : Nat}
theorem RK.rf (h : IV E K S N) : RK E K S S N := ⟨h, MO.rf, rfl⟩
theorem RK.tr (h : RK E K S T N) (h2 : RK E K T u N) : RK E K S u N := ⟨h2.1, h.2.1.tr h2.2.1, h2.2.2.trans h.2.2⟩
/-- one crane changed, or none; the counts stay but time -/
theorem rest_keep (h : IV E K S N) (hs : SS S u) (hG : GW K u) (hM : sM u = sM S) (hA : sA u (K 6) = sA S (K 6))
    (ho : ∀ f c, c ≠ K 1 → f ≠ 8 → f ≠ 9 → f ≠ 10 → f ≠ 11 → f ≠ 12 → sI u f c = sI S f c) (h1 : ∀ f, f = 40 ∨ f = 41 → sI u f (K 1) = sI S f (K 1)) (h39 : (sI S 39 (K 1)).toInt ≤ (sI u 39 (K 1)).toInt ∧ (sI u 39 (K 1)).toInt ≤ 600)
    (hc : ∀ k, k < sZ S (K 13) → (0 ≤ (sI u 8 (cr K S k)).toInt ∧ (sI u 8 (cr K S k)).toInt ≤ 7) ∧ AY K u (cr K S k) ∧ (sI u 9 (cr K S k)).toInt ≤ (sI S 6 (cr K S k)).toInt ∧ (1 ≤ (sI u 10 (cr K S k)).toInt ∧ (sI u 10 (cr K S k)).toInt ≤ (sI u 9 (cr K S k)).toInt) ∧ (sI u 11 (cr K S k)).toInt ≤ (sI S 5 (cr K S k)).toInt - 1 ∧ (m_levelOf K S (m_plumb K u (cr K S k))).toInt < (sI u 11 (cr K S k)).toInt ∧ 0 ≤ (sI u 12 (cr K S k)).toInt ∧ (sI u 12 (cr K S k)).toInt ≤ 20) : RK E K S u N := by
  have hW := h.g.1
  have z := hs.z
  have t := h.ti
  have tb2 := t.2.1
  have n1 : ∀ i, i < sZ S (K 13) → cr K S i ≠ K 1 := fun i hi => ne_k (h.c hi).1.1 hW.k1 (by decide)
  have n21 : K 2 ≠ K 1 := ne_k hW.k2 hW.k1 (by decide)
  have e17 : sI u 17 (K 2) = sI S 17 (K 2) := ho 17 _ n21 (by decide) (by decide) (by decide) (by decide) (by decide)
  have e18 : sI u 18 (K 2) = sI S 18 (K 2) := ho 18 _ n21 (by decide) (by decide) (by decide) (by decide) (by decide)
  have hcells : m_cells K u = m_cells K S := by unfold m_cells; rw [e17, e18]
  have lv : ∀ x, m_levelOf K u x = m_levelOf K S x := fun x => by unfold m_levelOf; rw [hA, hs.2.2.2.2.2.1]
  have y : ∀ {r q : Int}, inY K u r q ↔ inY K S r q := fun {r q} => by unfold inY; rw [e17, e18]
  have e40 : sI u 40 (K 1) = sI S 40 (K 1) := h1 40 (Or.inl rfl)
  refine ⟨⟨⟨hG, h.l.ss hs, h.kd, ?_⟩, fun i hi => ?_, fun i j hi hj e => ?_, fun i hi => ?_, ⟨fun j hj => ?_, fun j hj c hc => ?_, fun i hi x hx => ?_⟩, by rw [hA]; exact h.lvl, ?_, h.rb.of hW (z _) (fun j _ => hs.elem _ _) (fun c hc => ho 31 c (ne_k hc hW.k1 (by decide)) (by decide) (by decide) (by decide) (by decide) (by decide))⟩, ⟨⟨by rw [z]; exact Nat.le_refl _, by rw [z]; exact Nat.le_refl _, by rw [z]; exact Nat.le_refl _⟩, ⟨h39.1, by rw [e40]; exact Int.le_refl _, by rw [h1 41 (Or.inr rfl)]; exact Int.le_refl _⟩, fun i hi => ?_, hcells⟩, e40⟩
  · unfold YD; rw [e17, e18]; exact h.y
  · rw [z] at hi
    rw [hs.cr]
    obtain ⟨⟨p1, p2, p3⟩, ⟨p4, p5, p6, p7⟩, -, ⟨q1, q2, -⟩, -, w1, r1, r2⟩ := h.c hi
    obtain ⟨x1, x2, x3, x4, x5, x6, x7⟩ := hc i hi
    have o := fun f => ho f (cr K S i) (n1 i hi)
    refine ⟨⟨hs.kk.mpr p1, p2, by rw [o 1 (by decide) (by decide) (by decide) (by decide) (by decide)]; exact p3⟩, ⟨?_, ?_, ?_, ?_⟩, ⟨x1.1, x1.2, x2, by rw [o 6 (by decide) (by decide) (by decide) (by decide) (by decide)]; exact x3, x4.1, x4.2⟩, ⟨?_, ?_, ?_, by rw [lv]; exact x6⟩, x7, ?_, ?_, ?_⟩
    · unfold TW
      rw [y, o 3 (by decide) (by decide) (by decide) (by decide) (by decide), o 4 (by decide) (by decide) (by decide) (by decide) (by decide), o 6 (by decide) (by decide) (by decide) (by decide) (by decide)]
      exact p4
    · rw [o 6 (by decide) (by decide) (by decide) (by decide) (by decide)]; exact p5
    · rw [o 6 (by decide) (by decide) (by decide) (by decide) (by decide)]; exact p6
    · rw [o 2 (by decide) (by decide) (by decide) (by decide) (by decide), o 3 (by decide) (by decide) (by decide) (by decide) (by decide), o 4 (by decide) (by decide) (by decide) (by decide) (by decide), e17]; exact p7
    · rw [o 5 (by decide) (by decide) (by decide) (by decide) (by decide)]; exact q1
    · rw [o 5 (by decide) (by decide) (by decide) (by decide) (by decide)]; exact q2
    · rw [o 5 (by decide) (by decide) (by decide) (by decide) (by decide)]; exact x5
    · rw [o 13 (by decide) (by decide) (by decide) (by decide) (by decide)]; exact w1
    · rw [o 15 (by decide) (by decide) (by decide) (by decide) (by decide)]; exact r1
    · rw [o 15 (by decide) (by decide) (by decide) (by decide) (by decide), e40]; exact r2
  · rw [z] at hi hj
    rw [hs.cr, hs.cr, ho 2 _ (n1 i hi) (by decide) (by decide) (by decide) (by decide) (by decide), ho 2 _ (n1 j hj) (by decide) (by decide) (by decide) (by decide) (by decide)] at e
    exact h.tw i j hi hj e
  · rw [z] at hi
    rw [hs.cr, lv, ho 2 _ (n1 i hi) (by decide) (by decide) (by decide) (by decide) (by decide)]
    exact h.lv i hi
  · rw [z] at hj
    have d2 : ld K S j ≠ K 1 := ne_k (LSt.el hW.l14 hj) hW.k1 (by decide)
    rw [hs.ld, ho 19 _ d2 (by decide) (by decide) (by decide) (by decide) (by decide), ho 21 _ d2 (by decide) (by decide) (by decide) (by decide) (by decide), hcells]
    exact h.li.1 j hj
  · rw [z] at hj
    rw [hM, hs.ld] at hc
    obtain ⟨i, i1, i2, i3⟩ := h.li.2.1 j hj c hc
    exact ⟨i, by rw [z]; exact i1, by rw [hs.cr]; exact i2, by rw [hM, hs.ld]; exact i3⟩
  · rw [z] at hi
    rw [hM, hs.cr] at hx
    obtain ⟨i2, i3, i4, i5⟩ := h.li.2.2 i hi x hx
    exact ⟨i2, by rw [z]; exact i3, by rw [hs.ld]; exact i4, by rw [hM, hs.cr]; exact i5⟩
  · have tb1 := t.1
    refine ⟨by omega, ⟨by rw [e40]; exact tb2.1, by rw [e40]; omega⟩, ?_, ?_⟩
    · rw [h1 41 (Or.inr rfl)]; exact t.2.2.1
    · rw [ho 50 _ (ne_k hW.k0 hW.k1 (by decide)) (by decide) (by decide) (by decide) (by decide) (by decide)]; exact t.2.2.2
  · rw [hs.cr, ho 15 _ (n1 i hi) (by decide) (by decide) (by decide) (by decide) (by decide)]
    exact Int.le_refl _
/-- an unchanged crane's part of it -/
theorem rest_old (h : IV E K S N) {k : Nat} (hk : k < sZ S (K 13)) (h17 : sI u 17 (K 2) = sI S 17 (K 2)) (h18 : sI u 18 (K 2) = sI S 18 (K 2)) (hf : ∀ f, f ≤ 11 → sI u f (cr K S k) = sI S f (cr K S k)) (h12 : 0 ≤ (sI u 12 (cr K S k)).toInt ∧ (sI u 12 (cr K S k)).toInt ≤ 20) :
    (0 ≤ (sI u 8 (cr K S k)).toInt ∧ (sI u 8 (cr K S k)).toInt ≤ 7) ∧ AY K u (cr K S k) ∧ (sI u 9 (cr K S k)).toInt ≤ (sI S 6 (cr K S k)).toInt ∧ (1 ≤ (sI u 10 (cr K S k)).toInt ∧ (sI u 10 (cr K S k)).toInt ≤ (sI u 9 (cr K S k)).toInt) ∧ (sI u 11 (cr K S k)).toInt ≤ (sI S 5 (cr K S k)).toInt - 1 ∧ (m_levelOf K S (m_plumb K u (cr K S k))).toInt < (sI u 11 (cr K S k)).toInt ∧ 0 ≤ (sI u 12 (cr K S k)).toInt ∧ (sI u 12 (cr K S k)).toInt ≤ 20 := by
  have c := h.c hk
  have pe : m_plumb K u (cr K S k) = m_plumb K S (cr K S k) := plumb_eq (v := u) (hf 3 (by decide)) (hf 4 (by decide)) (hf 8 (by decide)) (hf 10 (by decide)) h17 h18
  rw [hf 8 (by decide), hf 9 (by decide), hf 10 (by decide), hf 11 (by decide), pe]
  refine ⟨⟨c.2.2.1.1, c.2.2.1.2.1⟩, fun i i0 i1 => ?_, c.2.2.1.2.2.2.1, ⟨c.2.2.1.2.2.2.2.1, c.2.2.1.2.2.2.2.2⟩, c.2.2.2.1.2.2.1, c.2.2.2.1.2.2.2, h12⟩
  rw [hf 9 (by decide)] at i1
  have := c.2.2.1.2.2.1 i i0 i1
  unfold inY dR dC bea at this ⊢
  rw [hf 3 (by decide), hf 4 (by decide), hf 8 (by decide), h17, h18]
  exact this
/-! idling -/
def IDL (K : Nat → Nat) (S T : PS) (t : Int32) : Prop := SS S T ∧ GW K T ∧ sM T = sM S ∧ sA T = sA S ∧ (∀ f c, f ≠ 12 → (f ≠ 39 ∨ c ≠ K 1) → sI T f c = sI S f c) ∧ sI T 39 (K 1) = sI S 39 (K 1) + t ∧ ∀ k, k < sZ S (K 13) → 0 ≤ (sI T 12 (cr K S k)).toInt ∧ (sI T 12 (cr K S k)).toInt ≤ 20
theorem idle_lp (h : IV E K S N) {t : Int32} (ht : 0 ≤ t.toInt ∧ t.toInt ≤ 100) : ∀ (r j : Nat) (T : PS), j + r = sZ S (K 13) → IDL K S T t → IDL K S (m_idle_lp K S t r j T) t
  | 0, j, T, _, hT => hT
  | r + 1, j, T, hj, hT => by
    simp only [m_idle_lp]
    obtain ⟨h1, h2, h3, h4, h5, h6, h7⟩ := hT
    have hk : j < sZ S (K 13) := by omega
    have ec : el T (K 13) j = cr K S j := h1.cr j
    refine idle_lp h ht r (j + 1) _ (by omega) ?_
    rw [ec]
    have e12 : sI (m_settle K T (cr K S j) t) 12 (cr K S j) = imax (sI T 12 (cr K S j) - t) 0 := uI_s
    refine ⟨h1, ⟨h2.1.uI, AW.uI (by decide) (by decide) h2.2.1, WM.uI h2.2.2⟩, h3, h4, fun f c f12 f39 => (uI_f f12).trans (h5 f c f12 f39), (uI_f (by decide)).trans h6, fun k hk2 => ?_⟩
    by_cases e : cr K S k = cr K S j
    · rw [e, e12, ti_max, ti_0]
      have b := h7 j hk
      rw [ti_sub (by omega) (by omega)]
      omega
    · have : sI (m_settle K T (cr K S j) t) 12 (cr K S k) = sI T 12 (cr K S k) := uI_a e
      rw [this]
      exact h7 k hk2
theorem act_idle (h : IV E K S N) {t : Int32} (ht : 0 ≤ t.toInt ∧ t.toInt ≤ 100) (h6 : (sI S 39 (K 1)).toInt + t.toInt ≤ 600) : RK E K S (m_idle K S t) N := by
  have hW := h.g.1
  have tb := h.ti.1
  have t39 : (sI S 39 (K 1) + t).toInt = (sI S 39 (K 1)).toInt + t.toInt := ti_add (by omega) (by omega)
  have I0 : IDL K S (uI S 39 (K 1) (sI S 39 (K 1) + t)) t :=
    ⟨SS.rf, ⟨hW.uI, AW.uI (by decide) (by decide) h.g.2.1, WM.uI h.g.2.2⟩, rfl, rfl, fun f c _ f39 => f39.elim (fun q => uI_f q) (fun q => uI_a q), uI_s, fun k hk => by
      rw [uI_f (by decide)]; exact (h.c hk).2.2.2.2.1⟩
  have I := idle_lp h ht (sZ S (K 13)) 0 _ (by omega) I0
  unfold m_idle
  generalize m_idle_lp K S t (sZ S (K 13)) 0 (uI S 39 (K 1) (sI S 39 (K 1) + t)) = u at I ⊢
  obtain ⟨i1, i2, i3, i4, i5, i6, i7⟩ := I
  refine rest_keep h i1 i2 i3 (congrFun i4 _) (fun f c hc _ _ _ _ h12 => i5 f c h12 (Or.inr hc)) (fun f hf => i5 f _ (by omega) (Or.inl (by omega))) (by rw [i6, t39]; omega) (fun k hk => ?_)
  exact rest_old h hk (i5 17 _ (by decide) (Or.inl (by decide))) (i5 18 _ (by decide) (Or.inl (by decide))) (fun f hf => i5 f _ (by omega) (Or.inl (by omega))) (i7 k hk)
/-! the wind turns one crane after another -/
theorem wind_lp (h : IV E K S N) : ∀ (r j u : Nat), j + r ≤ sZ S (K 11) → (0 ≤ (sI S 31 u).toInt ∧ (sI S 31 u).toInt ≤ 7) → 0 ≤ (sI S 31 (m_windNow_lp K S r j u)).toInt ∧ (sI S 31 (m_windNow_lp K S r j u)).toInt ≤ 7
  | 0, j, u, _, hu => hu
  | r + 1, j, u, hj, hu => by
    simp only [m_windNow_lp]
    split
    · exact wind_lp h r (j + 1) u (by omega) hu
    · split
      · exact wind_lp h r (j + 1) u (by omega) hu
      · exact wind_lp h r (j + 1) _ (by omega) (h.rb.2 j (by omega))
theorem wind_b (h : IV E K S N) : 0 ≤ (m_windBearing K S).toInt ∧ (m_windBearing K S).toInt ≤ 7 := wind_lp h _ 0 _ (by omega) h.rb.1
theorem drawIn_f {b : Int32} {f x : Nat} (h8 : f ≠ 8) (h9 : f ≠ 9) (h10 : f ≠ 10) (h11 : f ≠ 11) : sI (m_drawIn K S a b) f x = sI S f x := (uI_f h11).trans ((uI_f h10).trans (face_f h8 h9 x))
theorem drawIn_a {b : Int32} {f x : Nat} (hx : x ≠ a) : sI (m_drawIn K S a b) f x = sI S f x := (uI_a hx).trans ((uI_a hx).trans ((uI_a hx).trans (uI_a hx)))
theorem drawIn_8 {b : Int32} : sI (m_drawIn K S a b) 8 a = b := (uI_f (by decide)).trans ((uI_f (by decide)).trans face_8)
theorem drawIn_9 {b : Int32} : sI (m_drawIn K S a b) 9 a = nI (m_faceN K S a b 21 0) := (uI_f (by decide)).trans ((uI_f (by decide)).trans uI_s)
theorem drawIn_10 {b : Int32} : sI (m_drawIn K S a b) 10 a = 1 := (uI_f (by decide)).trans uI_s
theorem drawIn_11 {b : Int32} : sI (m_drawIn K S a b) 11 a = sI S 5 a - 1 := uI_s.trans (by rw [face_f (by decide) (by decide)])
theorem turn2 (hQ : IV E K Q N) {k : Nat} (hkQ : k < sZ Q (K 13)) {b : Int32} (hb : 0 ≤ b.toInt ∧ b.toInt ≤ 7) (t8 : sI Q 8 (K 4) = b) (t9 : sI Q 9 (K 4) = nI (m_faceN K Q (cr K Q k) b 21 0)) (t10 : sI Q 10 (K 4) = 1) (t11 : sI Q 11 (K 4) = sI Q 5 (cr K Q k) - 1)
    (tf : ∀ f, 1 ≤ f → f ≤ 7 → sI Q f (K 4) = sI Q f (cr K Q k)) (hh : m_hindrance K Q (K 4) 0 (-1) = 0) : RK E K Q (m_drawIn K Q (cr K Q k) b) N := by
  have c1 := hQ.c hkQ
  have hWQ := hQ.g.1
  have F := free_of hh
  have po := poss_of F.1
  have gd := g_drawIn hWQ hQ.g.2.1 hQ.g.2.2 c1.1.1.1 c1.1.1.2 b
  have n2a : K 2 ≠ cr K Q k := ne_k hWQ.k2 c1.1.1 (by decide)
  have n1a : K 1 ≠ cr K Q k := ne_k hWQ.k1 c1.1.1 (by decide)
  have fs := face_spec (b := b) c1.2.1.1
  have u8 : sI (m_drawIn K Q (cr K Q k) b) 8 (cr K Q k) = b := drawIn_8
  have u9 : sI (m_drawIn K Q (cr K Q k) b) 9 (cr K Q k) = sI Q 9 (K 4) := by rw [t9]; exact drawIn_9
  have u9' : sI (m_drawIn K Q (cr K Q k) b) 9 (cr K Q k) = sI (m_face K Q (cr K Q k) b) 9 (cr K Q k) := (uI_f (by decide)).trans (uI_f (by decide))
  have u10 : sI (m_drawIn K Q (cr K Q k) b) 10 (cr K Q k) = 1 := drawIn_10
  have u11 : sI (m_drawIn K Q (cr K Q k) b) 11 (cr K Q k) = sI Q 5 (cr K Q k) - 1 := drawIn_11
  have uf : ∀ f x, f ≠ 8 → f ≠ 9 → f ≠ 10 → f ≠ 11 → sI (m_drawIn K Q (cr K Q k) b) f x = sI Q f x := fun f x h8 h9 h10 h11 => drawIn_f h8 h9 h10 h11
  have uo : ∀ f x, x ≠ cr K Q k → sI (m_drawIn K Q (cr K Q k) b) f x = sI Q f x := fun f x hx => drawIn_a hx
  have uM' : sM (m_drawIn K Q (cr K Q k) b) = sM Q := rfl
  have uA' : sA (m_drawIn K Q (cr K Q k) b) = sA Q := rfl
  generalize m_drawIn K Q (cr K Q k) b = u at gd u8 u9 u9' u10 u11 uf uo uM' uA' ⊢
  have pe : m_plumb K u (cr K Q k) = m_plumb K Q (K 4) := plumb_eq (v := u) ((uf 3 _ (by decide) (by decide) (by decide) (by decide)).trans (tf 3 (by decide) (by decide)).symm) ((uf 4 _ (by decide) (by decide) (by decide) (by decide)).trans (tf 4 (by decide) (by decide)).symm) (u8.trans t8.symm) (u10.trans t10.symm) (uo 17 _ n2a) (uo 18 _ n2a)
  refine rest_keep hQ gd.2 gd.1 uM' (congrFun uA' _) (fun f x _ h8 h9 h10 h11 _ => uf f x h8 h9 h10 h11) (fun f _ => uo f _ n1a) ⟨by rw [uo 39 _ n1a]; exact Int.le_refl _, by rw [uo 39 _ n1a]; exact hQ.ti.1.2⟩ (fun i hi => ?_)
  by_cases e : i = k
  · subst e
    refine ⟨by rw [u8]; exact hb, fun j j0 j1 => ?_, by rw [u9']; exact fs.2.2, ⟨by rw [u10, ti_1]; omega, ?_⟩, ?_, ?_, by rw [uf 12 _ (by decide) (by decide) (by decide) (by decide)]; exact c1.2.2.2.2.1⟩
    · rw [u9'] at j1
      have := fs.1 j j0 j1
      unfold inY dR dC bea at this ⊢
      rw [face_8, face_f (by decide) (by decide), face_f (by decide) (by decide), face_f (by decide) (by decide), face_f (by decide) (by decide)] at this
      rw [uf 3 _ (by decide) (by decide) (by decide) (by decide), uf 4 _ (by decide) (by decide) (by decide) (by decide), u8, uo 17 _ n2a, uo 18 _ n2a]
      exact this
    · have p2 := po.2.1
      rw [t10] at p2
      rw [u10, u9]
      exact p2
    · have m := c1.2.2.2.1
      rw [u11, ti_sub (by rw [ti_1]; omega) (by rw [ti_1]; omega), ti_1]
      omega
    · have c3 := F.2.2.1
      have lb := level_in hQ (m_plumb K Q (K 4))
      have m := c1.2.2.2.1
      have v11 : (sI Q 11 (K 4)).toInt = (sI Q 5 (cr K Q i)).toInt - 1 := by rw [t11, ti_sub (by rw [ti_1]; omega) (by rw [ti_1]; omega), ti_1]
      have w11 : (sI u 11 (cr K Q i)).toInt = (sI Q 5 (cr K Q i)).toInt - 1 := by rw [u11, ti_sub (by rw [ti_1]; omega) (by rw [ti_1]; omega), ti_1]
      rw [Int32.le_iff_toInt_le, ti_1, ti_sub (by omega) (by omega), v11] at c3
      rw [pe, w11]
      omega
  · have ne : cr K Q i ≠ cr K Q k := fun e2 => e (hQ.inj hi hkQ e2)
    exact rest_old hQ hi (uo 17 _ n2a) (uo 18 _ n2a) (fun f _ => uo f _ ne) (by rw [uo 12 _ ne]; exact (hQ.c hi).2.2.2.2.1)
theorem turn1 (h : IV E K S N) {k : Nat} (hk : k < sZ S (K 13)) {b : Int32} (hb : 0 ≤ b.toInt ∧ b.toInt ≤ 7) : RK E K S (m_drawIn K (m_mimic K S (K 4) (cr K S k)) (K 4) b) N ∧
    (m_hindrance K (m_drawIn K (m_mimic K S (K 4) (cr K S k)) (K 4) b) (K 4) 0 (-1) = 0 → RK E K S (m_drawIn K (m_drawIn K (m_mimic K S (K 4) (cr K S k)) (K 4) b) (cr K S k) b) N) := by
  have c0 := h.c hk
  have ha := c0.1.2.1
  have hW := h.g.1
  have g1 := g_mimic hW h.g.2.1 h.g.2.2 hW.k4.1 hW.k4.2 c0.1.1.1 c0.1.1.2
  have g2 := g_drawIn g1.1.1 g1.1.2.1 g1.1.2.2 g1.1.1.k4.1 g1.1.1.k4.2 b
  have qs : QS K S (m_drawIn K (m_mimic K S (K 4) (cr K S k)) (K 4) b) := (q_mimic _).tr (q_drawIn b)
  have hQ := h.qs g2.1 qs
  have gq := qs.ag h.kd
  have first : RK E K S (m_drawIn K (m_mimic K S (K 4) (cr K S k)) (K 4) b) N := ⟨hQ, qs.mo h, gq.i 40 hW.n1⟩
  refine ⟨first, fun hh => first.tr ?_⟩
  have t8 : sI (m_drawIn K (m_mimic K S (K 4) (cr K S k)) (K 4) b) 8 (K 4) = b := drawIn_8
  have t10 : sI (m_drawIn K (m_mimic K S (K 4) (cr K S k)) (K 4) b) 10 (K 4) = 1 := drawIn_10
  have t11 : sI (m_drawIn K (m_mimic K S (K 4) (cr K S k)) (K 4) b) 11 (K 4) = sI S 5 (cr K S k) - 1 := drawIn_11.trans (by rw [mimic_f ha 5 (by decide) (by decide)])
  have tf : ∀ f, 1 ≤ f → f ≤ 7 → sI (m_drawIn K (m_mimic K S (K 4) (cr K S k)) (K 4) b) f (K 4) = sI S f (cr K S k) := fun f f1 f2 => (drawIn_f (by omega) (by omega) (by omega) (by omega)).trans (mimic_f ha f f1 (by omega))
  have e17 : sI (m_mimic K S (K 4) (cr K S k)) 17 (K 2) = sI (m_drawIn K (m_mimic K S (K 4) (cr K S k)) (K 4) b) 17 (K 2) := (mimic_a hW.n2 17).trans (gq.i 17 hW.n2).symm
  have e18 : sI (m_mimic K S (K 4) (cr K S k)) 18 (K 2) = sI (m_drawIn K (m_mimic K S (K 4) (cr K S k)) (K 4) b) 18 (K 2) := (mimic_a hW.n2 18).trans (gq.i 18 hW.n2).symm
  have qa : ∀ f, sI (m_drawIn K (m_mimic K S (K 4) (cr K S k)) (K 4) b) f (cr K S k) = sI S f (cr K S k) := fun f => gq.i f ha
  have fN : m_faceN K (m_mimic K S (K 4) (cr K S k)) (K 4) b 21 0 = m_faceN K (m_drawIn K (m_mimic K S (K 4) (cr K S k)) (K 4) b) (cr K S k) b 21 0 :=
    x_faceN ((mimic_f ha 3 (by decide) (by decide)).trans (qa 3).symm) ((mimic_f ha 4 (by decide) (by decide)).trans (qa 4).symm) ((mimic_f ha 6 (by decide) (by decide)).trans (qa 6).symm) e17 e18 21 0
  have t9 : sI (m_drawIn K (m_mimic K S (K 4) (cr K S k)) (K 4) b) 9 (K 4) = nI (m_faceN K (m_drawIn K (m_mimic K S (K 4) (cr K S k)) (K 4) b) (cr K S k) b 21 0) := drawIn_9.trans (congrArg nI fN)
  clear fN
  have zc := gq.cr k
  have zz := gq.z (K 13)
  generalize m_drawIn K (m_mimic K S (K 4) (cr K S k)) (K 4) b = Q at hQ hh t8 t9 t10 t11 tf qa zc zz ⊢
  have r := turn2 (k := k) hQ (by rw [zz]; exact hk) hb t8 (by rw [zc]; exact t9) t10 (by rw [zc, qa 5]; exact t11) (fun f f1 f2 => by rw [zc, qa f]; exact tf f f1 f2) hh
  rw [zc] at r
  exact r
theorem turn_lp (hb : 0 ≤ (m_windBearing K S).toInt ∧ (m_windBearing K S).toInt ≤ 7) : ∀ (r j : Nat) (T : PS) (n : Int32), j + r ≤ sZ T (K 13) → IV E K T N → RK E K T (m_turnToWind_lp K S r j T n).2 N
  | 0, j, T, n, _, h => RK.rf h
  | r + 1, j, T, n, hj, h => by
    have t := turn1 h (k := j) (by omega) hb
    have z1 : sZ (m_drawIn K (m_mimic K T (K 4) (cr K T j)) (K 4) (m_windBearing K S)) = sZ T := rfl
    have z2 : sZ (m_drawIn K (m_drawIn K (m_mimic K T (K 4) (cr K T j)) (K 4) (m_windBearing K S)) (cr K T j) (m_windBearing K S)) = sZ T := rfl
    simp only [m_turnToWind_lp]
    show RK E K T (if sM (m_drawIn K (m_mimic K T (K 4) (cr K T j)) (K 4) (m_windBearing K S)) 14 (cr K T j) = none then if m_hindrance K (m_drawIn K (m_mimic K T (K 4) (cr K T j)) (K 4) (m_windBearing K S)) (K 4) 0 (-1) = 0 then if sI (m_drawIn K (m_mimic K T (K 4) (cr K T j)) (K 4) (m_windBearing K S)) 8 (cr K T j) = m_windBearing K S then m_turnToWind_lp K S r (j + 1) (m_drawIn K (m_drawIn K (m_mimic K T (K 4) (cr K T j)) (K 4) (m_windBearing K S)) (cr K T j) (m_windBearing K S)) (n + 0) else m_turnToWind_lp K S r (j + 1) (m_drawIn K (m_drawIn K (m_mimic K T (K 4) (cr K T j)) (K 4) (m_windBearing K S)) (cr K T j) (m_windBearing K S)) (n + 1) else m_turnToWind_lp K S r (j + 1) (m_drawIn K (m_mimic K T (K 4) (cr K T j)) (K 4) (m_windBearing K S)) n else m_turnToWind_lp K S r (j + 1) (m_drawIn K (m_mimic K T (K 4) (cr K T j)) (K 4) (m_windBearing K S)) n : Int32 × PS).2 N
    generalize m_drawIn K (m_mimic K T (K 4) (cr K T j)) (K 4) (m_windBearing K S) = T1 at t z1 z2 ⊢
    generalize m_drawIn K T1 (cr K T j) (m_windBearing K S) = T2 at t z2 ⊢
    by_cases c1 : sM T1 14 (cr K T j) = none
    · rw [if_pos c1]
      by_cases c2 : m_hindrance K T1 (K 4) 0 (-1) = 0
      · rw [if_pos c2]
        by_cases c3 : sI T1 8 (cr K T j) = m_windBearing K S
        · rw [if_pos c3]
          exact (t.2 c2).tr (turn_lp hb r (j + 1) T2 _ (by rw [z2]; omega) (t.2 c2).1)
        · rw [if_neg c3]
          exact (t.2 c2).tr (turn_lp hb r (j + 1) T2 _ (by rw [z2]; omega) (t.2 c2).1)
      · rw [if_neg c2]
        exact t.1.tr (turn_lp hb r (j + 1) T1 _ (by rw [z1]; omega) t.1.1)
    · rw [if_neg c1]
      exact t.1.tr (turn_lp hb r (j + 1) T1 _ (by rw [z1]; omega) t.1.1)
theorem act_rest (h : IV E K S N) (t : Int32) : RK E K S (m_rest K S t).2.2 N := by
  have tb := h.ti.1
  unfold m_rest
  by_cases c1 : OKw t 1 100
  · rw [if_pos c1]
    have t1 := c1.1
    have t2 := c1.2
    rw [Int32.lt_iff_toInt_lt, ti_1] at t1
    rw [Int32.lt_iff_toInt_lt, show (100 : Int32).toInt = 100 from by decide] at t2
    by_cases c2 : t ≤ 600 - sI S 39 (K 1)
    · rw [if_pos c2]
      rw [Int32.le_iff_toInt_le, ti_sub (by rw [show (600 : Int32).toInt = 600 from by decide]; omega) (by rw [show (600 : Int32).toInt = 600 from by decide]; omega), show (600 : Int32).toInt = 600 from by decide] at c2
      have i := act_idle h (t := t) ⟨by omega, by omega⟩ (by omega)
      by_cases c3 : m_force K (m_idle K S t) < 8
      · rw [if_pos c3]; exact i
      · rw [if_neg c3]
        have w := turn_lp (wind_b i.1) (sZ (m_idle K S t) (K 13)) 0 (m_idle K S t) 0 (by omega) i.1
        generalize m_idle K S t = I at i w ⊢
        show RK E K S (m_turnToWind K I).2 N
        exact i.tr w
    · rw [if_neg c2]; exact RK.rf h
  · rw [if_neg c1]; exact RK.rf h
end RS
