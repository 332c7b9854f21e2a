/-! a step keeps what holds, and tells what it would -/
def sx (S : PS) (a : Nat) (T : PS) (b : Nat) : Prop := ∀ f, 1 ≤ f → f ≤ 11 → sI T f b = sI S f a
section ST
variable {E : EV} {K : Nat → Nat} {S T M Q u : PS} {a b c d N k : Nat}
theorem x_row (h : sx S a T b) (d : Int32) : m_rowAt K T b d = m_rowAt K S a d := by unfold m_rowAt; rw [h 3 (by decide) (by decide), h 8 (by decide) (by decide)]
theorem x_col (h : sx S a T b) (d : Int32) : m_columnAt K T b d = m_columnAt K S a d := by unfold m_columnAt; rw [h 4 (by decide) (by decide), h 8 (by decide) (by decide)]
theorem x_apart (h : sx S a T b) (r q : Int32) : m_apartFromJib K T b r q = m_apartFromJib K S a r q := by
  unfold m_apartFromJib; rw [h 3 (by decide) (by decide), h 4 (by decide) (by decide), h 8 (by decide) (by decide), h 9 (by decide) (by decide)]
theorem x_apOf_lp (h : sx S a T b) (g : sx S c T d) : ∀ (r j : Nat) (n : Int32), m_apartFromJibOf_lp K T b d r j n = m_apartFromJibOf_lp K S a c r j n
  | 0, j, n => rfl
  | r + 1, j, n => by simp only [m_apartFromJibOf_lp]; rw [x_apOf_lp h g r (j + 1), x_apart g, x_row h, x_col h]
theorem x_apOf (h : sx S a T b) (g : sx S c T d) : m_apartFromJibOf K T b d = m_apartFromJibOf K S a c := by unfold m_apartFromJibOf; rw [x_apOf_lp h g, h 9 (by decide) (by decide)]
theorem x_sweeps (h : sx S a T b) (g : sx S c T d) (t : Int32) : m_sweepsOn K T b d t = m_sweepsOn K S a c t := by
  unfold m_sweepsOn; rw [x_apart h, h 5 (by decide) (by decide), g 5 (by decide) (by decide), g 3 (by decide) (by decide), g 4 (by decide) (by decide)]
theorem x_clash (h : sx S a T b) (g : sx S c T d) (n1 : c ≠ a) (n2 : d ≠ b) (t : Int32) : m_clashRule K T b d t = m_clashRule K S a c t := by
  unfold m_clashRule
  rw [if_neg n1, if_neg n2, h 5 (by decide) (by decide), g 5 (by decide) (by decide), h 10 (by decide) (by decide), g 10 (by decide) (by decide), h 11 (by decide) (by decide), g 11 (by decide) (by decide), x_sweeps h g, x_sweeps g h, x_apOf h g, x_apOf g h, x_apart g, x_apart h, x_row h, x_col h, x_row g, x_col g]
theorem x_faceN {x : Int32} (h3 : sI T 3 b = sI S 3 a) (h4 : sI T 4 b = sI S 4 a) (h6 : sI T 6 b = sI S 6 a) (h17 : sI T 17 (K 2) = sI S 17 (K 2)) (h18 : sI T 18 (K 2) = sI S 18 (K 2)) : ∀ (r j : Nat), m_faceN K T b x r j = m_faceN K S a x r j
  | 0, j => rfl
  | r + 1, j => by
    have e1 : m_rowAt K (uI (uI T 8 b x) 9 b (nI j)) b (nI j + 1) = m_rowAt K (uI (uI S 8 a x) 9 a (nI j)) a (nI j + 1) := by
      show m_rowAt K (fv T b x (nI j)) b (nI j + 1) = m_rowAt K (fv S a x (nI j)) a (nI j + 1)
      unfold m_rowAt
      rw [fv_8, fv_8, fv_f (by decide) (by decide), fv_f (by decide) (by decide), h3]
    have e2 : m_columnAt K (uI (uI T 8 b x) 9 b (nI j)) b (nI j + 1) = m_columnAt K (uI (uI S 8 a x) 9 a (nI j)) a (nI j + 1) := by
      show m_columnAt K (fv T b x (nI j)) b (nI j + 1) = m_columnAt K (fv S a x (nI j)) a (nI j + 1)
      unfold m_columnAt
      rw [fv_8, fv_8, fv_f (by decide) (by decide), fv_f (by decide) (by decide), h4]
    have e3 : ∀ r q, m_hasPlace K (uI (uI T 8 b x) 9 b (nI j)) r q = m_hasPlace K (uI (uI S 8 a x) 9 a (nI j)) r q := fun r q => by
      show m_hasPlace K (fv T b x (nI j)) r q = m_hasPlace K (fv S a x (nI j)) r q
      unfold m_hasPlace
      rw [fv_f (by decide) (by decide), fv_f (by decide) (by decide), fv_f (by decide) (by decide), fv_f (by decide) (by decide), h17, h18]
    simp only [m_faceN]
    rw [h6, x_faceN h3 h4 h6 h17 h18 r (j + 1), e1, e2, e3]
/-- the same move of two cranes that stand the same -/
theorem x_move (h : sx S a T b) (h17 : sI T 17 (K 2) = sI S 17 (K 2)) (h18 : sI T 18 (K 2) = sI S 18 (K 2)) (x : Int32) : sx (m_move K S a x) a (m_move K T b x) b := by
  have face : ∀ y, sx (m_face K S a y) a (m_face K T b y) b := fun y f f1 f2 => by
    by_cases e8 : f = 8
    · rw [e8, face_8, face_8]
    by_cases e9 : f = 9
    · rw [e9]
      show sI (uI (uI T 8 b y) 9 b _) 9 b = sI (uI (uI S 8 a y) 9 a _) 9 a
      rw [uI_s, uI_s, x_faceN (h 3 (by decide) (by decide)) (h 4 (by decide) (by decide)) (h 6 (by decide) (by decide)) h17 h18]
    rw [face_f e8 e9, face_f e8 e9]
    exact h f f1 f2
  have one : ∀ g v, sx (uI S g a v) a (uI T g b v) b := fun g v f f1 f2 => by
    by_cases e : f = g
    · rw [e, uI_s, uI_s]
    · rw [uI_f e, uI_f e]; exact h f f1 f2
  unfold m_move
  rw [h 8 (by decide) (by decide), h 10 (by decide) (by decide), h 11 (by decide) (by decide)]
  repeat' split
  · exact face _
  · exact face _
  · exact one _ _
  · exact one _ _
  · exact one _ _
  · exact one _ _
  · exact h
theorem move_o {x : Int32} {f c : Nat} (hc : c ≠ a) : sI (m_move K S a x) f c = sI S f c := by
  unfold m_move
  repeat' split
  · exact (uI_a hc).trans (uI_a hc)
  · exact (uI_a hc).trans (uI_a hc)
  · exact uI_a hc
  · exact uI_a hc
  · exact uI_a hc
  · exact uI_a hc
  · rfl
theorem move_f {x : Int32} {f c : Nat} (h8 : f ≠ 8) (h9 : f ≠ 9) (h10 : f ≠ 10) (h11 : f ≠ 11) : sI (m_move K S a x) f c = sI S f c := by
  unfold m_move
  repeat' split
  · exact face_f h8 h9 _
  · exact face_f h8 h9 _
  · exact uI_f h10
  · exact uI_f h10
  · exact uI_f h11
  · exact uI_f h11
  · rfl
theorem move_m {x : Int32} : sM (m_move K S a x) = sM S := by
  unfold m_move
  repeat' split
  all_goals rfl
/-- bearings stay bearings, and the arm stays within the yard -/
theorem move_ay (hT : TW K S a) (hb : 0 ≤ (sI S 8 a).toInt ∧ (sI S 8 a).toInt ≤ 7) (hA : AY K S a) (hl : (sI S 9 a).toInt ≤ (sI S 6 a).toInt) (hn : K 2 ≠ a) (x : Int32) : (0 ≤ (sI (m_move K S a x) 8 a).toInt ∧ (sI (m_move K S a x) 8 a).toInt ≤ 7) ∧ AY K (m_move K S a x) a ∧ (sI (m_move K S a x) 9 a).toInt ≤ (sI S 6 a).toInt := by
  have a7 : ∀ y : Int32, 0 ≤ (y &&& 7).toInt ∧ (y &&& 7).toInt ≤ 7 := fun y => by
    have := and7_in y
    rw [vp_in_iff] at this
    omega
  have one : ∀ g v, (g = 10 ∨ g = 11) → (0 ≤ (sI (uI S g a v) 8 a).toInt ∧ (sI (uI S g a v) 8 a).toInt ≤ 7) ∧ AY K (uI S g a v) a ∧ (sI (uI S g a v) 9 a).toInt ≤ (sI S 6 a).toInt := fun g v hg => by
    have e : ∀ f c, f ≠ g → sI (uI S g a v) f c = sI S f c := fun f c hf => uI_f hf
    refine ⟨by rw [e 8 _ (by omega)]; exact hb, fun i i0 i1 => ?_, by rw [e 9 _ (by omega)]; exact hl⟩
    rw [e 9 _ (by omega)] at i1
    have := hA i i0 i1
    unfold inY dR dC bea at this ⊢
    rw [e 3 _ (by omega), e 4 _ (by omega), e 8 _ (by omega), e 17 _ (by omega), e 18 _ (by omega)]
    exact this
  unfold m_move
  repeat' split
  · exact ⟨by rw [face_8]; exact a7 _, (face_spec hT).1, (face_spec hT).2.2⟩
  · exact ⟨by rw [face_8]; exact a7 _, (face_spec hT).1, (face_spec hT).2.2⟩
  · exact one 10 _ (Or.inl rfl)
  · exact one 10 _ (Or.inl rfl)
  · exact one 11 _ (Or.inr rfl)
  · exact one 11 _ (Or.inr rfl)
  · exact ⟨hb, hA, hl⟩
theorem tire_form (x : Int32) (h : 0 ≤ (sI M 12 a).toInt ∧ (sI M 12 a).toInt ≤ 20) : ∃ s : Int32, (0 ≤ s.toInt ∧ s.toInt ≤ 20) ∧ m_tire K M a x = uI (uI M 13 a (if x = 6 then 0 else sI M 13 a + 1)) 12 a s := by
  have mn : ∀ v : Int32, 0 ≤ v.toInt → v.toInt ≤ 3 → 0 ≤ (imin (sI M 12 a + v) 20).toInt ∧ (imin (sI M 12 a + v) 20).toInt ≤ 20 := fun v h1 h2 => by
    rw [ti_min, ti_add (by omega) (by omega), ti_20]; omega
  have st : 0 ≤ (imax (sI M 12 a - 1) 0).toInt ∧ (imax (sI M 12 a - 1) 0).toInt ≤ 20 := by
    rw [ti_max, ti_sub (by rw [ti_1]; omega) (by rw [ti_1]; omega), ti_1, ti_0]; omega
  have se : ∀ w, m_settle K (uI M 13 a w) a 1 = uI (uI M 13 a w) 12 a (imax (sI M 12 a - 1) 0) := fun w => by
    unfold m_settle
    rw [uI_f (by decide)]
  unfold m_tire
  by_cases c6 : x = 6
  · rw [if_pos c6, if_pos c6, if_neg (by rw [c6]; decide), if_neg (by rw [c6]; decide), se]
    exact ⟨_, st, rfl⟩
  · rw [if_neg c6, if_neg c6]
    by_cases c0 : x = 0
    · rw [if_pos c0]
      split
      · exact ⟨_, mn 2 (by decide) (by decide), rfl⟩
      · exact ⟨_, mn 3 (by decide) (by decide), rfl⟩
    · rw [if_neg c0]
      by_cases c1 : x = 1
      · rw [if_pos c1]
        split
        · exact ⟨_, mn 2 (by decide) (by decide), rfl⟩
        · exact ⟨_, mn 3 (by decide) (by decide), rfl⟩
      · rw [if_neg c1, se]
        exact ⟨_, st, rfl⟩
/-- what a step that is taken leaves -/
theorem step_keep (h : IV E K S N) (hk : k < sZ S (K 13)) (hs : SS S u) (hG : GW K u) (hM : sM u = sM S) (hA : sA u (K 6) = sA S (K 6)) (ht : (sI S 39 (K 1)).toInt < 600)
    (ho : ∀ f c, c ≠ cr K S k → c ≠ K 1 → sI u f c = sI S f c) (h1 : ∀ f, f ≠ 39 → f ≠ 40 → sI u f (K 1) = sI S f (K 1)) (h39 : sI u 39 (K 1) = sI S 39 (K 1) + 1) (h40 : sI u 40 (K 1) = sI S 40 (K 1) + 1)
    (hf : ∀ f, f ≤ 7 → sI u f (cr K S k) = sI S f (cr K S k)) (h8 : 0 ≤ (sI u 8 (cr K S k)).toInt ∧ (sI u 8 (cr K S k)).toInt ≤ 7) (hay : AY K u (cr K S k)) (h9 : (sI u 9 (cr K S k)).toInt ≤ (sI S 6 (cr K S k)).toInt)
    (h10 : 1 ≤ (sI u 10 (cr K S k)).toInt ∧ (sI u 10 (cr K S k)).toInt ≤ (sI u 9 (cr K S k)).toInt) (h11 : (sI u 11 (cr K S k)).toInt ≤ (sI S 5 (cr K S k)).toInt - 1) (hlv : (m_levelOf K S (m_plumb K u (cr K S k))).toInt < (sI u 11 (cr K S k)).toInt)
    (h12 : 0 ≤ (sI u 12 (cr K S k)).toInt ∧ (sI u 12 (cr K S k)).toInt ≤ 20) (h13 : 0 ≤ (sI u 13 (cr K S k)).toInt ∧ (sI u 13 (cr K S k)).toInt ≤ 30) (h15 : (sI S 15 (cr K S k)).toInt ≤ (sI u 15 (cr K S k)).toInt ∧ (sI u 15 (cr K S k)).toInt ≤ (sI S 15 (cr K S k)).toInt + 4)
    (hcl : ∀ j, j < sZ S (K 13) → j ≠ k → m_clashRule K u (cr K S k) (cr K S j) 1 ≠ 0 → m_clash K S k j ≠ 0) : KP E K S u N := by
  have hW := h.g.1
  have z := hs.z
  have t := h.ti
  have tb1 := t.1
  have tb2 := t.2.1
  have n1 : ∀ i, i < sZ S (K 13) → cr K S i ≠ K 1 := fun i hi => ne_k (h.c hi).1.1 hW.k1 (by decide)
  have n2 : K 2 ≠ cr K S k := ne_k hW.k2 (h.c hk).1.1 (by decide)
  have n21 : K 2 ≠ K 1 := ne_k hW.k2 hW.k1 (by decide)
  have e17 : sI u 17 (K 2) = sI S 17 (K 2) := ho 17 _ n2 n21
  have e18 : sI u 18 (K 2) = sI S 18 (K 2) := ho 18 _ n2 n21
  have hcells : m_cells K u = m_cells K S := by unfold m_cells; rw [e17, e18]
  have t39 : (sI u 39 (K 1)).toInt = (sI S 39 (K 1)).toInt + 1 := by rw [h39, ti_add (by rw [ti_1]; omega) (by rw [ti_1]; omega), ti_1]
  have t40 : (sI u 40 (K 1)).toInt = (sI S 40 (K 1)).toInt + 1 := by have := t.2.1; rw [h40, ti_add (by rw [ti_1]; omega) (by rw [ti_1]; omega), ti_1]
  have lv : ∀ x, m_levelOf K u x = m_levelOf K S x := fun x => by unfold m_levelOf; rw [hA, hs.2.2.2.2.2.1]
  have oth : ∀ i, i < sZ S (K 13) → i ≠ k → ∀ f, sI u f (cr K S i) = sI S f (cr K S i) := fun i hi hik f => ho f _ (fun e => hik (h.inj hi hk e)) (n1 i hi)
  have y : ∀ {r q : Int}, inY K u r q ↔ inY K S r q := fun {r q} => by unfold inY; rw [e17, e18]
  have c0 := h.c hk
  have ivu : IV E K u N := by
    refine ⟨⟨hG, h.l.ss hs, h.kd, ?_⟩, fun i hi => ?_, fun i j hi hj e => ?_, fun i hi => ?_, ⟨fun j hj => ?_, fun j hj c hc => ?_, fun i hi x hx => ?_⟩, by rw [hA]; exact h.lvl, ?_, h.rb.of hW (z _) (fun j _ => hs.elem _ _) (fun c hc => ho 31 c (ne_k hc c0.1.1 (by decide)) (ne_k hc hW.k1 (by decide)))⟩
    · unfold YD; rw [e17, e18]; exact h.y
    · rw [z] at hi
      rw [hs.cr]
      by_cases e : i = k
      · subst e
        obtain ⟨⟨p1, p2, p3⟩, ⟨p4, p5, p6, p7⟩, -, ⟨q1, q2, -⟩, -, -, r1, r2⟩ := c0
        refine ⟨⟨hs.kk.mpr p1, p2, by rw [hf 1 (by decide)]; exact p3⟩, ⟨?_, ?_, ?_, ?_⟩, ⟨h8.1, h8.2, hay, by rw [hf 6 (by decide)]; exact h9, h10.1, h10.2⟩, ⟨?_, ?_, ?_, by rw [lv]; exact hlv⟩, h12, h13, by omega, by omega⟩
        · unfold TW
          rw [y, hf 3 (by decide), hf 4 (by decide), hf 6 (by decide)]
          exact p4
        · rw [hf 6 (by decide)]; exact p5
        · rw [hf 6 (by decide)]; exact p6
        · rw [hf 2 (by decide), hf 3 (by decide), hf 4 (by decide), e17]; exact p7
        · rw [hf 5 (by decide)]; exact q1
        · rw [hf 5 (by decide)]; exact q2
        · rw [hf 5 (by decide)]; exact h11
      · exact (h.c hi).same (hs.kk.mpr (h.c hi).1.1) (fun f _ => oth i hi e f) e17 e18 (by omega) (by rw [lv]; exact (h.c hi).2.2.2.1.2.2.2)
    · rw [z] at hi hj
      have e2 : ∀ i, i < sZ S (K 13) → sI u 2 (cr K S i) = sI S 2 (cr K S i) := fun i hi => by
        by_cases e : i = k
        · rw [e]; exact hf 2 (by decide)
        · exact oth i hi e 2
      rw [hs.cr, hs.cr, e2 i hi, e2 j hj] at e
      exact h.tw i j hi hj e
    · rw [z] at hi
      rw [hs.cr, lv]
      by_cases e : i = k
      · rw [e, hf 2 (by decide)]; exact h.lv k hk
      · rw [oth i hi e 2]; exact h.lv i hi
    · rw [z] at hj
      have kl : InK S (ld K S j) 2 := LSt.el hW.l14 hj
      have d1 : ld K S j ≠ cr K S k := ne_k kl c0.1.1 (by decide)
      have d2 : ld K S j ≠ K 1 := ne_k kl hW.k1 (by decide)
      rw [hs.ld, ho 19 _ d1 d2, ho 21 _ d1 d2, hcells]
      exact h.li.1 j hj
    · rw [z] at hj
      rw [hM, hs.ld] at hc
      obtain ⟨i, i1, i2, i3⟩ := h.li.2.1 j hj c hc
      exact ⟨i, by rw [z]; exact i1, by rw [hs.cr]; exact i2, by rw [hM, hs.ld]; exact i3⟩
    · rw [z] at hi
      rw [hM, hs.cr] at hx
      obtain ⟨i2, i3, i4, i5⟩ := h.li.2.2 i hi x hx
      exact ⟨i2, by rw [z]; exact i3, by rw [hs.ld]; exact i4, by rw [hM, hs.cr]; exact i5⟩
    · refine ⟨by omega, by omega, ?_, ?_⟩
      · rw [h1 41 (by decide) (by decide)]; exact t.2.2.1
      · rw [ho 50 _ (ne_k hW.k0 c0.1.1 (by decide)) (ne_k hW.k0 hW.k1 (by decide))]; exact t.2.2.2
  refine ⟨ivu, ⟨⟨by rw [z]; exact Nat.le_refl _, by rw [z]; exact Nat.le_refl _, by rw [z]; exact Nat.le_refl _⟩, ⟨by omega, by omega, by rw [h1 41 (by decide) (by decide)]; exact Int.le_refl _⟩, fun i hi => ?_, hcells⟩, ⟨z _, fun i j hi hj hn hc => ?_⟩, ?_⟩
  · rw [hs.cr]
    by_cases e : i = k
    · rw [e]; exact h15.1
    · rw [oth i hi e 15]; exact Int.le_refl _
  · have one : ∀ j, j < sZ S (K 13) → j ≠ k → m_clash K u k j ≠ 0 → m_clash K S k j ≠ 0 := fun j hj hjk hc => by
      refine hcl j hj hjk ?_
      have e : m_clash K u k j = m_clashRule K u (cr K S k) (cr K S j) 1 := by
        show m_clashRule K u (cr K u k) (cr K u j) 1 = _
        rw [hs.cr, hs.cr]
      rw [← e]; exact hc
    by_cases e : i = k
    · subst e
      exact one j hj (fun e => hn e.symm) hc
    · by_cases e2 : j = k
      · subst e2
        rw [← w_sym ivu (by rw [z]; exact hi) (by rw [z]; exact hj) hn] at hc
        rw [← w_sym h hi hj hn]
        exact one i hi e hc
      · have e3 : m_clash K u i j = m_clash K S i j := by
          show m_clashRule K u (cr K u i) (cr K u j) 1 = m_clashRule K S (cr K S i) (cr K S j) 1
          rw [hs.cr, hs.cr]
          exact t_clash (fun f _ _ => oth i hi e f) (fun f _ _ => oth j hj e2 f) 1
        rw [← e3]; exact hc
  · have b := t.2.1
    unfold TT
    rw [← Int32.toInt_inj, ti_sub (by omega) (by omega), ti_sub (by omega) (by omega), t39, t40]
    omega
end ST
