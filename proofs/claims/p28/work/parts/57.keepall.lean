/-! what an act leaves alone: other rows of numbers; what new objects don't touch -/
def KA (K : Nat → Nat) (S u : PS) : Prop := (∀ x, x ∈ sL S → x ≠ K 6 → x ≠ K 7 → x ≠ K 8 → x ≠ K 9 → x ≠ K 10 → sA u x = sA S x) ∧ ∀ x, x ∈ sL S → x ∈ sL u ∧ sK u x = sK S x ∧ sN u x = sN S x
section KAS
variable {E : EV} {K : Nat → Nat} {S T u : PS} {a q n N k : Nat}
theorem KA.sa (hs : SS S u) (h : sA u = sA S) : KA K S u := ⟨fun x _ _ _ _ _ _ => by rw [h], fun x hx => ⟨by rw [hs.1]; exact hx, by rw [hs.2.1], by rw [hs.2.2.2.2.2.1]⟩⟩
theorem KA.rf : KA K S S := KA.sa SS.rf rfl
theorem KA.tr (h : KA K S T) (h2 : KA K T u) : KA K S u :=
  ⟨fun x hx a b c d e => (h2.1 x (h.2 x hx).1 a b c d e).trans (h.1 x hx a b c d e), fun x hx => ⟨(h2.2 x (h.2 x hx).1).1, (h2.2 x (h.2 x hx).1).2.1.trans (h.2 x hx).2.1, (h2.2 x (h.2 x hx).1).2.2.trans (h.2 x hx).2.2⟩⟩
theorem KA.qs (g : QS K S u) : KA K S u := ⟨fun x _ _ b c d e => g.2.2.2 x b c d e, fun x hx => ⟨by rw [g.1.1]; exact hx, by rw [g.1.2.1], by rw [g.1.2.2.2.2.2.1]⟩⟩
theorem KA.ink (h : KA K S u) {x j : Nat} (hx : InK S x j) : InK u x j := ⟨(h.2 x hx.1).1, (h.2 x hx.1).2.1.trans hx.2⟩
theorem ka_level (w v : Int32) : KA K S (m_level K S w v).2.2 := by
  have hb : KA K S (m_build K S w v) := by
    unfold m_build
    repeat' split
    · exact KA.rf
    · exact KA.rf
    · exact ⟨fun x _ a _ _ _ _ => va_up_ne _ _ a, fun x hx => ⟨hx, rfl, rfl⟩⟩
  unfold m_level
  repeat' split
  · exact KA.rf
  · exact KA.rf
  · exact hb
  · exact KA.rf
theorem ka_hang (k : Nat) : KA K S (m_hang K S k).2.2 := by
  unfold m_hang
  repeat' split
  all_goals exact KA.sa SS.rf rfl
theorem ka_set (k : Nat) : KA K S (m_set K S k).2.2 := by
  unfold m_set
  repeat' split
  all_goals exact KA.sa SS.rf rfl
theorem ka_hand (k q : Nat) : KA K S (m_hand K S k q).2.2 := by
  unfold m_hand
  repeat' split
  all_goals exact KA.sa SS.rf rfl
theorem idle_A {t : Int32} : ∀ (r j : Nat) (T : PS), sA (m_idle_lp K S t r j T) = sA T ∧ SS T (m_idle_lp K S t r j T)
  | 0, j, T => ⟨rfl, SS.rf⟩
  | r + 1, j, T => by
    simp only [m_idle_lp]
    exact idle_A r (j + 1) _
theorem turn_A : ∀ (r j : Nat) (T : PS) (n : Int32), sA (m_turnToWind_lp K S r j T n).2 = sA T ∧ SS T (m_turnToWind_lp K S r j T n).2
  | 0, j, T, n => ⟨rfl, SS.rf⟩
  | r + 1, j, T, n => by
    simp only [m_turnToWind_lp]
    have d1 : sA (m_drawIn K (m_mimic K T (K 4) (el T (K 13) j)) (K 4) (m_windBearing K S)) = sA T ∧ SS T (m_drawIn K (m_mimic K T (K 4) (el T (K 13) j)) (K 4) (m_windBearing K S)) := ⟨rfl, SS.rf⟩
    have d2 : sA (m_drawIn K (m_drawIn K (m_mimic K T (K 4) (el T (K 13) j)) (K 4) (m_windBearing K S)) (el T (K 13) j) (m_windBearing K S)) = sA T ∧ SS T (m_drawIn K (m_drawIn K (m_mimic K T (K 4) (el T (K 13) j)) (K 4) (m_windBearing K S)) (el T (K 13) j) (m_windBearing K S)) := ⟨rfl, SS.rf⟩
    generalize m_drawIn K (m_mimic K T (K 4) (el T (K 13) j)) (K 4) (m_windBearing K S) = T1 at d1 d2 ⊢
    generalize m_drawIn K T1 (el T (K 13) j) (m_windBearing K S) = T2 at d2 ⊢
    have g1 := fun n => turn_A r (j + 1) T1 n
    have g2 := fun n => turn_A r (j + 1) T2 n
    repeat' split
    · exact ⟨(g2 _).1.trans d2.1, d2.2.tr (g2 _).2⟩
    · exact ⟨(g2 _).1.trans d2.1, d2.2.tr (g2 _).2⟩
    · exact ⟨(g1 _).1.trans d1.1, d1.2.tr (g1 _).2⟩
    · exact ⟨(g1 _).1.trans d1.1, d1.2.tr (g1 _).2⟩
theorem ka_rest (t : Int32) : KA K S (m_rest K S t).2.2 := by
  have i : KA K S (m_idle K S t) := by
    unfold m_idle
    have := idle_A (K := K) (S := S) (t := t) (sZ S (K 13)) 0 (uI S 39 (K 1) (sI S 39 (K 1) + t))
    exact KA.sa this.2 this.1
  have w : KA K S (m_turnToWind K (m_idle K S t)).2 := by
    generalize m_idle K S t = I at i ⊢
    unfold m_turnToWind
    have := turn_A (K := K) (S := I) (sZ I (K 13)) 0 I 0
    exact i.tr (KA.sa this.2 this.1)
  unfold m_rest
  generalize m_idle K S t = I at i w ⊢
  generalize m_turnToWind K I = W at w ⊢
  repeat' split
  · exact i
  · exact w
  · exact KA.rf
  · exact KA.rf
theorem tire_A {x : Int32} : sA (m_tire K S a x) = sA S ∧ SS S (m_tire K S a x) := by
  unfold m_tire m_settle
  repeat' split
  all_goals exact ⟨rfl, SS.rf⟩
theorem move_S {x : Int32} : SS S (m_move K S a x) := by
  unfold m_move
  repeat' split
  all_goals exact SS.rf
theorem take_A {x : Int32} : sA (m_take K S a x) = sA S ∧ SS S (m_take K S a x) := by
  have t := tire_A (K := K) (S := m_move K S a x) (a := a) (x := x)
  have m := move_A (K := K) (S := S) (a := a) (x := x)
  have ms := move_S (K := K) (S := S) (a := a) (x := x)
  unfold m_take
  split
  · exact ⟨t.1.trans m, ms.tr t.2⟩
  · exact ⟨t.1.trans m, ms.tr t.2⟩
theorem ka_reason (x : Int32) : KA K S (m_reasonAgainst K S a x).2 := KA.qs (q_reasonAgainst a x)
theorem ka_step (k : Nat) (x : Int32) : KA K S (m_step K S k x).2.2 := by
  unfold m_step
  have r := ka_reason (K := K) (S := S) (a := el S (K 13) k) x
  generalize m_reasonAgainst K S (el S (K 13) k) x = RR at r ⊢
  have t := take_A (K := K) (S := RR.2) (a := el S (K 13) k) (x := x)
  repeat' split
  · exact r.tr (KA.sa t.2 t.1)
  · exact r.tr (KA.sa SS.rf rfl)
  · exact KA.rf
  · exact KA.rf
  · exact KA.rf
theorem ka_would (k : Nat) (x : Int32) : KA K S (m_wouldx K S k x).2.2 := by
  unfold m_wouldx
  have r := ka_reason (K := K) (S := S) (a := el S (K 13) k) x
  generalize m_reasonAgainst K S (el S (K 13) k) x = RR at r ⊢
  repeat' split
  · exact r
  · exact KA.rf
  · exact KA.rf
  · exact KA.rf
theorem ka_es (e : ES S T) (hA : sA T = sA S) : KA K S T := ⟨fun x _ _ _ _ _ _ => by rw [hA], fun x hx => ⟨(e x hx).1, (e x hx).2.1, (e x hx).2.2.2.2.2.1⟩⟩
theorem ka_add {h x : Nat} {v : Int32} (e : ES S T) (hA : sA T = sA S) (A : Add0 (uI T 51 h v) h x u) : KA K S u := by
  obtain ⟨f1, f2, f3, f4⟩ := A.flds
  refine ⟨fun y _ _ _ _ _ _ => by rw [f4]; exact congrFun hA y, fun y hy => ?_⟩
  obtain ⟨a1, a2, a3⟩ := A.old (a := y) (e y hy).1
  exact ⟨a1, a2.trans (e y hy).2.1, a3.trans (e y hy).2.2.2.2.2.1⟩
/-! the same things hold where nothing old has changed -/
theorem iv_old (h : IV E K S N) (hG : GW K u) (hL : LW E K u) (e : ES S u) (hI : ∀ x, x ∈ sL S → ∀ f, sI u f x = sI S f x) (hM : ∀ x, x ∈ sL S → ∀ f, sM u f x = sM S f x) (hA : sA u (K 6) = sA S (K 6)) : KP E K S u N := by
  have hW := h.g.1
  have z : ∀ m, 11 ≤ m → m ≤ 14 → sZ u (K m) = sZ S (K m) := fun m h1 h2 => (e _ (h.l.1 m h1 h2).1.1).2.2.2.2.1
  have z13 := z 13 (by decide) (by decide)
  have z14 := z 14 (by decide) (by decide)
  have ecr : ∀ {k}, k < sZ S (K 13) → cr K u k = cr K S k := fun hk => e.elem hW.l13 hk
  have eld : ∀ {k}, k < sZ S (K 14) → ld K u k = ld K S k := fun hk => e.elem hW.l14 hk
  have i1 : ∀ f, sI u f (K 1) = sI S f (K 1) := hI _ hW.k1.1
  have i2 : ∀ f, sI u f (K 2) = sI S f (K 2) := hI _ hW.k2.1
  have ic : ∀ {k}, k < sZ S (K 13) → ∀ f, sI u f (cr K S k) = sI S f (cr K S k) := fun hk => hI _ (h.c hk).1.1.1
  have kl : ∀ {j}, j < sZ S (K 14) → InK S (ld K S j) 2 := fun hj => LSt.el hW.l14 hj
  have lv : ∀ x, m_levelOf K u x = m_levelOf K S x := fun x => by unfold m_levelOf; rw [hA, (e _ hW.k6.1).2.2.2.2.2.1]
  have hcl : m_cells K u = m_cells K S := by unfold m_cells; rw [i2, i2]
  refine ⟨⟨⟨hG, hL, h.kd, ?_⟩, fun k hk => ?_, fun i j hi hj e9 => ?_, fun k hk => ?_, ⟨fun j hj => ?_, fun j hj c hc => ?_, fun k hk x hx => ?_⟩, by rw [hA]; exact h.lvl, ?_, h.rb.of hW (z 11 (by decide) (by decide)) (fun j hj => e.elem hW.l11 hj) (fun c hc => hI c hc.1 31)⟩, ⟨⟨by rw [z13]; exact Nat.le_refl _, by rw [z14]; exact Nat.le_refl _, by rw [z 12 (by decide) (by decide)]; exact Nat.le_refl _⟩, ⟨by rw [i1]; exact Int.le_refl _, by rw [i1]; exact Int.le_refl _, by rw [i1]; exact Int.le_refl _⟩, fun k hk => ?_, hcl⟩, ⟨z13, fun i j hi hj _ hc => ?_⟩, ?_⟩
  · unfold YD; rw [i2, i2]; exact h.y
  · rw [z13] at hk
    rw [ecr hk]
    exact (h.c hk).same (e.k (h.c hk).1.1) (fun f _ => ic hk f) (i2 17) (i2 18) (by rw [i1]; exact Int.le_refl _) (by rw [lv]; exact (h.c hk).2.2.2.1.2.2.2)
  · rw [z13] at hi hj
    rw [ecr hi, ecr hj, ic hi, ic hj] at e9
    exact h.tw i j hi hj e9
  · rw [z13] at hk
    rw [ecr hk, ic hk, lv]
    exact h.lv k hk
  · rw [z14] at hj
    rw [eld hj, hI _ (kl hj).1, hI _ (kl hj).1, hcl]
    exact h.li.1 j hj
  · rw [z14] at hj
    rw [eld hj, hM _ (kl hj).1] at hc
    obtain ⟨i, g1, g2, g3⟩ := h.li.2.1 j hj c hc
    refine ⟨i, by rw [z13]; exact g1, by rw [ecr g1]; exact g2, ?_⟩
    rw [eld hj, g2, hM _ (h.c g1).1.1.1, ← g2]
    exact g3
  · rw [z13] at hk
    rw [ecr hk, hM _ (h.c hk).1.1.1] at hx
    obtain ⟨i, g1, g2, g3⟩ := h.li.2.2 k hk x hx
    refine ⟨i, by rw [z14]; exact g1, by rw [eld g1]; exact g2, ?_⟩
    rw [ecr hk, g2, hM _ (kl g1).1, ← g2]
    exact g3
  · have t := h.ti
    unfold TI at t ⊢
    rw [i1, i1, i1, hI _ hW.k0.1]
    exact t
  · rw [ecr hk, ic hk]; exact Int.le_refl _
  · have e9 : m_clash K u i j = m_clash K S i j := by
      show m_clashRule K u (cr K u i) (cr K u j) 1 = m_clashRule K S (cr K S i) (cr K S j) 1
      rw [ecr hi, ecr hj]
      exact t_clash (fun f _ _ => ic hi f) (fun f _ _ => ic hj f) 1
    rw [← e9]; exact hc
  · unfold TT; rw [i1, i1]
/-- a row that is none of the site's is written -/
theorem iv_row (h : IV E K S N) {v : Nat → Int32} (ha : a ≠ K 6) : KP E K S (uA S a v) N :=
  iv_old h ⟨h.g.1.uA, h.g.2.1.uA, h.g.2.2.uA⟩ h.l (ES.ss ⟨rfl, rfl, rfl, rfl, rfl, rfl, rfl⟩) (fun _ _ _ => rfl) (fun _ _ _ => rfl) (va_up_ne _ _ (Ne.symm ha))
theorem gw_nwA {r : Nat → Int32} (hq : q ∉ sL S) (h : GW K S) : GW K (nwA S q n r) := by
  have inv : ∀ {x k}, k ≠ 9 → InK (nwA S q n r) x k → InK S x k := fun {x k} hk hx => by
    obtain ⟨h1, h2⟩ := hx
    by_cases e : x = q
    · subst e
      exact absurd (h2.symm.trans (va_up_self _ _ _)) hk
    · have h1 : x ∈ sL S ++ [q] := h1
      rcases List.mem_append.mp h1 with h3 | h3
      · exact ⟨h3, (va_up_ne _ _ e).symm.trans h2⟩
      · exact absurd (List.mem_singleton.mp h3) e
  exact ⟨h.1.ext (ES.nwA hq) (fun x hx => h.1.r0 (inv (by decide) hx)), fun x hx => h.2.1 x (inv (by decide) hx), fun x hx y hy => ink_nwA (h.2.2.1 x (inv (by decide) hx) y hy) hq, fun x hx y hy => ink_nwA (h.2.2.2 x (inv (by decide) hx) y hy) hq⟩
theorem iv_nwA (h : IV E K S N) {r : Nat → Int32} (hq : q ∉ sL S) (hd : eDF E ∉ sL (nwA S q n r)) : KP E K S (nwA S q n r) N :=
  iv_old h (gw_nwA hq h.g) (h.l.ext (ES.nwA hq) hd) (ES.nwA hq) (fun _ _ _ => rfl) (fun _ _ _ => rfl) (va_up_ne _ _ (nel h.g.1.k6.1 hq))
/-- a crane made, but not let in -/
theorem iv_crane0 (h : IV E K S N) {w a r o b : Int32} (hq : q ∉ sL S) (hr : r ≤ 20) (hT : T = m_drawIn K (n_Crane (nw S q 0) q (K 2) (nI (sZ S (K 13))) w a r o) q b) (hd : eDF E ∉ sL T) : KP E K S T N ∧ KA K S T := by
  have eC := es_Crane (g := K 2) (n := nI (sZ S (K 13))) (t := w) (m1 := a) (r := r) (o := o) hq
  have gC : GW K (n_Crane (nw S q 0) q (K 2) (nI (sZ S (K 13))) w a r o) := gw_Crane hq hr h.g
  have kC : InK (n_Crane (nw S q 0) q (K 2) (nI (sZ S (K 13))) w a r o) q 0 := ink_Crane
  have oC : ∀ f x, x ≠ q → sI (n_Crane (nw S q 0) q (K 2) (nI (sZ S (K 13))) w a r o) f x = sI S f x := fun f x ha => by
    refine (up2_a _ _ _ _ ha).trans ((up2_a _ _ _ _ ha).trans ((up2_a _ _ _ _ ha).trans ((up2_a _ _ _ _ ha).trans ((up2_a _ _ _ _ ha).trans ((up2_a _ _ _ _ ha).trans ((up2_a _ _ _ _ ha).trans ((up2_a _ _ _ _ ha).trans ?_)))))))
    exact (up2_a _ _ _ _ ha).trans ((up2_a _ _ _ _ ha).trans ((up2_a _ _ _ _ ha).trans ((up2_a _ _ _ _ ha).trans ((up2_a _ _ _ _ ha).trans ((up2_a _ _ _ _ ha).trans (va_up_ne _ _ ha))))))
  have mC : ∀ f x, x ≠ q → sM (n_Crane (nw S q 0) q (K 2) (nI (sZ S (K 13))) w a r o) f x = sM S f x := fun f x ha => (up2_a _ _ _ _ ha).trans (va_up_ne _ _ ha)
  have hsA : sA (n_Crane (nw S q 0) q (K 2) (nI (sZ S (K 13))) w a r o) = sA S := rfl
  generalize n_Crane (nw S q 0) q (K 2) (nI (sZ S (K 13))) w a r o = C at hT eC gC kC oC mC hsA
  have gD := g_drawIn gC.1 gC.2.1 gC.2.2 kC.1 kC.2 b
  have eT : ES S T := by rw [hT]; exact eC.tr (ES.ss gD.2)
  have hA : sA T = sA S := by rw [hT]; exact hsA
  refine ⟨iv_old h (by rw [hT]; exact gD.1) (h.l.ext eT hd) eT (fun x hx f => ?_) (fun x hx f => ?_) (congrFun hA _), ka_es eT hA⟩
  · rw [hT]; exact (drawIn_a (nel hx hq)).trans (oC f x (nel hx hq))
  · rw [hT]; exact mC f x (nel hx hq)
end KAS
