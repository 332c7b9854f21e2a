/-! lists apart from each other (LD), what grows (ES), the world behind the constructor -/
def LD (K : Nat → Nat) (S : PS) : Prop := ∀ i j, 11 ≤ i → i ≤ 14 → 11 ≤ j → j ≤ 14 → i ≠ j → K i ≠ K j ∧ ∀ t, t ∈ sL S → sE S (K i) = some t → sE S (K j) ≠ some t
def LW (E : EV) (K : Nat → Nat) (S : PS) : Prop := (∀ i, 11 ≤ i → i ≤ 14 → LC E S (K i)) ∧ LD K S
def ES (S T : PS) : Prop := ∀ a, a ∈ sL S → a ∈ sL T ∧ sK T a = sK S a ∧ (∀ f, sR T f a = sR S f a) ∧ sE T a = sE S a ∧ sZ T a = sZ S a ∧ sN T a = sN S a ∧ ∀ j, sO T a j = sO S a j
theorem ES.rf {S : PS} : ES S S := fun _ h => ⟨h, rfl, fun _ => rfl, rfl, rfl, rfl, fun _ => rfl⟩
theorem ES.tr {S T U : PS} (h : ES S T) (h2 : ES T U) : ES S U := fun a ha => by
  obtain ⟨a1, a2, a3, a4, a5, a6, a7⟩ := h a ha
  obtain ⟨b1, b2, b3, b4, b5, b6, b7⟩ := h2 a a1
  exact ⟨b1, b2.trans a2, fun f => (b3 f).trans (a3 f), b4.trans a4, b5.trans a5, b6.trans a6, fun j => (b7 j).trans (a7 j)⟩
theorem ES.k {S T : PS} (h : ES S T) {a k : Nat} (ha : InK S a k) : InK T a k := ⟨(h a ha.1).1, (h a ha.1).2.1.trans ha.2⟩
theorem ES.r {S T : PS} (h : ES S T) {a f : Nat} {v : Option Nat} (ha : a ∈ sL S) (e : sR S f a = v) : sR T f a = v := ((h a ha).2.2.1 f).trans e
theorem ES.n {S T : PS} (h : ES S T) {a n : Nat} (ha : a ∈ sL S) (e : sN S a = n) : sN T a = n := (h a ha).2.2.2.2.2.1.trans e
theorem ES.ss {S T : PS} (h : SS S T) : ES S T := fun a ha => by
  obtain ⟨h1, h2, h3, h4, h5, h6, h7⟩ := h
  exact ⟨by rw [h1]; exact ha, by rw [h2], fun f => by rw [h3], by rw [h4], by rw [h5], by rw [h6], fun j => by rw [h7]⟩
theorem ES.nw {S : PS} {q k : Nat} (hq : q ∉ sL S) : ES S (nw S q k) := fun a ha => ⟨List.mem_append_left _ ha, va_up_ne _ _ (nel ha hq), fun _ => va_up_ne _ _ (nel ha hq), va_up_ne _ _ (nel ha hq), va_up_ne _ _ (nel ha hq), rfl, fun _ => rfl⟩
theorem ES.nwA {S : PS} {q n : Nat} {r : Nat → Int32} (hq : q ∉ sL S) : ES S (nwA S q n r) := fun a ha => ⟨List.mem_append_left _ ha, va_up_ne _ _ (nel ha hq), fun _ => rfl, rfl, rfl, va_up_ne _ _ (nel ha hq), fun _ => rfl⟩
theorem lst_ext {S T : PS} {h k B : Nat} (e : ES S T) (L : LSt S h k B) : LSt T h k B := by
  obtain ⟨h1, h2, h3⟩ := L
  obtain ⟨a1, a2, a3, a4, a5, a6, a7⟩ := e h h1.1
  refine ⟨e.k h1, by rw [a5]; exact h2, fun j hj => ?_⟩
  obtain ⟨t, b1, b2, b3, b4, b5, b6⟩ := h3 j (by rw [← a5]; exact hj)
  obtain ⟨c1, c2, c3, c4, c5, c6, c7⟩ := e t b2.1
  have ee : el T h j = el S h j := by
    show (sO T ((sE T h).getD 0) j).getD 0 = (sO S ((sE S h).getD 0) j).getD 0
    rw [a4, b1]
    show (sO T t j).getD 0 = (sO S t j).getD 0
    rw [c7]
  exact ⟨t, by rw [a4]; exact b1, e.k b2, by rw [c6]; exact b3, by rw [c6]; exact b4, by rw [c7, ee]; exact b5, by rw [ee]; exact e.k b6⟩
theorem ES.elem {S T : PS} {h k B j : Nat} (e : ES S T) (L : LSt S h k B) (hj : j < sZ S h) : el T h j = el S h j := by
  obtain ⟨h1, h2, h3⟩ := L
  obtain ⟨a1, a2, a3, a4, a5, a6, a7⟩ := e h h1.1
  obtain ⟨t, b1, b2, -⟩ := h3 j hj
  obtain ⟨c1, c2, c3, c4, c5, c6, c7⟩ := e t b2.1
  show (sO T ((sE T h).getD 0) j).getD 0 = (sO S ((sE S h).getD 0) j).getD 0
  rw [a4, b1]
  show (sO T t j).getD 0 = (sO S t j).getD 0
  rw [c7]
theorem WS.ext {K : Nat → Nat} {S T : PS} (h : WS K S) (e : ES S T) (h0 : ∀ a, InK T a 0 → sR T 0 a = some (K 2)) : WS K T :=
  ⟨⟨e.k h.k0, e.k h.k1, e.k h.k2, e.k h.k3, e.k h.k4, e.k h.k5⟩, ⟨e.k h.k6, e.k h.k7, e.k h.k8, e.k h.k9, e.k h.k10⟩, ⟨e.r h.k0.1 h.r48, e.r h.k0.1 h.r49⟩,
   ⟨e.r h.k1.1 h.r32, e.r h.k1.1 h.r33, e.r h.k1.1 h.r34, e.r h.k1.1 h.r35, e.r h.k1.1 h.r36, e.r h.k1.1 h.r37, e.r h.k1.1 h.r38⟩, e.r h.k2.1 h.r16,
   ⟨e.r h.k3.1 h.r23, e.r h.k3.1 h.r24, e.r h.k3.1 h.r25, e.r h.k3.1 h.r26, e.r h.k3.1 h.r27, e.r h.k3.1 h.r28⟩, h0,
   ⟨e.n h.k6.1 h.n6, e.n h.k7.1 h.n7, e.n h.k8.1 h.n8, e.n h.k9.1 h.n9, e.n h.k10.1 h.n10⟩, ⟨lst_ext e h.l11, lst_ext e h.l12, lst_ext e h.l13, lst_ext e h.l14⟩⟩
theorem LC.ext {E : EV} {S T : PS} {h : Nat} (L : LC E S h) (e : ES S T) : LC E T h := by
  obtain ⟨h1, h2, h3⟩ := L
  obtain ⟨a1, a2, a3, a4, a5, a6, a7⟩ := e h h1.1
  refine ⟨e.k h1, by rw [a5]; exact h2, ?_⟩
  rcases h3 with ⟨e1, e2⟩ | ⟨t, e1, ht, hn, hzn, hel⟩
  · exact Or.inl ⟨by rw [a4]; exact e1, by rw [a5]; exact e2⟩
  · obtain ⟨c1, c2, c3, c4, c5, c6, c7⟩ := e t ht.1
    exact Or.inr ⟨t, by rw [a4]; exact e1, e.k ht, by rw [c6]; exact hn, by rw [a5, c6]; exact hzn, fun i hi y hy => by
      rw [a5] at hi
      rw [c7] at hy
      obtain ⟨y1, y2⟩ := hel i hi y hy
      obtain ⟨z1, z2, -⟩ := e y y1
      exact ⟨z1, by rw [z2]; exact y2⟩⟩
theorem LW.ext {E : EV} {K : Nat → Nat} {S T : PS} (L : LW E K S) (e : ES S T) (hd : eDF E ∉ sL T) : LW E K T := by
  refine ⟨fun i h1 h2 => (L.1 i h1 h2).ext e, fun i j h1 h2 h3 h4 h5 => ⟨(L.2 i j h1 h2 h3 h4 h5).1, fun t ht he hj => ?_⟩⟩
  have li := L.1 i h1 h2
  have e1 : sE S (K i) = some t := (e _ li.1.1).2.2.2.1.symm.trans he
  have e2 : sE S (K j) = some t := (e _ (L.1 j h3 h4).1.1).2.2.2.1.symm.trans hj
  rcases li.2.2 with ⟨q, -⟩ | ⟨t2, q, ht2, -⟩
  · rw [e1] at q
    cases q
    exact hd ht
  · rw [e1] at q
    cases q
    exact (L.2 i j h1 h2 h3 h4 h5).2 t ht2.1 e1 e2
/-! adding to one list -/
section AA
variable {E : EV} {K : Nat → Nat} {S u : PS} {h x : Nat}
theorem Add0.ink {k a : Nat} (A : Add0 S h x u) (ha : InK S a k) : InK u a k := ⟨(A.old ha.1).1, (A.old ha.1).2.1.trans ha.2⟩
theorem Add0.own (A : Add0 S h x u) : ∃ q, sE u h = some q ∧ InK u q 10 ∧ (sN u q = 10 ∨ sN u q = 15) ∧ sZ S h < sN u q ∧ (sE S h = some q ∨ q ∉ sL S) ∧ sO u q (sZ S h) = some x ∧ (∀ i, i < sZ S h → sO u q i = sO S ((sE S h).getD 0) i) := by
  obtain ⟨q, T, hT, rfl⟩ := A
  have f : sE T h = some q ∧ InK T q 10 ∧ (sN T q = 10 ∨ sN T q = 15) ∧ sZ S h < sN T q ∧ (sE S h = some q ∨ q ∉ sL S) ∧ ∀ i, i < sZ S h → sO T q i = sO S ((sE S h).getD 0) i := by
    rcases hT with ⟨rfl, e, hlt, ht, hn⟩ | g
    · exact ⟨e, ht, hn, hlt, Or.inl e, fun i hi => by rw [e]; rfl⟩
    · exact ⟨g.2.2.2.1.2, g.new, g.2.2.2.2.1.2.2, g.2.2.2.2.1.2.1, Or.inr g.1.1, g.2.2.2.2.2.2⟩
  refine ⟨q, f.1, f.2.1, f.2.2.1, f.2.2.2.1, f.2.2.2.2.1, ?_, fun i hi => ?_⟩
  · show (va_up (sO T) q (va_up (sO T q) (sZ S h) (some x))) q (sZ S h) = some x
    rw [va_up_self, va_up_self]
  · show (va_up (sO T) q (va_up (sO T q) (sZ S h) (some x))) q i = _
    rw [va_up_self, va_up_ne _ _ (Nat.ne_of_lt hi)]
    exact f.2.2.2.2.2 i hi
/-- another object's rows stay -/
theorem Add0.oth (A : Add0 S h x u) {b t : Nat} (hb : b ≠ h) (ht : t ∈ sL S) (hne : sE S h ≠ some t) : sE u b = sE S b ∧ sO u t = sO S t := by
  obtain ⟨q, T, hT, rfl⟩ := A
  rcases hT with ⟨rfl, e, -⟩ | g
  · exact ⟨rfl, va_up_ne _ _ (fun e2 => hne (by rw [e2]; exact e))⟩
  · exact ⟨g.2.2.2.1.1 b hb, (va_up_ne _ _ (nel ht g.1.1)).trans (g.2.2.2.2.2.1 t (nel ht g.1.1))⟩
theorem Add0.eN (A : Add0 S h x u) {b : Nat} (hb : b ≠ h) : sE u b = sE S b := by
  obtain ⟨q, T, hT, rfl⟩ := A
  rcases hT with ⟨rfl, e, -⟩ | g
  · rfl
  · exact g.2.2.2.1.1 b hb
theorem Add0.inv (A : Add0 S h x u) {a : Nat} (ha : a ∈ sL u) : a ∈ sL S ∨ (a ∉ sL S ∧ sK u a = 10) := by
  obtain ⟨q, T, hT, rfl⟩ := A
  rcases hT with ⟨rfl, e, -⟩ | g
  · exact Or.inl ha
  · have ha2 : a ∈ sL T := ha
    rw [g.1.2] at ha2
    rcases List.mem_append.mp ha2 with h1 | h1
    · exact Or.inl h1
    · rw [List.mem_singleton.mp h1]
      exact Or.inr ⟨g.1.1, g.2.1.2⟩
theorem Add0.inkI (A : Add0 S h x u) {a k : Nat} (hk : k ≠ 10) (ha : InK u a k) : InK S a k := by
  rcases A.inv ha.1 with h1 | ⟨h1, h2⟩
  · exact ⟨h1, (A.old h1).2.1.symm.trans ha.2⟩
  · exact absurd (ha.2.symm.trans h2) hk
theorem LSt.add {k B : Nat} (L : LSt S h k B) (A : Add0 S h x u) (hk : InK S x k) (hB : sZ S h < B) : LSt u h k B := by
  obtain ⟨h1, h2, h3⟩ := L
  obtain ⟨q, a1, a2, a3, a4, a5, a6, a7⟩ := A.own
  refine ⟨A.ink h1, by rw [A.size]; omega, fun j hj => ⟨q, a1, a2, by rw [A.size] at hj; omega, by omega, ?_⟩⟩
  rw [A.size] at hj
  by_cases e : j = sZ S h
  · subst e
    rw [A.elx]
    exact ⟨a6, A.ink hk⟩
  · have hj2 : j < sZ S h := by omega
    obtain ⟨t, b1, b2, b3, b4, b5, b6⟩ := h3 j hj2
    rw [A.elj hj2, a7 j hj2, b1]
    exact ⟨b5, A.ink b6⟩
theorem LSt.addN {b k B : Nat} (L : LSt S b k B) (A : Add0 S h x u) (hb : b ≠ h) (hd : ∀ t, t ∈ sL S → sE S b = some t → sE S h ≠ some t) : LSt u b k B := by
  obtain ⟨h1, h2, h3⟩ := L
  refine ⟨A.ink h1, by rw [A.sizeN hb]; exact h2, fun j hj => ?_⟩
  rw [A.sizeN hb] at hj
  obtain ⟨t, b1, b2, b3, b4, b5, b6⟩ := h3 j hj
  have o := A.oth hb b2.1 (hd t b2.1 b1)
  have n := (A.old b2.1).2.2
  refine ⟨t, o.1.trans b1, A.ink b2, by rw [n]; exact b3, by rw [n]; exact b4, ?_⟩
  rw [A.elo hb b1 b2.1 (hd t b2.1 b1), o.2]
  exact ⟨b5, A.ink b6⟩
theorem LC.addN {b : Nat} (L : LC E S b) (A : Add0 S h x u) (hb : b ≠ h) (hd : ∀ t, t ∈ sL S → sE S b = some t → sE S h ≠ some t) : LC E u b := by
  obtain ⟨h1, h2, h3⟩ := L
  refine ⟨A.ink h1, by rw [A.sizeN hb]; exact h2, ?_⟩
  rcases h3 with ⟨e1, e2⟩ | ⟨t, e1, ht, hn, hzn, hel⟩
  · exact Or.inl ⟨(A.eN hb).trans e1, (A.sizeN hb).trans e2⟩
  · have o := A.oth hb ht.1 (hd t ht.1 e1)
    have n := (A.old ht.1).2.2
    exact Or.inr ⟨t, o.1.trans e1, A.ink ht, by rw [n]; exact hn, by rw [A.sizeN hb, n]; exact hzn, fun i hi y hy => by
      rw [A.sizeN hb] at hi
      rw [o.2] at hy
      obtain ⟨y1, y2⟩ := hel i hi y hy
      exact ⟨(A.old y1).1, by rw [(A.old y1).2.1]; exact y2⟩⟩
theorem LW.add (L : LW E K S) {n : Nat} (n1 : 11 ≤ n) (n2 : n ≤ 14) (A : Add0 S (K n) x u) (hz : sZ S (K n) ≤ 13) (hx : x ∈ sL S) (hk : oka (sK S x)) (hd : eDF E ∉ sL u) : LW E K u := by
  refine ⟨fun i h1 h2 => ?_, fun i j h1 h2 h3 h4 h5 => ⟨(L.2 i j h1 h2 h3 h4 h5).1, ?_⟩⟩
  · by_cases e : i = n
    · subst e
      exact A.lc (L.1 i h1 h2) hz hx hk
    · exact (L.1 i h1 h2).addN A (L.2 i n h1 h2 n1 n2 e).1 (L.2 i n h1 h2 n1 n2 e).2
  · have key : ∀ b, 11 ≤ b → b ≤ 14 → b ≠ n → ∀ t, t ∈ sL u → sE u (K n) = some t → sE u (K b) ≠ some t := by
      intro b b1 b2 b3 t ht hn hb
      have db := L.2 b n b1 b2 n1 n2 b3
      rw [A.eN db.1] at hb
      obtain ⟨q, a1, a2, -, -, a5, -⟩ := A.own
      rw [a1] at hn
      cases hn
      rcases (L.1 b b1 b2).2.2 with ⟨q, -⟩ | ⟨t2, q, ht2, -⟩
      · rw [hb] at q
        cases q
        exact hd ht
      · rw [hb] at q
        cases q
        rcases a5 with a5 | a5
        · exact db.2 _ ht2.1 hb a5
        · exact a5 ht2.1
    intro t ht hi hj
    by_cases e : i = n
    · subst e
      exact key j h3 h4 (fun e => h5 e.symm) t ht hi hj
    · by_cases e2 : j = n
      · subst e2
        exact key i h1 h2 e t ht hj hi
      · rw [A.eN (L.2 i n h1 h2 n1 n2 e).1] at hi
        rw [A.eN (L.2 j n h3 h4 n1 n2 e2).1] at hj
        rcases A.inv ht with q | ⟨q, -⟩
        · exact (L.2 i j h1 h2 h3 h4 h5).2 t q hi hj
        · rcases (L.1 i h1 h2).2.2 with ⟨w, -⟩ | ⟨t2, w, ht2, -⟩
          · rw [hi] at w
            cases w
            exact hd ht
          · rw [hi] at w
            cases w
            exact q ht2.1
def lk : Nat → Nat := fun i => if i = 11 then 4 else if i = 12 then 6 else if i = 13 then 0 else 2
def lB : Nat → Nat := fun i => if i = 11 then 12 else if i = 12 then 4 else if i = 13 then 4 else 8
theorem WS.lst (h : WS K S) {i : Nat} (h1 : 11 ≤ i) (h2 : i ≤ 14) : LSt S (K i) (lk i) (lB i) := by
  have : i = 11 ∨ i = 12 ∨ i = 13 ∨ i = 14 := by omega
  rcases this with rfl | rfl | rfl | rfl
  · exact h.l11
  · exact h.l12
  · exact h.l13
  · exact h.l14
theorem WS.add (h : WS K S) (L : LD K S) {n : Nat} (n1 : 11 ≤ n) (n2 : n ≤ 14) (A : Add0 S (K n) x u) (hx : InK S x (lk n)) (hB : sZ S (K n) < lB n) : WS K u := by
  have r : ∀ {f a v}, sR S f a = v → sR u f a = v := fun e => by rw [A.flds.2.1]; exact e
  have nn : ∀ {a v}, a ∈ sL S → sN S a = v → sN u a = v := fun ha e => (A.old ha).2.2.trans e
  have ls : ∀ i, 11 ≤ i → i ≤ 14 → LSt u (K i) (lk i) (lB i) := fun i h1 h2 => by
    by_cases e : i = n
    · subst e
      exact (h.lst h1 h2).add A hx hB
    · exact (h.lst h1 h2).addN A (L i n h1 h2 n1 n2 e).1 (L i n h1 h2 n1 n2 e).2
  exact ⟨⟨A.ink h.k0, A.ink h.k1, A.ink h.k2, A.ink h.k3, A.ink h.k4, A.ink h.k5⟩, ⟨A.ink h.k6, A.ink h.k7, A.ink h.k8, A.ink h.k9, A.ink h.k10⟩, ⟨r h.r48, r h.r49⟩,
   ⟨r h.r32, r h.r33, r h.r34, r h.r35, r h.r36, r h.r37, r h.r38⟩, r h.r16, ⟨r h.r23, r h.r24, r h.r25, r h.r26, r h.r27, r h.r28⟩, fun a ha => r (h.r0 (A.inkI (by decide) ha)),
   ⟨nn h.k6.1 h.n6, nn h.k7.1 h.n7, nn h.k8.1 h.n8, nn h.k9.1 h.n9, nn h.k10.1 h.n10⟩, ⟨ls 11 (by decide) (by decide), ls 12 (by decide) (by decide), ls 13 (by decide) (by decide), ls 14 (by decide) (by decide)⟩⟩
end AA
/-! clearing one list -/
section CC
variable {E : EV} {K : Nat → Nat} {S u : PS} {h x : Nat}
theorem Clr.ink {k a : Nat} (A : Clr S h u) : InK u a k ↔ InK S a k := by
  obtain ⟨f1, f2, -⟩ := A.flds
  unfold InK
  rw [f1, f2]
theorem Clr.oth (A : Clr S h u) {t : Nat} (hne : sE S h ≠ some t) : sO u t = sO S t := by
  obtain ⟨o, ho, rfl⟩ := A
  exact ho t hne
theorem LSt.clr {k B : Nat} (L : LSt S h k B) (A : Clr S h u) : LSt u h k B := ⟨A.ink.mpr L.1, by rw [A.size]; exact Nat.zero_le _, fun j hj => absurd hj (by rw [A.size]; exact Nat.not_lt_zero j)⟩
theorem LSt.clrN {b k B : Nat} (L : LSt S b k B) (A : Clr S h u) (hb : b ≠ h) (hd : ∀ t, t ∈ sL S → sE S b = some t → sE S h ≠ some t) : LSt u b k B := by
  obtain ⟨h1, h2, h3⟩ := L
  obtain ⟨f1, f2, f3, f4, f5, f6, f7, f8⟩ := A.flds
  refine ⟨A.ink.mpr h1, by rw [A.sizeN hb]; exact h2, fun j hj => ?_⟩
  rw [A.sizeN hb] at hj
  obtain ⟨t, b1, b2, b3, b4, b5, b6⟩ := h3 j hj
  refine ⟨t, by rw [f5]; exact b1, A.ink.mpr b2, by rw [f6]; exact b3, by rw [f6]; exact b4, ?_⟩
  rw [A.elo b1 (hd t b2.1 b1), A.oth (hd t b2.1 b1)]
  exact ⟨b5, A.ink.mpr b6⟩
theorem LW.clr (L : LW E K S) {n : Nat} (n1 : 11 ≤ n) (n2 : n ≤ 14) (A : Clr S (K n) u) : LW E K u := by
  obtain ⟨f1, f2, f3, f4, f5, f6, f7, f8⟩ := A.flds
  refine ⟨fun i h1 h2 => ?_, fun i j h1 h2 h3 h4 h5 => ⟨(L.2 i j h1 h2 h3 h4 h5).1, fun t => by rw [f1, f5]; exact (L.2 i j h1 h2 h3 h4 h5).2 t⟩⟩
  by_cases e : i = n
  · subst e
    exact A.lc (L.1 i h1 h2)
  · have d := L.2 i n h1 h2 n1 n2 e
    refine A.lcN d.1 (L.1 i h1 h2) ?_
    rcases (L.1 i h1 h2).2.2 with q | ⟨t2, w, ht2, -⟩
    · exact Or.inr q
    · exact Or.inl (fun e2 => d.2 t2 ht2.1 w (by rw [← e2]; exact w))
theorem WS.clr (h : WS K S) (L : LD K S) {n : Nat} (n1 : 11 ≤ n) (n2 : n ≤ 14) (A : Clr S (K n) u) : WS K u := by
  obtain ⟨f1, f2, f3, f4, f5, f6, f7, f8⟩ := A.flds
  have r : ∀ {f a v}, sR S f a = v → sR u f a = v := fun e => by rw [f3]; exact e
  have nn : ∀ {a v}, sN S a = v → sN u a = v := fun e => by rw [f6]; exact e
  have k : ∀ {a k}, InK S a k → InK u a k := fun e => A.ink.mpr e
  have ls : ∀ i, 11 ≤ i → i ≤ 14 → LSt u (K i) (lk i) (lB i) := fun i h1 h2 => by
    by_cases e : i = n
    · subst e
      exact (h.lst h1 h2).clr A
    · exact (h.lst h1 h2).clrN A (L i n h1 h2 n1 n2 e).1 (L i n h1 h2 n1 n2 e).2
  exact ⟨⟨k h.k0, k h.k1, k h.k2, k h.k3, k h.k4, k h.k5⟩, ⟨k h.k6, k h.k7, k h.k8, k h.k9, k h.k10⟩, ⟨r h.r48, r h.r49⟩,
   ⟨r h.r32, r h.r33, r h.r34, r h.r35, r h.r36, r h.r37, r h.r38⟩, r h.r16, ⟨r h.r23, r h.r24, r h.r25, r h.r26, r h.r27, r h.r28⟩, fun a ha => r (h.r0 (A.ink.mp ha)),
   ⟨nn h.n6, nn h.n7, nn h.n8, nn h.n9, nn h.n10⟩, ⟨ls 11 (by decide) (by decide), ls 12 (by decide) (by decide), ls 13 (by decide) (by decide), ls 14 (by decide) (by decide)⟩⟩
end CC
/-! behind the constructor -/
def KK (a q1 q2 q3 q4 q5 q6 q7 q8 q9 q10 q11 q12 q13 q14 : Nat) : Nat → Nat := fun i => [a, q1, q2, q10, q9, q8, q3, q11, q12, q13, q14, q4, q5, q6, q7].getD i 0
section NN
variable {E : EV} {T : PS} {a q1 q2 q3 q4 q5 q6 q7 q8 q9 q10 q11 q12 q13 q14 : Nat}
theorem NS.ws {d : Nat} (N : NS T d a q1 q2 q3 q4 q5 q6 q7 q8 q9 q10 q11 q12 q13 q14) : WS (KK a q1 q2 q3 q4 q5 q6 q7 q8 q9 q10 q11 q12 q13 q14) T := by
  have hL := N.L
  have z : ∀ {h k B}, InK T h 8 → sZ T h = 0 → LSt T h k B := fun h1 h2 => ⟨h1, by rw [h2]; exact Nat.zero_le _, fun j hj => absurd hj (by rw [h2]; exact Nat.not_lt_zero j)⟩
  have m4 : InK T q4 8 := ⟨by rw [hL]; simp, N.k_q4⟩
  have m5 : InK T q5 8 := ⟨by rw [hL]; simp, N.k_q5⟩
  have m6 : InK T q6 8 := ⟨by rw [hL]; simp, N.k_q6⟩
  have m7 : InK T q7 8 := ⟨by rw [hL]; simp, N.k_q7⟩
  refine ⟨⟨⟨by rw [hL]; simp [KK], N.k_a⟩, ⟨by rw [hL]; simp [KK], N.k_q1⟩, ⟨by rw [hL]; simp [KK], N.k_q2⟩, ⟨by rw [hL]; simp [KK], N.k_q10⟩, ⟨by rw [hL]; simp [KK], N.k_q9⟩, ⟨by rw [hL]; simp [KK], N.k_q8⟩⟩,
    ⟨⟨by rw [hL]; simp [KK], N.k_q3⟩, ⟨by rw [hL]; simp [KK], N.k_q11⟩, ⟨by rw [hL]; simp [KK], N.k_q12⟩, ⟨by rw [hL]; simp [KK], N.k_q13⟩, ⟨by rw [hL]; simp [KK], N.k_q14⟩⟩,
    ⟨N.r48, N.r49⟩, ⟨N.r32, N.r33, N.r34, N.r35, N.r36, N.r37, N.r38⟩, N.r16, ⟨N.r23, N.r24, N.r25, N.r26, N.r27, N.r28⟩, ?_,
    ⟨N.n_q3, N.n_q11, N.n_q12, N.n_q13, N.n_q14⟩, ⟨z m4 N.z_q4, z m5 N.z_q5, z m6 N.z_q6, z m7 N.z_q7⟩⟩
  rintro b ⟨hb, hk⟩
  rw [hL] at hb
  simp only [List.mem_cons, List.not_mem_nil, or_false] at hb
  rcases hb with rfl | rfl | rfl | rfl | rfl | rfl | rfl | rfl | rfl | rfl | rfl | rfl | rfl | rfl | rfl
  · exact absurd (N.k_a.symm.trans hk) (by decide)
  · exact absurd (N.k_q1.symm.trans hk) (by decide)
  · exact absurd (N.k_q2.symm.trans hk) (by decide)
  · exact absurd (N.k_q3.symm.trans hk) (by decide)
  · exact absurd (N.k_q4.symm.trans hk) (by decide)
  · exact absurd (N.k_q5.symm.trans hk) (by decide)
  · exact absurd (N.k_q6.symm.trans hk) (by decide)
  · exact absurd (N.k_q7.symm.trans hk) (by decide)
  · exact absurd (N.k_q8.symm.trans hk) (by decide)
  · exact N.r0
  · exact absurd (N.k_q10.symm.trans hk) (by decide)
  · exact absurd (N.k_q11.symm.trans hk) (by decide)
  · exact absurd (N.k_q12.symm.trans hk) (by decide)
  · exact absurd (N.k_q13.symm.trans hk) (by decide)
  · exact absurd (N.k_q14.symm.trans hk) (by decide)
theorem NS.lw (N : NS T (eDF E) a q1 q2 q3 q4 q5 q6 q7 q8 q9 q10 q11 q12 q13 q14) (hn : (sL T).Nodup) (hd : eDF E ∉ sL T) : LW E (KK a q1 q2 q3 q4 q5 q6 q7 q8 q9 q10 q11 q12 q13 q14) T := by
  have hL := N.L
  have z : ∀ {h}, InK T h 8 → sZ T h = 0 → sE T h = some (eDF E) → LC E T h := fun h1 h2 h3 => ⟨h1, by rw [h2]; exact Nat.zero_le _, Or.inl ⟨h3, h2⟩⟩
  have m4 : InK T q4 8 := ⟨by rw [hL]; simp, N.k_q4⟩
  have m5 : InK T q5 8 := ⟨by rw [hL]; simp, N.k_q5⟩
  have m6 : InK T q6 8 := ⟨by rw [hL]; simp, N.k_q6⟩
  have m7 : InK T q7 8 := ⟨by rw [hL]; simp, N.k_q7⟩
  rw [hL] at hn
  simp only [List.nodup_cons, List.mem_cons, List.not_mem_nil, or_false, not_or] at hn
  have e : ∀ i, 11 ≤ i → i ≤ 14 → sE T (KK a q1 q2 q3 q4 q5 q6 q7 q8 q9 q10 q11 q12 q13 q14 i) = some (eDF E) := fun i h1 h2 => by
    have : i = 11 ∨ i = 12 ∨ i = 13 ∨ i = 14 := by omega
    rcases this with rfl | rfl | rfl | rfl
    · exact N.e_q4
    · exact N.e_q5
    · exact N.e_q6
    · exact N.e_q7
  refine ⟨fun i h1 h2 => ?_, fun i j h1 h2 h3 h4 h5 => ⟨?_, fun t ht he => ?_⟩⟩
  · have : i = 11 ∨ i = 12 ∨ i = 13 ∨ i = 14 := by omega
    rcases this with rfl | rfl | rfl | rfl
    · exact z m4 N.z_q4 N.e_q4
    · exact z m5 N.z_q5 N.e_q5
    · exact z m6 N.z_q6 N.e_q6
    · exact z m7 N.z_q7 N.e_q7
  · have hi : i = 11 ∨ i = 12 ∨ i = 13 ∨ i = 14 := by omega
    have hj : j = 11 ∨ j = 12 ∨ j = 13 ∨ j = 14 := by omega
    rcases hi with rfl | rfl | rfl | rfl <;> rcases hj with rfl | rfl | rfl | rfl <;> first | exact absurd rfl h5 | (simp only [KK, List.getD_cons_succ, List.getD_cons_zero]; intro e9; simp_all)
  · rw [e i h1 h2] at he
    cases he
    exact absurd ht hd
end NN
