/-! poses of the trial crane -/
def AF (K : Nat → Nat) (M T : PS) : Prop := AG K M T ∧ (∀ f, 1 ≤ f → f ≤ 11 → f ≠ 8 → f ≠ 9 → f ≠ 10 → sI T f (K 4) = sI M f (K 4)) ∧ sM T 14 (K 4) = sM M 14 (K 4)
theorem AF.rf {K : Nat → Nat} {M : PS} : AF K M M := ⟨AG.rf, fun _ _ _ _ _ _ => rfl, rfl⟩
def PZ (K : Nat → Nat) (M : PS) (b r : Nat) : PS := uI (m_face K M (K 4) (nI b)) 10 (K 4) (nI r)
/-- T's trial crane stands in this pose -/
def AP (K : Nat → Nat) (M T : PS) (b r : Nat) : Prop := AF K M T ∧ sI T 8 (K 4) = nI b ∧ sI T 9 (K 4) = nI (m_faceN K M (K 4) (nI b) 21 0) ∧ sI T 10 (K 4) = nI r
section PO
variable {K : Nat → Nat} {M T : PS} {b r : Nat}
theorem PZ_f {f : Nat} (h8 : f ≠ 8) (h9 : f ≠ 9) (h10 : f ≠ 10) (c : Nat) : sI (PZ K M b r) f c = sI M f c := (uI_f h10).trans (face_f h8 h9 c)
theorem PZ_a {f c : Nat} (hc : c ≠ K 4) : sI (PZ K M b r) f c = sI M f c := (uI_a hc).trans ((uI_a hc).trans (uI_a hc))
theorem PZ_8 : sI (PZ K M b r) 8 (K 4) = nI b := (uI_f (by decide)).trans face_8
theorem PZ_9 : sI (PZ K M b r) 9 (K 4) = nI (m_faceN K M (K 4) (nI b) 21 0) := (uI_f (by decide)).trans uI_s
theorem PZ_10 : sI (PZ K M b r) 10 (K 4) = nI r := uI_s
theorem AP.pz : AP K M (PZ K M b r) b r :=
  ⟨⟨⟨⟨rfl, rfl, rfl, rfl⟩, fun _ _ hc => PZ_a hc, fun _ _ _ => rfl, rfl⟩, fun _ _ _ h8 h9 h10 => PZ_f h8 h9 h10 _, rfl⟩, PZ_8, PZ_9, PZ_10⟩
theorem AP.at (h : AP K M T b r) : AT K (PZ K M b r) T := by
  refine ⟨⟨⟨h.1.1.1.1, h.1.1.1.2.1, h.1.1.1.2.2.1, h.1.1.1.2.2.2⟩, fun f a ha => (h.1.1.i f ha).trans (PZ_a ha).symm, fun f a ha => h.1.1.m f ha, h.1.1.2.2.2⟩, fun f f1 f2 => ?_, h.1.2.2⟩
  by_cases e8 : f = 8
  · rw [e8, h.2.1, PZ_8]
  by_cases e9 : f = 9
  · rw [e9, h.2.2.1, PZ_9]
  by_cases e10 : f = 10
  · rw [e10, h.2.2.2, PZ_10]
  rw [h.1.2.1 f f1 f2 e8 e9 e10, PZ_f e8 e9 e10]
theorem f_faceN (hW : WS K M) (h : AF K M T) (x : Int32) : ∀ (r j : Nat), m_faceN K T (K 4) x r j = m_faceN K M (K 4) x r j
  | 0, j => rfl
  | r + 1, j => by
    have e1 : m_rowAt K (uI (uI T 8 (K 4) x) 9 (K 4) (nI j)) (K 4) (nI j + 1) = m_rowAt K (uI (uI M 8 (K 4) x) 9 (K 4) (nI j)) (K 4) (nI j + 1) := by
      show m_rowAt K (fv T (K 4) x (nI j)) (K 4) (nI j + 1) = m_rowAt K (fv M (K 4) x (nI j)) (K 4) (nI j + 1)
      unfold m_rowAt
      rw [fv_8, fv_8, fv_f (by decide) (by decide), fv_f (by decide) (by decide), h.2.1 3 (by decide) (by decide) (by decide) (by decide) (by decide)]
    have e2 : m_columnAt K (uI (uI T 8 (K 4) x) 9 (K 4) (nI j)) (K 4) (nI j + 1) = m_columnAt K (uI (uI M 8 (K 4) x) 9 (K 4) (nI j)) (K 4) (nI j + 1) := by
      show m_columnAt K (fv T (K 4) x (nI j)) (K 4) (nI j + 1) = m_columnAt K (fv M (K 4) x (nI j)) (K 4) (nI j + 1)
      unfold m_columnAt
      rw [fv_8, fv_8, fv_f (by decide) (by decide), fv_f (by decide) (by decide), h.2.1 4 (by decide) (by decide) (by decide) (by decide) (by decide)]
    have e3 : ∀ r q, m_hasPlace K (uI (uI T 8 (K 4) x) 9 (K 4) (nI j)) r q = m_hasPlace K (uI (uI M 8 (K 4) x) 9 (K 4) (nI j)) r q := fun r q => by
      show m_hasPlace K (fv T (K 4) x (nI j)) r q = m_hasPlace K (fv M (K 4) x (nI j)) r q
      unfold m_hasPlace
      rw [fv_f (by decide) (by decide), fv_f (by decide) (by decide), fv_f (by decide) (by decide), fv_f (by decide) (by decide), h.1.i 17 hW.n2, h.1.i 18 hW.n2]
    simp only [m_faceN]
    rw [h.2.1 6 (by decide) (by decide) (by decide) (by decide) (by decide), f_faceN hW h x r (j + 1), e1, e2, e3]
theorem AF.uI (h : AF K M T) {f : Nat} (hf : f = 8 ∨ f = 9 ∨ f = 10) (v : Int32) : AF K M (uI T f (K 4) v) :=
  ⟨⟨h.1.1, fun g c hc => (uI_a hc).trans (h.1.i g hc), h.1.2.2.1, h.1.2.2.2⟩, fun g g1 g2 h8 h9 h10 => (uI_f (by omega)).trans (h.2.1 g g1 g2 h8 h9 h10), h.2.2⟩
theorem AF.uA (h : AF K M T) {q : Nat} (hq : K 6 ≠ q) (v : Nat → Int32) : AF K M (uA T q v) :=
  ⟨⟨h.1.1, h.1.2.1, h.1.2.2.1, (va_up_ne _ _ hq).trans h.1.2.2.2⟩, h.2.1, h.2.2⟩
/-- facing anew from any pose -/
theorem ap_face (hW : WS K M) (h : AF K M T) (b : Nat) : AF K M (m_face K T (K 4) (nI b)) ∧ sI (m_face K T (K 4) (nI b)) 8 (K 4) = nI b ∧ sI (m_face K T (K 4) (nI b)) 9 (K 4) = nI (m_faceN K M (K 4) (nI b) 21 0) := by
  refine ⟨(h.uI (Or.inl rfl) _).uI (Or.inr (Or.inl rfl)) _, face_8, ?_⟩
  rw [← f_faceN hW h]
  exact uI_s
theorem ap_assume (hW : WS K M) (h : AF K M T) {b r : Nat} (hb : b < 8) (hr : r < 10) : AP K M (m_assume K T (nI (b * 10 + r))) b r := by
  have hd : ∀ n, n < 80 → nI n / 10 = nI (n / 10) ∧ nI n - nI n / 10 * 10 = nI (n % 10) := by decide +kernel
  obtain ⟨d1, d2⟩ := hd (b * 10 + r) (by omega)
  have e1 : (b * 10 + r) / 10 = b := by omega
  have e2 : (b * 10 + r) % 10 = r := by omega
  rw [e1] at d1
  rw [e2] at d2
  unfold m_assume
  rw [d2, d1]
  obtain ⟨f1, f2, f3⟩ := ap_face hW h b
  exact ⟨f1.uI (Or.inr (Or.inr rfl)) _, (uI_f (by decide)).trans f2, (uI_f (by decide)).trans f3, uI_s⟩
def mvp (o : Nat) (p : Nat × Nat) : Nat × Nat := if o = 0 then ((p.1 + 1) % 8, p.2) else if o = 1 then ((p.1 + 7) % 8, p.2) else if o = 2 then (p.1, p.2 + 1) else (p.1, p.2 - 1)
theorem and7 : ∀ b, b < 8 → (nI b + 1) &&& 7 = nI ((b + 1) % 8) ∧ (nI b - 1) &&& 7 = nI ((b + 7) % 8) ∧ nI b &&& 7 = nI b := by decide +kernel
theorem ap_move (hW : WS K M) (h : AP K M T b r) (hb : b < 8) (h1 : 1 ≤ r) (hr : r < 2 ^ 30) {o : Nat} (ho : o < 4) : AP K M (m_move K T (K 4) (nI o)) (mvp o (b, r)).1 (mvp o (b, r)).2 := by
  obtain ⟨a1, a2, a3⟩ := and7 b hb
  have : o = 0 ∨ o = 1 ∨ o = 2 ∨ o = 3 := by omega
  unfold m_move
  rw [h.2.1, h.2.2.2]
  rcases this with rfl | rfl | rfl | rfl
  · rw [if_pos (by decide), a1]
    obtain ⟨f1, f2, f3⟩ := ap_face hW h.1 ((b + 1) % 8)
    exact ⟨f1, f2, f3, (face_f (by decide) (by decide) _).trans h.2.2.2⟩
  · rw [if_neg (by decide), if_pos (by decide), a2]
    obtain ⟨f1, f2, f3⟩ := ap_face hW h.1 ((b + 7) % 8)
    exact ⟨f1, f2, f3, (face_f (by decide) (by decide) _).trans h.2.2.2⟩
  · rw [if_neg (by decide), if_neg (by decide), if_pos (by decide), nI_1]
    exact ⟨h.1.uI (Or.inr (Or.inr rfl)) _, (uI_f (by decide)).trans h.2.1, (uI_f (by decide)).trans h.2.2.1, uI_s⟩
  · rw [if_neg (by decide), if_neg (by decide), if_neg (by decide), if_pos (by decide)]
    have e : nI r - 1 = nI (r - 1) := by
      obtain ⟨q, rfl⟩ : ∃ q, r = q + 1 := ⟨r - 1, by omega⟩
      exact nI_pred q
    rw [e]
    exact ⟨h.1.uI (Or.inr (Or.inr rfl)) _, (uI_f (by decide)).trans h.2.1, (uI_f (by decide)).trans h.2.2.1, uI_s⟩
/-! where a pose's hook hangs -/
def cR (b : Nat) : Int := (rwV b).toInt
def cC (b : Nat) : Int := (clV b).toInt
theorem PZ_bea (hb : b < 8) : bea (PZ K M b r) (K 4) = b := by
  unfold bea
  rw [PZ_8, (and7 b hb).2.2, nI_clamp (by omega)]
theorem PZ_dR (hb : b < 8) : dR (PZ K M b r) (K 4) = cR b := by unfold dR; rw [PZ_bea hb]; rfl
theorem PZ_dC (hb : b < 8) : dC (PZ K M b r) (K 4) = cC b := by unfold dC; rw [PZ_bea hb]; rfl
def yp (K : Nat → Nat) (M : PS) (p : Nat × Nat) : Prop := inY K M ((sI M 3 (K 4)).toInt + (p.2 : Int) * cR p.1) ((sI M 4 (K 4)).toInt + (p.2 : Int) * cC p.1)
def pl (K : Nat → Nat) (M : PS) (p : Nat × Nat) : Int32 := m_plumb K (PZ K M p.1 p.2) (K 4)
theorem TW.pz (h : TW K M (K 4)) : TW K (PZ K M b r) (K 4) := by
  unfold TW inY
  rw [PZ_f (by decide) (by decide) (by decide), PZ_f (by decide) (by decide) (by decide), PZ_f (by decide) (by decide) (by decide), PZ_f (by decide) (by decide) (by decide), PZ_f (by decide) (by decide) (by decide)]
  exact h
theorem PZ_arm (h : TW K M (K 4)) (hb : b < 8) : (∀ i : Int, 0 ≤ i → i ≤ (sI (PZ K M b r) 9 (K 4)).toInt → inY K M ((sI M 3 (K 4)).toInt + i * cR b) ((sI M 4 (K 4)).toInt + i * cC b)) ∧ 0 ≤ (sI (PZ K M b r) 9 (K 4)).toInt ∧ (sI (PZ K M b r) 9 (K 4)).toInt ≤ (sI M 6 (K 4)).toInt := by
  obtain ⟨s1, s2, s3⟩ := face_spec (b := nI b) h
  have e9 : sI (PZ K M b r) 9 (K 4) = sI (m_face K M (K 4) (nI b)) 9 (K 4) := uI_f (by decide)
  have eb : bea (m_face K M (K 4) (nI b)) (K 4) = b := by unfold bea; rw [face_8, (and7 b hb).2.2, nI_clamp (by omega)]
  rw [e9]
  refine ⟨fun i i0 i1 => ?_, s2, s3⟩
  have := s1 i i0 i1
  unfold inY at this ⊢
  unfold dR dC at this
  rw [eb, face_f (by decide) (by decide), face_f (by decide) (by decide), face_f (by decide) (by decide), face_f (by decide) (by decide)] at this
  exact this
theorem PZ_ge (h : TW K M (K 4)) (hb : b < 8) : GE (PZ K M b r) (K 4) := by
  obtain ⟨-, s2, s3⟩ := PZ_arm (r := r) h hb
  have hl := h.2.2.2
  refine ⟨⟨?_, ?_⟩, ⟨?_, ?_⟩, s2, by omega⟩
  · rw [PZ_f (by decide) (by decide) (by decide)]; exact h.1.1
  · rw [PZ_f (by decide) (by decide) (by decide)]; exact h.2.1.1
  · rw [PZ_f (by decide) (by decide) (by decide)]; exact h.1.2.2.1
  · rw [PZ_f (by decide) (by decide) (by decide)]; exact h.2.1.2
theorem pl_at (hY : YD K M) (hT : TW K M (K 4)) {p : Nat × Nat} (hb : p.1 < 8) (hr : p.2 ≤ 20) : (yp K M p → (pl K M p).toInt = ((sI M 3 (K 4)).toInt + (p.2 : Int) * cR p.1) * (sI M 17 (K 2)).toInt + ((sI M 4 (K 4)).toInt + (p.2 : Int) * cC p.1)) ∧ (¬ yp K M p → pl K M p = -1) := by
  have hg := PZ_ge (r := p.2) hT hb
  have h10 : (sI (PZ K M p.1 p.2) 10 (K 4)).toInt = p.2 := by rw [PZ_10, nI_toInt (by omega)]
  have hY2 : YD K (PZ K M p.1 p.2) := by unfold YD; rw [PZ_f (by decide) (by decide) (by decide), PZ_f (by decide) (by decide) (by decide)]; exact hY
  have iff : inY K (PZ K M p.1 p.2) ((sI (PZ K M p.1 p.2) 3 (K 4)).toInt + (sI (PZ K M p.1 p.2) 10 (K 4)).toInt * dR (PZ K M p.1 p.2) (K 4)) ((sI (PZ K M p.1 p.2) 4 (K 4)).toInt + (sI (PZ K M p.1 p.2) 10 (K 4)).toInt * dC (PZ K M p.1 p.2) (K 4)) ↔ yp K M p := by
    unfold yp inY
    rw [h10, PZ_dR hb, PZ_dC hb, PZ_f (by decide) (by decide) (by decide), PZ_f (by decide) (by decide) (by decide), PZ_f (by decide) (by decide) (by decide), PZ_f (by decide) (by decide) (by decide)]
  refine ⟨fun h => ?_, fun h => ?_⟩
  · have := plumb_in hY2 hg (by omega) (iff.mpr h)
    unfold pl
    rw [this, h10, PZ_dR hb, PZ_dC hb, PZ_f (by decide) (by decide) (by decide), PZ_f (by decide) (by decide) (by decide), PZ_f (by decide) (by decide) (by decide)]
  · exact plumb_out hg (by omega) (fun c => h (iff.mp c))
theorem pl_lt (hY : YD K M) (hT : TW K M (K 4)) {p : Nat × Nat} (hb : p.1 < 8) (hr : p.2 ≤ 20) (h : yp K M p) : 0 ≤ (pl K M p).toInt ∧ (pl K M p).toInt < 196 := by
  rw [(pl_at hY hT hb hr).1 h]
  have := cell_lt hY.1 hY.2 ⟨h.1, h.2.1⟩ h.2.2
  omega
theorem dir_inj : ∀ b c : Nat, b < 8 → c < 8 → ∀ r q : Int, 1 ≤ r → 0 ≤ q → r * cR b = q * cR c → r * cC b = q * cC c → b = c ∧ r = q := by
  intro b c hb hc r q h1 h2 e1 e2
  have t : ∀ n, n < 8 → (n = 0 ∧ cR n = -1 ∧ cC n = 0) ∨ (n = 1 ∧ cR n = -1 ∧ cC n = 1) ∨ (n = 2 ∧ cR n = 0 ∧ cC n = 1) ∨ (n = 3 ∧ cR n = 1 ∧ cC n = 1) ∨ (n = 4 ∧ cR n = 1 ∧ cC n = 0) ∨ (n = 5 ∧ cR n = 1 ∧ cC n = -1) ∨ (n = 6 ∧ cR n = 0 ∧ cC n = -1) ∨ (n = 7 ∧ cR n = -1 ∧ cC n = -1) := by decide +kernel
  have tb := t b hb
  have tc := t c hc
  rcases tb with ⟨rfl, x1, x2⟩ | ⟨rfl, x1, x2⟩ | ⟨rfl, x1, x2⟩ | ⟨rfl, x1, x2⟩ | ⟨rfl, x1, x2⟩ | ⟨rfl, x1, x2⟩ | ⟨rfl, x1, x2⟩ | ⟨rfl, x1, x2⟩ <;> rcases tc with ⟨rfl, y1, y2⟩ | ⟨rfl, y1, y2⟩ | ⟨rfl, y1, y2⟩ | ⟨rfl, y1, y2⟩ | ⟨rfl, y1, y2⟩ | ⟨rfl, y1, y2⟩ | ⟨rfl, y1, y2⟩ | ⟨rfl, y1, y2⟩ <;> simp only [x1, x2, y1, y2] at e1 e2 <;> omega
theorem pl_inj (hY : YD K M) (hT : TW K M (K 4)) {p q : Nat × Nat} (hb : p.1 < 8) (hr : p.2 ≤ 20) (hb2 : q.1 < 8) (hr2 : q.2 ≤ 20) (h1 : 1 ≤ p.2) (hp : yp K M p) (hq : yp K M q) (e : (pl K M p).toInt = (pl K M q).toInt) : p = q := by
  rw [(pl_at hY hT hb hr).1 hp, (pl_at hY hT hb2 hr2).1 hq] at e
  obtain ⟨e1, e2⟩ := cell_inj hY.1 hp.2.2 hq.2.2 e
  obtain ⟨e3, e4⟩ := dir_inj p.1 q.1 hb hb2 p.2 q.2 (by omega) (by omega) (by omega) (by omega)
  obtain ⟨p1, p2⟩ := p
  obtain ⟨q1, q2⟩ := q
  simp only at e3 e4
  rw [e3, show p2 = q2 by omega]
end PO
/-- at most so many of so few -/
theorem pig : ∀ (m n : Nat) (f : Nat → Nat), (∀ i, i < n → f i < m) → (∀ i j, i < n → j < n → f i = f j → i = j) → n ≤ m
  | 0, n, f, h, _ => by
    rcases Nat.eq_zero_or_pos n with e | e
    · omega
    · exact absurd (h 0 e) (Nat.not_lt_zero _)
  | m + 1, n, f, h, hi => by
    by_cases ex : ∃ i, i < n ∧ f i = m
    · obtain ⟨i0, h0, e0⟩ := ex
      have := pig m (n - 1) (fun i => f (if i < i0 then i else i + 1)) (fun i hlt => by
        show f (if i < i0 then i else i + 1) < m
        have hb : (if i < i0 then i else i + 1) < n := by split <;> omega
        have h1 := h _ hb
        have h2 : f (if i < i0 then i else i + 1) ≠ m := fun e => by
          have := hi _ _ hb h0 (e.trans e0.symm)
          split at this <;> omega
        omega) (fun i j h1 h2 e => by
        have hb : (if i < i0 then i else i + 1) < n := by split <;> omega
        have hc : (if j < i0 then j else j + 1) < n := by split <;> omega
        have := hi _ _ hb hc e
        split at this <;> split at this <;> omega)
      omega
    · have := pig m n f (fun i hlt => by
        have h1 := h i hlt
        have h2 : f i ≠ m := fun e => ex ⟨i, hlt, e⟩
        omega) hi
      omega
