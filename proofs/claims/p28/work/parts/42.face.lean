/-! the yard, and how far a jib reaches in it -/
def inY (K : Nat → Nat) (S : PS) (r q : Int) : Prop := 0 ≤ r ∧ r < (sI S 18 (K 2)).toInt ∧ 0 ≤ q ∧ q < (sI S 17 (K 2)).toInt
theorem hasPlace_iff {K : Nat → Nat} {S : PS} {r q : Int32} : ¬ m_hasPlace K S r q = 0 ↔ inY K S r.toInt q.toInt := by
  unfold m_hasPlace inY
  by_cases c1 : r < 0
  · rw [if_pos c1]
    rw [Int32.lt_iff_toInt_lt, ti_0] at c1
    exact ⟨fun h => absurd rfl h, fun h => by omega⟩
  rw [if_neg c1]
  by_cases c2 : sI S 18 (K 2) ≤ r
  · rw [if_pos c2]
    rw [Int32.le_iff_toInt_le] at c2
    exact ⟨fun h => absurd rfl h, fun h => by omega⟩
  rw [if_neg c2]
  by_cases c3 : q < 0
  · rw [if_pos c3]
    rw [Int32.lt_iff_toInt_lt, ti_0] at c3
    exact ⟨fun h => absurd rfl h, fun h => by omega⟩
  rw [if_neg c3]
  by_cases c4 : sI S 17 (K 2) ≤ q
  · rw [if_pos c4]
    rw [Int32.le_iff_toInt_le] at c4
    exact ⟨fun h => absurd rfl h, fun h => by omega⟩
  rw [if_neg c4]
  rw [Int32.lt_iff_toInt_lt, ti_0] at c1 c3
  rw [Int32.le_iff_toInt_le] at c2 c4
  exact ⟨fun _ => by omega, fun _ => by decide⟩
def AY (K : Nat → Nat) (S : PS) (a : Nat) : Prop := ∀ i : Int, 0 ≤ i → i ≤ (sI S 9 a).toInt → inY K S ((sI S 3 a).toInt + i * dR S a) ((sI S 4 a).toInt + i * dC S a)
/-- a crane's tower stands in the yard, and its reach is one -/
def TW (K : Nat → Nat) (S : PS) (a : Nat) : Prop := inY K S (sI S 3 a).toInt (sI S 4 a).toInt ∧ ((sI S 3 a).toInt ≤ 20 ∧ (sI S 4 a).toInt ≤ 20) ∧ 0 ≤ (sI S 6 a).toInt ∧ (sI S 6 a).toInt ≤ 20
section FC
variable {K : Nat → Nat} {S : PS} {a : Nat} {b : Int32}
theorem uI_s {f a : Nat} {v : Int32} : sI (uI S f a v) f a = v := up2_s _ _ _ _
theorem uI_f {f g a c : Nat} {v : Int32} (h : g ≠ f) : sI (uI S f a v) g c = sI S g c := up2_f _ _ _ _ h
theorem uI_a {f g a c : Nat} {v : Int32} (h : c ≠ a) : sI (uI S f a v) g c = sI S g c := up2_a _ _ _ _ h
def fv (S : PS) (a : Nat) (b n : Int32) : PS := uI (uI S 8 a b) 9 a n
theorem fv_f {f : Nat} {n : Int32} (h8 : f ≠ 8) (h9 : f ≠ 9) (c : Nat) : sI (fv S a b n) f c = sI S f c := (uI_f h9).trans (uI_f h8)
theorem fv_8 {n : Int32} : sI (fv S a b n) 8 a = b := (uI_f (by decide)).trans uI_s
theorem fv_9 {n : Int32} : sI (fv S a b n) 9 a = n := uI_s
theorem fv_dR {n m : Int32} : dR (fv S a b n) a = dR (fv S a b m) a := by unfold dR bea; rw [fv_8, fv_8]
theorem fv_dC {n m : Int32} : dC (fv S a b n) a = dC (fv S a b m) a := by unfold dC bea; rw [fv_8, fv_8]
theorem fv_inY {n : Int32} {r q : Int} : inY K (fv S a b n) r q ↔ inY K S r q := by unfold inY; rw [fv_f (by decide) (by decide), fv_f (by decide) (by decide)]
theorem faceN_spec (hT : TW K S a) : ∀ (r j : Nat), j + r = 21 → (∀ i : Int, 0 ≤ i → i ≤ j → inY K S ((sI S 3 a).toInt + i * dR (fv S a b 0) a) ((sI S 4 a).toInt + i * dC (fv S a b 0) a)) → (j : Int) ≤ (sI S 6 a).toInt →
    (∀ i : Int, 0 ≤ i → i ≤ m_faceN K S a b r j → inY K S ((sI S 3 a).toInt + i * dR (fv S a b 0) a) ((sI S 4 a).toInt + i * dC (fv S a b 0) a)) ∧ (m_faceN K S a b r j : Int) ≤ (sI S 6 a).toInt
  | 0, j, _, h, hj => ⟨h, hj⟩
  | r + 1, j, hjr, h, hj => by
    simp only [m_faceN]
    split
    · exact ⟨h, hj⟩
    · rename_i c1
      split
      · exact ⟨h, hj⟩
      · rename_i c2
        have hn : (nI j).toInt = j := nI_toInt (by omega)
        have hn1 : (nI j + 1).toInt = j + 1 := by rw [nI_1, nI_toInt (by omega)]; omega
        have hge : GE (fv S a b (nI j)) a := by
          refine ⟨⟨?_, ?_⟩, ⟨?_, ?_⟩, ?_, ?_⟩
          · rw [fv_f (by decide) (by decide)]; exact hT.1.1
          · rw [fv_f (by decide) (by decide)]; exact hT.2.1.1
          · rw [fv_f (by decide) (by decide)]; exact hT.1.2.2.1
          · rw [fv_f (by decide) (by decide)]; exact hT.2.1.2
          · rw [fv_9, hn]; omega
          · rw [fv_9, hn]; omega
        have c2' : ¬ m_hasPlace K (fv S a b (nI j)) (m_rowAt K (fv S a b (nI j)) a (nI j + 1)) (m_columnAt K (fv S a b (nI j)) a (nI j + 1)) = 0 := c2
        rw [hasPlace_iff, fv_inY, rowAt_int hge (by rw [hn1]; omega), colAt_int hge (by rw [hn1]; omega), hn1, fv_f (by decide) (by decide), fv_f (by decide) (by decide), fv_dR (m := 0), fv_dC (m := 0)] at c2'
        rw [Int32.le_iff_toInt_le, hn] at c1
        refine faceN_spec hT r (j + 1) (by omega) (fun i i0 i1 => ?_) (by omega)
        by_cases e : i ≤ j
        · exact h i i0 e
        · have : i = (j : Int) + 1 := by omega
          rw [this]
          exact c2'
theorem face_f {f : Nat} (h8 : f ≠ 8) (h9 : f ≠ 9) (c : Nat) : sI (m_face K S a b) f c = sI S f c := fv_f h8 h9 c
theorem face_8 : sI (m_face K S a b) 8 a = b := fv_8
theorem face_spec (hT : TW K S a) : AY K (m_face K S a b) a ∧ 0 ≤ (sI (m_face K S a b) 9 a).toInt ∧ (sI (m_face K S a b) 9 a).toInt ≤ (sI S 6 a).toInt := by
  have h0 : ∀ i : Int, 0 ≤ i → i ≤ (0 : Nat) → inY K S ((sI S 3 a).toInt + i * dR (fv S a b 0) a) ((sI S 4 a).toInt + i * dC (fv S a b 0) a) := fun i i0 i1 => by
    have : i = 0 := by omega
    rw [this, Int.zero_mul, Int.zero_mul, Int.add_zero, Int.add_zero]
    exact hT.1
  obtain ⟨s1, s2⟩ := faceN_spec (b := b) hT 21 0 rfl h0 (by have := hT.2.2.1; omega)
  have hle := hT.2.2.2
  have e9 : (sI (m_face K S a b) 9 a).toInt = m_faceN K S a b 21 0 := by
    show (sI (fv S a b (nI (m_faceN K S a b 21 0))) 9 a).toInt = _
    rw [fv_9, nI_toInt (by omega)]
  refine ⟨fun i i0 i1 => ?_, by omega, by omega⟩
  rw [e9] at i1
  have := s1 i i0 i1
  show inY K (fv S a b (nI (m_faceN K S a b 21 0))) _ _
  rw [fv_inY]
  show inY K S ((sI (fv S a b (nI (m_faceN K S a b 21 0))) 3 a).toInt + i * dR (fv S a b (nI (m_faceN K S a b 21 0))) a) ((sI (fv S a b (nI (m_faceN K S a b 21 0))) 4 a).toInt + i * dC (fv S a b (nI (m_faceN K S a b 21 0))) a)
  rw [fv_f (by decide) (by decide), fv_f (by decide) (by decide), fv_dR (m := 0), fv_dC (m := 0)]
  exact this
end FC
/-! cells -/
def YD (K : Nat → Nat) (S : PS) : Prop := (6 ≤ (sI S 17 (K 2)).toInt ∧ (sI S 17 (K 2)).toInt ≤ 14) ∧ 6 ≤ (sI S 18 (K 2)).toInt ∧ (sI S 18 (K 2)).toInt ≤ 14
theorem cell_lt {w h r q : Int} (hw : 6 ≤ w ∧ w ≤ 14) (hh : 6 ≤ h ∧ h ≤ 14) (hr : 0 ≤ r ∧ r < h) (hq : 0 ≤ q ∧ q < w) : 0 ≤ r * w + q ∧ r * w + q < w * h ∧ r * w + q < 196 := by
  have : w = 6 ∨ w = 7 ∨ w = 8 ∨ w = 9 ∨ w = 10 ∨ w = 11 ∨ w = 12 ∨ w = 13 ∨ w = 14 := by omega
  rcases this with rfl | rfl | rfl | rfl | rfl | rfl | rfl | rfl | rfl <;> omega
theorem cell_inj {w r q r2 q2 : Int} (hw : 6 ≤ w ∧ w ≤ 14) (hq : 0 ≤ q ∧ q < w) (hq2 : 0 ≤ q2 ∧ q2 < w) (h : r * w + q = r2 * w + q2) : r = r2 ∧ q = q2 := by
  have : w = 6 ∨ w = 7 ∨ w = 8 ∨ w = 9 ∨ w = 10 ∨ w = 11 ∨ w = 12 ∨ w = 13 ∨ w = 14 := by omega
  rcases this with rfl | rfl | rfl | rfl | rfl | rfl | rfl | rfl | rfl <;> omega
theorem cellAt_in {K : Nat → Nat} {S : PS} {r q : Int32} (hY : YD K S) (h : inY K S r.toInt q.toInt) : (m_cellAt K S r q).toInt = r.toInt * (sI S 17 (K 2)).toInt + q.toInt := by
  have c := cell_lt hY.1 hY.2 ⟨h.1, h.2.1⟩ h.2.2
  have hq := h.2.2
  have hm : 0 ≤ r.toInt * (sI S 17 (K 2)).toInt := Int.mul_nonneg h.1 (by have := hY.1; omega)
  unfold m_cellAt
  rw [if_neg (hasPlace_iff.mpr h), ti_add (by rw [ti_mul (by omega) (by omega)]; omega) (by rw [ti_mul (by omega) (by omega)]; omega), ti_mul (by omega) (by omega)]
theorem cellAt_out {K : Nat → Nat} {S : PS} {r q : Int32} (h : ¬ inY K S r.toInt q.toInt) : m_cellAt K S r q = -1 := by
  unfold m_cellAt
  rw [if_pos (Classical.byContradiction fun c => h (hasPlace_iff.mp c))]
theorem plumb_in {K : Nat → Nat} {S : PS} {a : Nat} (hY : YD K S) (hg : GE S a) (hr : -50 ≤ (sI S 10 a).toInt ∧ (sI S 10 a).toInt ≤ 50) (h : inY K S ((sI S 3 a).toInt + (sI S 10 a).toInt * dR S a) ((sI S 4 a).toInt + (sI S 10 a).toInt * dC S a)) :
    (m_plumb K S a).toInt = ((sI S 3 a).toInt + (sI S 10 a).toInt * dR S a) * (sI S 17 (K 2)).toInt + ((sI S 4 a).toInt + (sI S 10 a).toInt * dC S a) := by
  unfold m_plumb
  rw [← rowAt_int (K := K) hg hr, ← colAt_int (K := K) hg hr] at h ⊢
  exact cellAt_in hY h
theorem plumb_out {K : Nat → Nat} {S : PS} {a : Nat} (hg : GE S a) (hr : -50 ≤ (sI S 10 a).toInt ∧ (sI S 10 a).toInt ≤ 50) (h : ¬ inY K S ((sI S 3 a).toInt + (sI S 10 a).toInt * dR S a) ((sI S 4 a).toInt + (sI S 10 a).toInt * dC S a)) : m_plumb K S a = -1 := by
  unfold m_plumb
  rw [← rowAt_int (K := K) hg hr, ← colAt_int (K := K) hg hr] at h
  exact cellAt_out h
theorem cells_int {K : Nat → Nat} {S : PS} (hY : YD K S) : (m_cells K S).toInt = (sI S 17 (K 2)).toInt * (sI S 18 (K 2)).toInt := by
  obtain ⟨⟨h1, h2⟩, h3, h4⟩ := hY
  have b1 : 0 ≤ (sI S 17 (K 2)).toInt * (sI S 18 (K 2)).toInt := Int.mul_nonneg (by omega) (by omega)
  have b2 : (sI S 17 (K 2)).toInt * (sI S 18 (K 2)).toInt ≤ 14 * 14 := Int.mul_le_mul h2 h4 (by omega) (by omega)
  unfold m_cells
  exact ti_mul (by omega) (by omega)
