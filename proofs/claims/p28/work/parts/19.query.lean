/-! what asking leaves: all but the trial crane and the plans' rows -/
def QS (K : Nat → Nat) (S T : PS) : Prop := SS S T ∧ (∀ f a, a ≠ K 4 → sI T f a = sI S f a) ∧ (∀ f a, a ≠ K 4 → sM T f a = sM S f a) ∧ ∀ a, a ≠ K 7 → a ≠ K 8 → a ≠ K 9 → a ≠ K 10 → sA T a = sA S a
theorem QS.rf {K : Nat → Nat} {S : PS} : QS K S S := ⟨SS.rf, fun _ _ _ => rfl, fun _ _ _ => rfl, fun _ _ _ _ _ => rfl⟩
theorem QS.tr {K : Nat → Nat} {S T U : PS} (h : QS K S T) (h2 : QS K T U) : QS K S U :=
  ⟨h.1.tr h2.1, fun f a e => (h2.2.1 f a e).trans (h.2.1 f a e), fun f a e => (h2.2.2.1 f a e).trans (h.2.2.1 f a e), fun a e1 e2 e3 e4 => (h2.2.2.2 a e1 e2 e3 e4).trans (h.2.2.2 a e1 e2 e3 e4)⟩
theorem QS.uI {K : Nat → Nat} {S : PS} (f : Nat) (v : Int32) : QS K S (uI S f (K 4) v) := ⟨SS.rf, fun f a e => by simp [up2, e, sI], fun _ _ _ => rfl, fun _ _ _ _ _ => rfl⟩
theorem QS.uM {K : Nat → Nat} {S : PS} (f : Nat) (v : Option Nat) : QS K S (uM S f (K 4) v) := ⟨SS.rf, fun _ _ _ => rfl, fun f a e => by simp [up2, e, sM], fun _ _ _ _ _ => rfl⟩
theorem QS.uA7 {K : Nat → Nat} {S : PS} (v : Nat → Int32) : QS K S (uA S (K 7) v) := ⟨SS.rf, fun _ _ _ => rfl, fun _ _ _ => rfl, fun a e1 _ _ _ => by simp [va_up, e1, sA]⟩
theorem QS.uA8 {K : Nat → Nat} {S : PS} (v : Nat → Int32) : QS K S (uA S (K 8) v) := ⟨SS.rf, fun _ _ _ => rfl, fun _ _ _ => rfl, fun a _ e1 _ _ => by simp [va_up, e1, sA]⟩
theorem QS.uA9 {K : Nat → Nat} {S : PS} (v : Nat → Int32) : QS K S (uA S (K 9) v) := ⟨SS.rf, fun _ _ _ => rfl, fun _ _ _ => rfl, fun a _ _ e1 _ => by simp [va_up, e1, sA]⟩
theorem QS.uA10 {K : Nat → Nat} {S : PS} (v : Nat → Int32) : QS K S (uA S (K 10) v) := ⟨SS.rf, fun _ _ _ => rfl, fun _ _ _ => rfl, fun a _ _ _ e1 => by simp [va_up, e1, sA]⟩
theorem q_face {K : Nat → Nat} {S : PS} (b : Int32) : QS K S (m_face K S (K 4) b) := (QS.uI 8 b).tr (QS.uI 9 _)
theorem q_mimic {K : Nat → Nat} {S : PS} (b : Nat) : QS K S (m_mimic K S (K 4) b) :=
  (QS.uI 1 _).tr ((QS.uI 2 _).tr ((QS.uI 3 _).tr ((QS.uI 4 _).tr ((QS.uI 5 _).tr ((QS.uI 6 _).tr ((QS.uI 7 _).tr ((QS.uI 8 _).tr ((QS.uI 9 _).tr ((QS.uI 10 _).tr ((QS.uI 11 _).tr (QS.uM 14 _)))))))))))
theorem q_drawIn {K : Nat → Nat} {S : PS} (b : Int32) : QS K S (m_drawIn K S (K 4) b) := (q_face b).tr ((QS.uI 10 _).tr (QS.uI 11 _))
theorem q_move {K : Nat → Nat} {S : PS} (x : Int32) : QS K S (m_move K S (K 4) x) := by
  unfold m_move
  repeat' split
  · exact q_face _
  · exact q_face _
  · exact QS.uI 10 _
  · exact QS.uI 10 _
  · exact QS.uI 11 _
  · exact QS.uI 11 _
  · exact QS.rf
theorem q_assume {K : Nat → Nat} {S : PS} (x : Int32) : QS K S (m_assume K S x) := (q_face _).tr (QS.uI 10 _)
theorem q_reasonAgainst {K : Nat → Nat} {S : PS} (a : Nat) (x : Int32) : QS K S (m_reasonAgainst K S a x).2 := by
  have h : QS K S (m_move K (m_mimic K S (K 4) a) (K 4) x) := (q_mimic a).tr (q_move x)
  unfold m_reasonAgainst
  repeat' split
  all_goals first | exact QS.rf | exact h
theorem g_reasonAgainst {K : Nat → Nat} {S : PS} (hW : WS K S) (hA : AW S) (hM : WM S) {a : Nat} (haL : a ∈ sL S) (haK : sK S a = 0) (x : Int32) : GW K (m_reasonAgainst K S a x).2 ∧ SS S (m_reasonAgainst K S a x).2 := by
  refine ⟨?_, (q_reasonAgainst a x).1⟩
  have g1 := g_mimic hW hA hM hW.k4.1 hW.k4.2 haL haK
  have g2 := g_move g1.1.1 g1.1.2.1 g1.1.2.2 g1.1.1.k4.1 g1.1.1.k4.2 x
  unfold m_reasonAgainst
  repeat' split
  all_goals first | exact ⟨hW, hA, hM⟩ | exact g2.1
theorem gq_swings_lp {K : Nat → Nat} {S : PS} {a : Nat} {x : Int32} : ∀ (r j : Nat) (T : PS), GW K T ∧ QS K S T → GW K (m_swings_lp K S a x r j T).2 ∧ QS K S (m_swings_lp K S a x r j T).2
  | 0, j, T, h => h
  | r + 1, j, T, h => by
    have g := g_move h.1.1 h.1.2.1 h.1.2.2 h.1.1.k4.1 h.1.1.k4.2 x
    have h2 : GW K (m_move K T (K 4) x) ∧ QS K S (m_move K T (K 4) x) := ⟨g.1, h.2.tr (q_move x)⟩
    simp only [m_swings_lp]
    split
    · exact gq_swings_lp r (j + 1) _ h2
    · exact h2
theorem gq_swings {K : Nat → Nat} {S : PS} (hW : WS K S) (hA : AW S) (hM : WM S) {a : Nat} (haL : a ∈ sL S) (haK : sK S a = 0) (x : Int32) : GW K (m_swings K S a x).2 ∧ QS K S (m_swings K S a x).2 := by
  have g1 := g_mimic hW hA hM hW.k4.1 hW.k4.2 haL haK
  unfold m_swings
  exact gq_swings_lp _ _ _ ⟨g1.1, q_mimic a⟩
theorem g_swings {K : Nat → Nat} {S : PS} (hW : WS K S) (hA : AW S) (hM : WM S) {a : Nat} (haL : a ∈ sL S) (haK : sK S a = 0) (x : Int32) : GW K (m_swings K S a x).2 ∧ SS S (m_swings K S a x).2 := ⟨(gq_swings hW hA hM haL haK x).1, (gq_swings hW hA hM haL haK x).2.1⟩
theorem gq_takeDown_lq {K : Nat → Nat} {S : PS} : ∀ (r j : Nat) (T : PS) (st nx : Int32), GW K T ∧ QS K S T → GW K (m_takeDown_lq K S r j T st nx).2 ∧ QS K S (m_takeDown_lq K S r j T st nx).2
  | 0, j, T, st, nx, h => by
    simp only [m_takeDown_lq]
    split <;> exact h
  | r + 1, j, T, st, nx, h => by
    simp only [m_takeDown_lq]
    split
    · exact h
    · exact gq_takeDown_lq r (j + 1) _ _ _ ⟨⟨h.1.1.uA, h.1.2.1.uA, h.1.2.2.uA⟩, h.2.tr (QS.uA10 _)⟩
theorem gq_takeDown_lp {K : Nat → Nat} {S : PS} : ∀ (r j : Nat) (T : PS), GW K T ∧ QS K S T → GW K (m_takeDown_lp K S r j T).2 ∧ QS K S (m_takeDown_lp K S r j T).2
  | 0, j, T, h => by
    simp only [m_takeDown_lp]
    exact gq_takeDown_lq _ _ _ _ _ h
  | r + 1, j, T, h => by
    simp only [m_takeDown_lp]
    exact gq_takeDown_lp r (j + 1) _ ⟨⟨h.1.1.uA, h.1.2.1.uA, h.1.2.2.uA⟩, h.2.tr (QS.uA9 _)⟩
theorem gq_takeDown {K : Nat → Nat} {S : PS} (hW : WS K S) (hA : AW S) (hM : WM S) : GW K (m_takeDown K S).2 ∧ QS K S (m_takeDown K S).2 := gq_takeDown_lp _ _ _ ⟨⟨hW, hA, hM⟩, QS.rf⟩
theorem g_takeDown {K : Nat → Nat} {S : PS} (hW : WS K S) (hA : AW S) (hM : WM S) : GW K (m_takeDown K S).2 ∧ SS S (m_takeDown K S).2 := ⟨(gq_takeDown hW hA hM).1, (gq_takeDown hW hA hM).2.1⟩
theorem q_fill_lp {K : Nat → Nat} {S : PS} {v : Int32} : ∀ (r j : Nat) (T : PS), QS K S T → QS K S (m_fill_lp K S (K 7) v r j T)
  | 0, j, T, h => h
  | r + 1, j, T, h => by
    simp only [m_fill_lp]
    exact q_fill_lp r (j + 1) _ (h.tr (QS.uA7 _))
theorem q_fill {K : Nat → Nat} {S : PS} {v : Int32} : QS K S (m_fill K S (K 7) v) := q_fill_lp _ _ _ QS.rf
theorem gq_explore_lp {K : Nat → Nat} {S : PS} {a : Nat} : ∀ (r j o f : Nat) (T : PS), GW K T ∧ QS K S T → GW K (m_explore_lp K S a r j o f T).2 ∧ QS K S (m_explore_lp K S a r j o f T).2
  | 0, j, o, f, T, h => h
  | r + 1, j, o, f, T, h => by
    have g1 := g_assume h.1.1 h.1.2.1 h.1.2.2 (sA T (K 8) (nI j).toNatClampNeg)
    have g2 := g_move g1.1.1 g1.1.2.1 g1.1.2.2 g1.1.1.k4.1 g1.1.1.k4.2 (nI o)
    have h2 : GW K (m_move K (m_assume K T (sA T (K 8) (nI j).toNatClampNeg)) (K 4) (nI o)) ∧ QS K S (m_move K (m_assume K T (sA T (K 8) (nI j).toNatClampNeg)) (K 4) (nI o)) := ⟨g2.1, h.2.tr ((q_assume _).tr (q_move _))⟩
    simp only [m_explore_lp]
    generalize m_move K (m_assume K T (sA T (K 8) (nI j).toNatClampNeg)) (K 4) (nI o) = T2 at h2 ⊢
    have h3 : ∀ v, GW K (uA T2 (K 7) v) ∧ QS K S (uA T2 (K 7) v) := fun v => ⟨⟨h2.1.1.uA, h2.1.2.1.uA, h2.1.2.2.uA⟩, h2.2.tr (QS.uA7 _)⟩
    have h4 : ∀ v w, GW K (uA (uA T2 (K 7) v) (K 8) w) ∧ QS K S (uA (uA T2 (K 7) v) (K 8) w) := fun v w => ⟨⟨(h3 v).1.1.uA, (h3 v).1.2.1.uA, (h3 v).1.2.2.uA⟩, (h3 v).2.tr (QS.uA8 _)⟩
    repeat' split
    · exact h
    · exact h
    · exact gq_explore_lp r _ _ _ _ h
    · exact gq_explore_lp r _ _ _ _ h2
    · exact gq_explore_lp r _ _ _ _ h2
    · exact gq_explore_lp r _ _ _ _ h2
    · exact gq_explore_lp r _ _ _ _ h2
    · exact gq_explore_lp r _ _ _ _ (h3 _)
    · exact gq_explore_lp r _ _ _ _ (h4 _ _)
    · exact gq_explore_lp r _ _ _ _ (h3 _)
    · exact gq_explore_lp r _ _ _ _ h2
theorem gq_explore {K : Nat → Nat} {S : PS} (hW : WS K S) (hA : AW S) (hM : WM S) {a : Nat} (haL : a ∈ sL S) (haK : sK S a = 0) : GW K (m_explore K S a).2 ∧ QS K S (m_explore K S a).2 := by
  have g1 := g_fill (v := -1) hW hA hM hW.k7.1 hW.k7.2
  have g2 := g_mimic g1.1.1 g1.1.2.1 g1.1.2.2 g1.1.1.k4.1 g1.1.1.k4.2 (g1.2.inL haL) (g1.2.inK haK)
  have q1 : QS K S (m_fill K S (K 7) (-1)) := q_fill
  have q2 : QS K S (m_mimic K (m_fill K S (K 7) (-1)) (K 4) a) := q1.tr (q_mimic a)
  have h2 : GW K (m_mimic K (m_fill K S (K 7) (-1)) (K 4) a) ∧ QS K S (m_mimic K (m_fill K S (K 7) (-1)) (K 4) a) := ⟨g2.1, q2⟩
  unfold m_explore
  generalize m_mimic K (m_fill K S (K 7) (-1)) (K 4) a = T2 at h2 ⊢
  have h3 : ∀ v, GW K (uA T2 (K 7) v) ∧ QS K S (uA T2 (K 7) v) := fun v => ⟨⟨h2.1.1.uA, h2.1.2.1.uA, h2.1.2.2.uA⟩, h2.2.tr (QS.uA7 _)⟩
  have h4 : ∀ v w, GW K (uA (uA T2 (K 7) v) (K 8) w) ∧ QS K S (uA (uA T2 (K 7) v) (K 8) w) := fun v w => ⟨⟨(h3 v).1.1.uA, (h3 v).1.2.1.uA, (h3 v).1.2.2.uA⟩, (h3 v).2.tr (QS.uA8 _)⟩
  repeat' split
  · exact ⟨g1.1, q1⟩
  · exact h4 _ _
  · exact gq_explore_lp _ _ _ _ _ (h4 _ _)
  · exact ⟨g1.1, q1⟩
theorem g_explore {K : Nat → Nat} {S : PS} (hW : WS K S) (hA : AW S) (hM : WM S) {a : Nat} (haL : a ∈ sL S) (haK : sK S a = 0) : GW K (m_explore K S a).2 ∧ SS S (m_explore K S a).2 := ⟨(gq_explore hW hA hM haL haK).1, (gq_explore hW hA hM haL haK).2.1⟩
theorem g_turnToWind_lp {K : Nat → Nat} {S : PS} (hW : WS K S) : ∀ (r j : Nat) (T : PS) (n : Int32), j + r = sZ S (K 13) → GW K T ∧ SS S T → GW K (m_turnToWind_lp K S r j T n).2 ∧ SS S (m_turnToWind_lp K S r j T n).2
  | 0, j, T, n, _, h => h
  | r + 1, j, T, n, hj, h => by
    have hz := h.2.z (K 13)
    have he := LSt.el h.1.1.l13 (show j < sZ T (K 13) by omega)
    have g1 := g_mimic h.1.1 h.1.2.1 h.1.2.2 h.1.1.k4.1 h.1.1.k4.2 he.1 he.2
    have g2 := g_drawIn g1.1.1 g1.1.2.1 g1.1.2.2 g1.1.1.k4.1 g1.1.1.k4.2 (m_windBearing K S)
    have g3 := g_drawIn g2.1.1 g2.1.2.1 g2.1.2.2 (g2.2.inL (g1.2.inL he.1)) (g2.2.inK (g1.2.inK he.2)) (m_windBearing K S)
    have h2 := SS.tr h.2 (SS.tr g1.2 g2.2)
    simp only [m_turnToWind_lp]
    repeat' split
    all_goals first | exact g_turnToWind_lp hW r (j + 1) _ _ (by omega) ⟨g3.1, SS.tr h2 g3.2⟩ | exact g_turnToWind_lp hW r (j + 1) _ _ (by omega) ⟨g2.1, h2⟩
theorem g_turnToWind {K : Nat → Nat} {S : PS} (hW : WS K S) (hA : AW S) (hM : WM S) : GW K (m_turnToWind K S).2 ∧ SS S (m_turnToWind K S).2 := g_turnToWind_lp hW _ _ _ _ (by omega) ⟨⟨hW, hA, hM⟩, SS.rf⟩
