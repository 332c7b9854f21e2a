/-! what a writing method leaves as it was: SS (addresses, kinds, references that stay, lists, lengths), GW (the world's three invariants) -/
def SS (S T : PS) : Prop := sL T = sL S ∧ sK T = sK S ∧ sR T = sR S ∧ sE T = sE S ∧ sZ T = sZ S ∧ sN T = sN S ∧ sO T = sO S
theorem SS.rf {S : PS} : SS S S := ⟨rfl, rfl, rfl, rfl, rfl, rfl, rfl⟩
theorem SS.tr {S T U : PS} (h : SS S T) (h2 : SS T U) : SS S U := by
  obtain ⟨a1, a2, a3, a4, a5, a6, a7⟩ := h
  obtain ⟨b1, b2, b3, b4, b5, b6, b7⟩ := h2
  exact ⟨b1.trans a1, b2.trans a2, b3.trans a3, b4.trans a4, b5.trans a5, b6.trans a6, b7.trans a7⟩
theorem SS.inL {S T : PS} (h : SS S T) {a : Nat} (ha : a ∈ sL S) : a ∈ sL T := by rw [h.1]; exact ha
theorem SS.inK {S T : PS} (h : SS S T) {a k : Nat} (ha : sK S a = k) : sK T a = k := by rw [h.2.1]; exact ha
theorem SS.kk {S T : PS} (h : SS S T) {a k : Nat} : InK T a k ↔ InK S a k := by unfold InK; rw [h.1, h.2.1]
theorem SS.z {S T : PS} (h : SS S T) (a : Nat) : sZ T a = sZ S a := by rw [h.2.2.2.2.1]
theorem SS.elem {S T : PS} (h : SS S T) (a j : Nat) : el T a j = el S a j := by unfold el; rw [h.2.2.2.1, h.2.2.2.2.2.2]
theorem WS.ss {K : Nat → Nat} {S T : PS} (h : WS K S) (hs : SS S T) : WS K T := by
  obtain ⟨a, b, c, d, e, f, g, i, j, k⟩ := T
  obtain ⟨h1, h2, h3, h4, h5, h6, h7⟩ := hs
  simp only [sL, sK, sR, sE, sZ, sN, sO] at h1 h2 h3 h4 h5 h6 h7
  subst h1 h2 h3 h4 h5 h6 h7
  exact h
def GW (K : Nat → Nat) (S : PS) : Prop := WS K S ∧ AW S ∧ WM S
theorem g_settle {K : Nat → Nat} {S : PS} (hW : WS K S) (hA : AW S) (hM : WM S) {a : Nat} (haL : a ∈ sL S) (haK : sK S a = 0) (t : Int32) : GW K (m_settle K S a t) ∧ SS S (m_settle K S a t) := ⟨⟨hW, hA, hM⟩, SS.rf⟩
theorem g_mimic {K : Nat → Nat} {S : PS} (hW : WS K S) (hA : AW S) (hM : WM S) {a : Nat} (haL : a ∈ sL S) (haK : sK S a = 0) {b : Nat} (hbL : b ∈ sL S) (hbK : sK S b = 0) : GW K (m_mimic K S a b) ∧ SS S (m_mimic K S a b) := by
  refine ⟨⟨hW, ?_, ?_⟩, SS.rf⟩
  · intro c hc
    have hb := hA b ⟨hbL, hbK⟩
    have hc2 := hA c hc
    by_cases e : c = a
    · subst e
      simpa [m_mimic, up2, sI, sR, sM, sL, sK, sE, sZ, sN, sA, sO] using hb
    · simpa [m_mimic, up2, e, sI, sR, sM, sL, sK, sE, sZ, sN, sA, sO] using hc2
  · refine ⟨fun c hc q hq => ?_, fun c hc q hq => hM.2 c hc q ?_⟩
    · by_cases e : c = a
      · subst e
        refine hM.1 b ⟨hbL, hbK⟩ q ?_
        simpa [m_mimic, up2, sI, sR, sM, sL, sK, sE, sZ, sN, sA, sO] using hq
      · refine hM.1 c hc q ?_
        simpa [m_mimic, up2, e, sI, sR, sM, sL, sK, sE, sZ, sN, sA, sO] using hq
    · simpa [m_mimic, up2, sI, sR, sM, sL, sK, sE, sZ, sN, sA, sO] using hq
theorem g_hangOn {K : Nat → Nat} {S : PS} (hW : WS K S) (hA : AW S) (hM : WM S) {a : Nat} (haL : a ∈ sL S) (haK : sK S a = 2) {b : Nat} (hbL : b ∈ sL S) (hbK : sK S b = 0) : GW K (m_hangOn K S a b) ∧ SS S (m_hangOn K S a b) := by
  refine ⟨⟨hW, hA, ?_⟩, SS.rf⟩
  refine ⟨fun c hc q hq => ?_, fun c hc q hq => ?_⟩
  · by_cases e : c = b
    · subst e
      have hq2 : a = q := by simpa [m_hangOn, up2, sI, sR, sM, sL, sK, sE, sZ, sN, sA, sO] using hq
      rw [← hq2]; exact ⟨haL, haK⟩
    · exact hM.1 c hc q (by simpa [m_hangOn, up2, e, sI, sR, sM, sL, sK, sE, sZ, sN, sA, sO] using hq)
  · by_cases e : c = a
    · subst e
      have hq2 : b = q := by simpa [m_hangOn, up2, sI, sR, sM, sL, sK, sE, sZ, sN, sA, sO] using hq
      rw [← hq2]; exact ⟨hbL, hbK⟩
    · exact hM.2 c hc q (by simpa [m_hangOn, up2, e, sI, sR, sM, sL, sK, sE, sZ, sN, sA, sO] using hq)
theorem g_lieOn {K : Nat → Nat} {S : PS} (hW : WS K S) (hA : AW S) (hM : WM S) {a : Nat} (haL : a ∈ sL S) (haK : sK S a = 2) (x : Int32) : GW K (m_lieOn K S a x) ∧ SS S (m_lieOn K S a x) := by
  refine ⟨⟨hW, hA, ?_⟩, SS.rf⟩
  refine ⟨fun c hc q hq => hM.1 c hc q (by simpa [m_lieOn, up2, sI, sR, sM, sL, sK, sE, sZ, sN, sA, sO] using hq), fun c hc q hq => ?_⟩
  by_cases e : c = a
  · subst e
    simp [m_lieOn, up2, sI, sR, sM, sL, sK, sE, sZ, sN, sA, sO] at hq
  · exact hM.2 c hc q (by simpa [m_lieOn, up2, e, sI, sR, sM, sL, sK, sE, sZ, sN, sA, sO] using hq)
theorem g_build {K : Nat → Nat} {S : PS} (hW : WS K S) (hA : AW S) (hM : WM S) (x h : Int32) : GW K (m_build K S x h) ∧ SS S (m_build K S x h) := by
  unfold m_build
  repeat' split
  all_goals exact ⟨⟨hW, hA, hM⟩, SS.rf⟩
theorem faceN_le {K : Nat → Nat} {S : PS} {a : Nat} {b : Int32} (h : sI S 6 a ≤ 20) : ∀ (r j : Nat), j + r = 21 → j ≤ 20 → m_faceN K S a b r j ≤ 20
  | 0, j, hj, hl => by omega
  | r + 1, j, hj, hl => by
    simp only [m_faceN]
    repeat' split
    · exact hl
    · exact hl
    · rename_i h1 h2
      have h3 : j < 20 := by
        rcases Nat.lt_or_ge j 20 with q | q
        · exact q
        · exact absurd (cap_end h q (by omega)) h1
      exact faceN_le h r (j + 1) (by omega) (by omega)
theorem g_face {K : Nat → Nat} {S : PS} (hW : WS K S) (hA : AW S) (hM : WM S) {a : Nat} (haL : a ∈ sL S) (haK : sK S a = 0) (b : Int32) : GW K (m_face K S a b) ∧ SS S (m_face K S a b) := by
  refine ⟨⟨hW, ?_, hM⟩, SS.rf⟩
  intro c hc
  by_cases e : c = a
  · subst e
    have h6 := (hA c ⟨haL, haK⟩).2.2
    have hN : m_faceN K S c b 21 0 ≤ 20 := faceN_le h6 21 0 (by omega) (by omega)
    have e9 : sI (m_face K S c b) 9 c = nI (m_faceN K S c b 21 0) := by simp [m_face, up2, sI, sR, sM, sL, sK, sE, sZ, sN, sA, sO]
    have e6 : sI (m_face K S c b) 6 c = sI S 6 c := by simp [m_face, up2, sI, sR, sM, sL, sK, sE, sZ, sN, sA, sO]
    rw [e9, e6]
    exact ⟨nI_pos (by omega), nI_le hN (by decide), h6⟩
  · simpa [m_face, up2, e, sI, sR, sM, sL, sK, sE, sZ, sN, sA, sO] using hA c hc
