/-! the order in which cranes are taken down -/
theorem or4_acc : ∀ d0 d1 d2 d3 p0 p1 p2 p3 : Bool, ob p3 3 (ob p2 2 (ob p1 1 (ob p0 0 (or4 d0 d1 d2 d3)))) = or4 (d0 || p0) (d1 || p1) (d2 || p2) (d3 || p3) := by decide +kernel
theorem or4_and : ∀ c0 c1 c2 c3 b0 b1 b2 b3 : Bool, (or4 c0 c1 c2 c3 &&& or4 b0 b1 b2 b3 = 0) ↔ ((c0 && b0) || (c1 && b1) || (c2 && b2) || (c3 && b3)) = false := by decide +kernel
theorem or4_rm : ∀ b0 b1 b2 b3 : Bool, (b0 = true → or4 b0 b1 b2 b3 - (1 <<< ((nI 0) &&& 31)) = or4 false b1 b2 b3) ∧ (b1 = true → or4 b0 b1 b2 b3 - (1 <<< ((nI 1) &&& 31)) = or4 b0 false b2 b3) ∧ (b2 = true → or4 b0 b1 b2 b3 - (1 <<< ((nI 2) &&& 31)) = or4 b0 b1 false b3) ∧ (b3 = true → or4 b0 b1 b2 b3 - (1 <<< ((nI 3) &&& 31)) = or4 b0 b1 b2 false) := by decide +kernel
def ms (b : Nat → Bool) : Int32 := or4 (b 0) (b 1) (b 2) (b 3)
def rmv (b : Nat → Bool) (k : Nat) : Nat → Bool := fun i => if i = k then false else b i
theorem ms_bit (b : Nat → Bool) {i : Nat} (hi : i < 4) : ((ms b >>> ((nI i) &&& 31)) &&& 1) = if b i then 1 else 0 := by
  have h := or4_bit (b 0) (b 1) (b 2) (b 3)
  have : i = 0 ∨ i = 1 ∨ i = 2 ∨ i = 3 := by omega
  rcases this with rfl | rfl | rfl | rfl
  · exact h.1
  · exact h.2.1
  · exact h.2.2.1
  · exact h.2.2.2
theorem ms_rm (b : Nat → Bool) {k : Nat} (hk : k < 4) (h : b k = true) : ms b - (1 <<< ((nI k) &&& 31)) = ms (rmv b k) := by
  have h4 := or4_rm (b 0) (b 1) (b 2) (b 3)
  have : k = 0 ∨ k = 1 ∨ k = 2 ∨ k = 3 := by omega
  rcases this with rfl | rfl | rfl | rfl
  · exact h4.1 h
  · exact h4.2.1 h
  · exact h4.2.2.1 h
  · exact h4.2.2.2 h
theorem ms_and (c b : Nat → Bool) {k : Nat} (hk : k < 4) (hc : c k = true) (hb : b k = true) : ¬ (ms c &&& ms b = 0) := by
  intro h
  have h2 := (or4_and (c 0) (c 1) (c 2) (c 3) (b 0) (b 1) (b 2) (b 3)).mp h
  simp only [Bool.or_eq_false_iff] at h2
  have : k = 0 ∨ k = 1 ∨ k = 2 ∨ k = 3 := by omega
  rcases this with rfl | rfl | rfl | rfl
  · have := h2.1.1.1; rw [hc, hb] at this; cases this
  · have := h2.1.1.2; rw [hc, hb] at this; cases this
  · have := h2.1.2; rw [hc, hb] at this; cases this
  · have := h2.2; rw [hc, hb] at this; cases this
def pkl (tk : Nat → Int32) (b : Nat → Bool) : Nat → Nat → Option Nat
  | 0, _ => none
  | r + 1, j => if b j = true ∧ ¬ (tk j &&& ms b = 0) then some j else pkl tk b r (j + 1)
def tdl (tk : Nat → Int32) : Nat → (Nat → Bool) → List Nat
  | 0, _ => []
  | r + 1, b => match pkl tk b 4 0 with
    | none => []
    | some k => k :: tdl tk r (rmv b k)
def ofo : Option Nat → Int32
  | none => -1
  | some k => nI k
theorem pkl_some {tk : Nat → Int32} {b : Nat → Bool} {k : Nat} : ∀ (r j : Nat), pkl tk b r j = some k → j ≤ k ∧ k < j + r ∧ b k = true ∧ ¬ (tk k &&& ms b = 0)
  | 0, j, h => by cases h
  | r + 1, j, h => by
    simp only [pkl] at h
    split at h
    · rename_i c
      cases h
      exact ⟨Nat.le_refl _, by omega, c.1, c.2⟩
    · obtain ⟨h1, h2, h3⟩ := pkl_some r (j + 1) h
      exact ⟨by omega, by omega, h3⟩
theorem pkl_none {tk : Nat → Int32} {b : Nat → Bool} : ∀ (r j : Nat), pkl tk b r j = none → ∀ i, j ≤ i → i < j + r → ¬ (b i = true ∧ ¬ (tk i &&& ms b = 0))
  | 0, j, _, i, h1, h2 => by omega
  | r + 1, j, h, i, h1, h2 => by
    simp only [pkl] at h
    split at h
    · cases h
    · rename_i c
      by_cases e : i = j
      · rw [e]; exact c
      · exact pkl_none r (j + 1) h i (by omega) (by omega)
theorem nxt_lp {K : Nat → Nat} {T : PS} {tk : Nat → Int32} {b : Nat → Bool} (h : ∀ j, j < 4 → b j = true → sA T (K 9) j = tk j) : ∀ (r j : Nat), j + r ≤ 4 → m_nextToGo_lp K T (ms b) r j = ofo (pkl tk b r j)
  | 0, j, _ => rfl
  | r + 1, j, hj => by
    have ih := nxt_lp h r (j + 1) (by omega)
    simp only [m_nextToGo_lp, pkl]
    rw [ms_bit b (show j < 4 by omega), nI_clamp (show j < 2 ^ 31 by omega)]
    by_cases c : b j = true
    · rw [if_pos (show (if b j = true then (1 : Int32) else 0) = 1 by rw [if_pos c]), h j (by omega) c]
      by_cases c2 : tk j &&& ms b = 0
      · rw [if_pos c2, if_neg (fun q => q.2 c2), ih]
      · rw [if_neg c2, if_pos ⟨c, c2⟩]; rfl
    · rw [if_neg (show ¬ (if b j = true then (1 : Int32) else 0) = 1 by rw [if_neg c]; decide), if_neg (fun q => c q.1), ih]
theorem nxt_at {K : Nat → Nat} {T : PS} {tk : Nat → Int32} {b : Nat → Bool} (h : ∀ j, j < 4 → b j = true → sA T (K 9) j = tk j) : m_nextToGo K T (ms b) = ofo (pkl tk b 4 0) := nxt_lp h 4 0 (by decide)
theorem rmv_le {b : Nat → Bool} {k i : Nat} (h : rmv b k i = true) : b i = true ∧ i ≠ k := by
  unfold rmv at h
  split at h
  · cases h
  · rename_i c; exact ⟨h, c⟩
theorem lq_at {K : Nat → Nat} {S : PS} (hk : KD K) {tk : Nat → Int32} : ∀ (r j : Nat) (T : PS) (b : Nat → Bool), j + r = 4 → (∀ i, i < 4 → b i = true → sA T (K 9) i = tk i) →
    (m_takeDown_lq K S r j T (ms b) (ofo (pkl tk b 4 0))).1 = nI (j + (tdl tk r b).length) ∧ (∀ i, i < j → sA (m_takeDown_lq K S r j T (ms b) (ofo (pkl tk b 4 0))).2 (K 10) i = sA T (K 10) i) ∧ ∀ i, i < (tdl tk r b).length → sA (m_takeDown_lq K S r j T (ms b) (ofo (pkl tk b 4 0))).2 (K 10) (j + i) = nI ((tdl tk r b).getD i 0)
  | 0, j, T, b, _, _ => by
    simp only [m_takeDown_lq, tdl, List.length_nil, Nat.add_zero]
    split
    · exact ⟨rfl, fun _ _ => rfl, fun i h => absurd h (Nat.not_lt_zero _)⟩
    · exact ⟨rfl, fun _ _ => rfl, fun i h => absurd h (Nat.not_lt_zero _)⟩
  | r + 1, j, T, b, hj, hb => by
    simp only [m_takeDown_lq, tdl]
    cases hp : pkl tk b 4 0 with
    | none =>
      simp [ofo]
    | some k =>
      obtain ⟨-, p2, p3, p4⟩ := pkl_some 4 0 hp
      have hk4 : k < 4 := by omega
      have hne : ¬ (ofo (some k) = -1) := by
        show ¬ nI k = -1
        have : k = 0 ∨ k = 1 ∨ k = 2 ∨ k = 3 := by omega
        rcases this with rfl | rfl | rfl | rfl <;> decide
      rw [if_neg hne]
      show _ ∧ _ ∧ _
      rw [show ms b - (1 <<< ((ofo (some k)) &&& 31)) = ms (rmv b k) from ms_rm b hk4 p3]
      have hb2 : ∀ i, i < 4 → rmv b k i = true → sA (uA T (K 10) (upd (sA T (K 10)) (nI j).toNatClampNeg (ofo (some k)))) (K 9) i = tk i := fun i h1 h2 => by
        show va_up (sA T) (K 10) _ (K 9) i = tk i
        rw [va_up_ne _ _ hk.2.2.2]
        exact hb i h1 (rmv_le h2).1
      rw [nxt_at hb2]
      obtain ⟨q1, q2, q3⟩ := lq_at (S := S) hk r (j + 1) (uA T (K 10) (upd (sA T (K 10)) (nI j).toNatClampNeg (ofo (some k)))) (rmv b k) (by omega) hb2
      rw [nI_clamp (show j < 2 ^ 31 by omega)] at q1 q2 q3 ⊢
      have hu : ∀ i, sA (uA T (K 10) (upd (sA T (K 10)) j (ofo (some k)))) (K 10) i = if i = j then nI k else sA T (K 10) i := fun i => by
        show va_up (sA T) (K 10) _ (K 10) i = _
        rw [va_up_self]
        rfl
      refine ⟨?_, fun i hi => ?_, fun i hi => ?_⟩
      · rw [q1, List.length_cons, show j + 1 + (tdl tk r (rmv b k)).length = j + ((tdl tk r (rmv b k)).length + 1) by omega]
      · rw [q2 i (by omega), hu, if_neg (by omega)]
      · cases i with
        | zero =>
          have q := q2 j (by omega)
          rw [hu, if_pos rfl] at q
          exact q
        | succ i =>
          rw [show j + (i + 1) = j + 1 + i by omega, q3 i (by simpa using hi)]
          rfl
theorem tdl_mem {tk : Nat → Int32} {k : Nat} : ∀ (r : Nat) (b : Nat → Bool), k ∈ tdl tk r b → k < 4 ∧ b k = true
  | 0, b, h => by cases h
  | r + 1, b, h => by
    simp only [tdl] at h
    cases hp : pkl tk b 4 0 with
    | none => rw [hp] at h; cases h
    | some q =>
      rw [hp] at h
      obtain ⟨-, p2, p3, -⟩ := pkl_some 4 0 hp
      rcases List.mem_cons.mp h with rfl | h
      · exact ⟨by omega, p3⟩
      · obtain ⟨h1, h2⟩ := tdl_mem r _ h
        exact ⟨h1, (rmv_le h2).1⟩
theorem tdl_nodup {tk : Nat → Int32} : ∀ (r : Nat) (b : Nat → Bool), (tdl tk r b).Nodup
  | 0, b => List.nodup_nil
  | r + 1, b => by
    simp only [tdl]
    cases hp : pkl tk b 4 0 with
    | none => exact List.nodup_nil
    | some q => exact List.nodup_cons.mpr ⟨fun h => (rmv_le (tdl_mem r _ h).2).2 rfl, tdl_nodup r _⟩
theorem cn_rmv (b : Nat → Bool) {k : Nat} (hk : k < 4) (h : b k = true) : cn (rmv b k) 4 + 1 = cn b 4 := by
  have : k = 0 ∨ k = 1 ∨ k = 2 ∨ k = 3 := by omega
  rcases this with rfl | rfl | rfl | rfl <;> simp [cn, rmv, h] <;> omega
theorem tdl_len {tk : Nat → Int32} : ∀ (r : Nat) (b : Nat → Bool), (tdl tk r b).length ≤ cn b 4
  | 0, b => Nat.zero_le _
  | r + 1, b => by
    simp only [tdl]
    cases hp : pkl tk b 4 0 with
    | none => exact Nat.zero_le _
    | some q =>
      obtain ⟨-, p2, p3, -⟩ := pkl_some 4 0 hp
      have h1 := tdl_len (tk := tk) r (rmv b q)
      have h2 := cn_rmv b (show q < 4 by omega) p3
      show (tdl tk r (rmv b q)).length + 1 ≤ _
      omega
theorem tdl_all {tk : Nat → Int32} {k : Nat} (hk : k < 4) (ho : ∀ b : Nat → Bool, b k = true → ¬ (tk k &&& ms b = 0)) : ∀ (r : Nat) (b : Nat → Bool), cn b 4 ≤ r → b k = true → k ∈ tdl tk r b
  | 0, b, hr, h => by
    have := cn_rmv b hk h
    omega
  | r + 1, b, hr, h => by
    simp only [tdl]
    cases hp : pkl tk b 4 0 with
    | none => exact absurd ⟨h, ho b h⟩ (pkl_none 4 0 hp k (Nat.zero_le _) (by omega))
    | some q =>
      obtain ⟨-, p2, p3, -⟩ := pkl_some 4 0 hp
      by_cases e : k = q
      · rw [e]; exact List.mem_cons_self
      · have h2 := cn_rmv b (show q < 4 by omega) p3
        exact List.mem_cons_of_mem _ (tdl_all hk ho r (rmv b q) (by omega) (by unfold rmv; rw [if_neg e]; exact h))
def stn (n : Nat) : Nat → Bool := fun i => decide (i < n)
theorem ms_stn {n : Nat} (h : n ≤ 4) : (1 <<< ((nI n) &&& 31)) - 1 = ms (stn n) := by
  have : n = 0 ∨ n = 1 ∨ n = 2 ∨ n = 3 ∨ n = 4 := by omega
  rcases this with rfl | rfl | rfl | rfl | rfl <;> decide
theorem cn_stn {n : Nat} (h : n ≤ 4) : cn (stn n) 4 = n := by
  have : n = 0 ∨ n = 1 ∨ n = 2 ∨ n = 3 ∨ n = 4 := by omega
  rcases this with rfl | rfl | rfl | rfl | rfl <;> decide
/-- who can take down whom; the order -/
def tkf (K : Nat → Nat) (S : PS) : Nat → Int32 := fun i => if i < sZ S (K 13) then m_takersOf K S (el S (K 13) i) else 0
def ord (K : Nat → Nat) (S : PS) : List Nat := tdl (tkf K S) 4 (stn (sZ S (K 13)))
theorem s_tkf {K : Nat → Nat} {S T : PS} (hW : WS K S) (ht : TO K S) (h : AG K S T) : tkf K T = tkf K S := by
  funext i
  unfold tkf
  rw [h.z, h.el]
  by_cases c : i < sZ S (K 13)
  · rw [if_pos c, if_pos c, s_takers hW ht h (ht i c)]
  · rw [if_neg c, if_neg c]
theorem s_ord {K : Nat → Nat} {S T : PS} (hW : WS K S) (ht : TO K S) (h : AG K S T) : ord K T = ord K S := by
  unfold ord
  rw [s_tkf hW ht h, h.z]
theorem td_lp {K : Nat → Nat} {S : PS} (hk : KD K) (hW : WS K S) (ht : TO K S) : ∀ (r j : Nat) (T : PS), j + r = sZ S (K 13) → AG K S T → (∀ i, i < j → sA T (K 9) i = tkf K S i) →
    (m_takeDown_lp K S r j T).1 = nI (ord K S).length ∧ ∀ i, i < (ord K S).length → sA (m_takeDown_lp K S r j T).2 (K 10) i = nI ((ord K S).getD i 0)
  | 0, j, T, hj, h, hr => by
    have hn := hW.l13.2.1
    simp only [m_takeDown_lp]
    have hb : ∀ i, i < 4 → stn (sZ S (K 13)) i = true → sA T (K 9) i = tkf K S i := fun i _ h2 => hr i (by have : i < sZ S (K 13) := of_decide_eq_true h2; omega)
    rw [ms_stn hn, nxt_at hb]
    obtain ⟨q1, -, q3⟩ := lq_at (K := K) (S := S) hk (tk := tkf K S) 4 0 T (stn (sZ S (K 13))) rfl hb
    refine ⟨q1.trans (by rw [Nat.zero_add]; rfl), fun i hi => ?_⟩
    have := q3 i hi
    rw [Nat.zero_add] at this
    exact this
  | r + 1, j, T, hj, h, hr => by
    have hn := hW.l13.2.1
    simp only [m_takeDown_lp]
    refine td_lp hk hW ht r (j + 1) _ (by omega) ⟨h.1, h.2.1, h.2.2.1, (va_up_ne _ _ hk.1.2.2.1).trans h.2.2.2⟩ (fun i hi => ?_)
    show va_up (sA T) (K 9) _ (K 9) i = _
    rw [va_up_self, nI_clamp (show j < 2 ^ 31 by omega)]
    unfold upd
    by_cases e : i = j
    · rw [if_pos e, e]
      unfold tkf
      rw [if_pos (by omega), h.el, s_takers hW ht h (ht j (by omega))]
    · rw [if_neg e]
      exact hr i (by omega)
theorem td_at {K : Nat → Nat} {S : PS} (hk : KD K) (hW : WS K S) (ht : TO K S) : (m_takeDown K S).1 = nI (ord K S).length ∧ ∀ i, i < (ord K S).length → sA (m_takeDown K S).2 (K 10) i = nI ((ord K S).getD i 0) :=
  td_lp hk hW ht _ 0 S (by omega) AG.rf (fun i hi => by omega)
theorem ord_len {K : Nat → Nat} {S : PS} (hW : WS K S) : (ord K S).length ≤ sZ S (K 13) := by
  have := tdl_len (tk := tkf K S) 4 (stn (sZ S (K 13)))
  rw [cn_stn hW.l13.2.1] at this
  exact this
theorem ord_mem {K : Nat → Nat} {S : PS} {k : Nat} (h : k ∈ ord K S) : k < sZ S (K 13) := of_decide_eq_true (tdl_mem 4 _ h).2
theorem order_at {K : Nat → Nat} {S : PS} (hk : KD K) (hG : GW K S) (ht : TO K S) {i : Nat} (hi : i < 2 ^ 31) : (m_order K S (nI i)).1 = if i < (ord K S).length then nI ((ord K S).getD i 0) else -1 := by
  have hn := hG.1.l13.2.1
  obtain ⟨t1, t2⟩ := td_at hk hG.1 ht
  have hl := ord_len hG.1
  have n10 : sN (m_takeDown K S).2 (K 10) = 4 := (g_takeDown hG.1 hG.2.1 hG.2.2).1.1.n10
  unfold m_order
  rw [t1]
  by_cases c : i < (ord K S).length
  · rw [if_pos c, if_neg (nI_ge c (by omega))]
    · show m_leaverAt K (m_takeDown K S).2 (nI i) = _
      unfold m_leaverAt
      rw [if_neg (nI_pos hi), n10, if_neg (nI_ge (by omega) (by decide)), nI_clamp hi]
      exact t2 i c
  · rw [if_neg c, if_pos (nI_le (by omega) hi)]
/-- a crane that takes itself down goes -/
theorem takers_lp {K : Nat → Nat} {S : PS} {a : Nat} : ∀ (r j : Nat) (n : Int32), ∃ p : Nat → Bool, m_takersOf_lp K S a r j n = orlp p r j n
  | 0, j, n => ⟨fun _ => false, rfl⟩
  | r + 1, j, n => by
    refine ⟨fun i => !(decide (el S (K 13) i = a)) && (!(decide (sI S 5 (el S (K 13) i) < sI S 5 a)) && !(decide (m_canLift K S (el S (K 13) i) (sI S 2 a) (m_weight K S a) = 0))), ?_⟩
    have main : ∀ (r j : Nat) (n : Int32), m_takersOf_lp K S a r j n = orlp (fun i => !(decide (el S (K 13) i = a)) && (!(decide (sI S 5 (el S (K 13) i) < sI S 5 a)) && !(decide (m_canLift K S (el S (K 13) i) (sI S 2 a) (m_weight K S a) = 0)))) r j n := by
      intro r
      induction r with
      | zero => intro j n; rfl
      | succ r ih =>
        intro j n
        simp only [m_takersOf_lp, orlp]
        by_cases c1 : el S (K 13) j = a
        · rw [if_pos c1, ih]; simp [ob, c1]
        · rw [if_neg c1]
          by_cases c2 : sI S 5 (el S (K 13) j) < sI S 5 a
          · rw [if_pos c2, ih]; simp [ob, c2]
          · rw [if_neg c2]
            by_cases c3 : m_canLift K S (el S (K 13) j) (sI S 2 a) (m_weight K S a) = 0
            · rw [if_pos c3, ih]; simp [ob, c3]
            · rw [if_neg c3, ih]; simp [ob, c1, c2, c3]
    exact main (r + 1) j n
theorem takers_own {K : Nat → Nat} {S : PS} {a k : Nat} (hn : sZ S (K 13) ≤ 4) (hk : k < 4) (hm : ¬ 8 < sI S 5 a) (hnum : sI S 1 a = nI k) (b : Nat → Bool) (hb : b k = true) : ¬ (m_takersOf K S a &&& ms b = 0) := by
  unfold m_takersOf
  rw [if_neg hm, hnum]
  obtain ⟨p, hp⟩ := takers_lp (K := K) (S := S) (a := a) (sZ S (K 13)) 0 (1 <<< ((nI k) &&& 31))
  rw [hp]
  have e : ∃ c : Nat → Bool, c k = true ∧ orlp p (sZ S (K 13)) 0 (1 <<< ((nI k) &&& 31)) = ms c := by
    have e1 : (1 <<< ((nI k) &&& 31) : Int32) = or4 (decide (k = 0)) (decide (k = 1)) (decide (k = 2)) (decide (k = 3)) := by
      have : k = 0 ∨ k = 1 ∨ k = 2 ∨ k = 3 := by omega
      rcases this with rfl | rfl | rfl | rfl <;> decide
    have e2 : ∀ x, orlp p (sZ S (K 13)) 0 x = ob (decide (3 < sZ S (K 13)) && p 3) 3 (ob (decide (2 < sZ S (K 13)) && p 2) 2 (ob (decide (1 < sZ S (K 13)) && p 1) 1 (ob (decide (0 < sZ S (K 13)) && p 0) 0 x))) := by
      intro x
      have : sZ S (K 13) = 0 ∨ sZ S (K 13) = 1 ∨ sZ S (K 13) = 2 ∨ sZ S (K 13) = 3 ∨ sZ S (K 13) = 4 := by omega
      rcases this with e | e | e | e | e <;> rw [e] <;> simp [orlp, ob]
    rw [e2, e1, or4_acc]
    refine ⟨fun i => if i = 0 then (decide (k = 0) || (decide (0 < sZ S (K 13)) && p 0)) else if i = 1 then (decide (k = 1) || (decide (1 < sZ S (K 13)) && p 1)) else if i = 2 then (decide (k = 2) || (decide (2 < sZ S (K 13)) && p 2)) else (decide (k = 3) || (decide (3 < sZ S (K 13)) && p 3)), ?_, rfl⟩
    have : k = 0 ∨ k = 1 ∨ k = 2 ∨ k = 3 := by omega
    rcases this with rfl | rfl | rfl | rfl <;> simp
  obtain ⟨c, hc, e⟩ := e
  rw [e]
  exact ms_and c b hk hc hb
