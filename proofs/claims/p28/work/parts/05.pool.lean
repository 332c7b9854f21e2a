/-! the pool: what the objects of a run hold, by address: L the addresses, K their kinds (0 Crane, 1 Ground, 2 Load, 3 Plans, 4 Report, 5 Site, 6 Zone, 7 Slewyard, 8 ArrayList, 9 int array, 10 array of references), I whole-number fields by number of the field, R references that stay, M those that change (what hangs, who carries), E a list's array, Z a list's size, N arrays' lengths, A rows of ints, O rows of references -/
abbrev PS : Type := List Nat × (Nat → Nat) × (Nat → Nat → Int32) × (Nat → Nat → Option Nat) × (Nat → Nat → Option Nat) × (Nat → Option Nat) × (Nat → Nat) × (Nat → Nat) × (Nat → Nat → Int32) × (Nat → Nat → Option Nat)
abbrev sL (S : PS) : List Nat := S.1
abbrev sK (S : PS) : Nat → Nat := S.2.1
abbrev sI (S : PS) : Nat → Nat → Int32 := S.2.2.1
abbrev sR (S : PS) : Nat → Nat → Option Nat := S.2.2.2.1
abbrev sM (S : PS) : Nat → Nat → Option Nat := S.2.2.2.2.1
abbrev sE (S : PS) : Nat → Option Nat := S.2.2.2.2.2.1
abbrev sZ (S : PS) : Nat → Nat := S.2.2.2.2.2.2.1
abbrev sN (S : PS) : Nat → Nat := S.2.2.2.2.2.2.2.1
abbrev sA (S : PS) : Nat → Nat → Int32 := S.2.2.2.2.2.2.2.2.1
abbrev sO (S : PS) : Nat → Nat → Option Nat := S.2.2.2.2.2.2.2.2.2
def up2 {α : Type} (g : Nat → Nat → α) (f a : Nat) (v : α) : Nat → Nat → α := fun k b => if k = f then (if b = a then v else g k b) else g k b
abbrev uI (S : PS) (f a : Nat) (v : Int32) : PS := (sL S, sK S, up2 (sI S) f a v, sR S, sM S, sE S, sZ S, sN S, sA S, sO S)
abbrev uR (S : PS) (f a : Nat) (v : Option Nat) : PS := (sL S, sK S, sI S, up2 (sR S) f a v, sM S, sE S, sZ S, sN S, sA S, sO S)
abbrev uM (S : PS) (f a : Nat) (v : Option Nat) : PS := (sL S, sK S, sI S, sR S, up2 (sM S) f a v, sE S, sZ S, sN S, sA S, sO S)
abbrev uE (S : PS) (a : Nat) (v : Option Nat) : PS := (sL S, sK S, sI S, sR S, sM S, va_up (sE S) a v, sZ S, sN S, sA S, sO S)
abbrev uZ (S : PS) (a : Nat) (v : Nat) : PS := (sL S, sK S, sI S, sR S, sM S, sE S, va_up (sZ S) a v, sN S, sA S, sO S)
abbrev uA (S : PS) (a : Nat) (v : Nat → Int32) : PS := (sL S, sK S, sI S, sR S, sM S, sE S, sZ S, sN S, va_up (sA S) a v, sO S)
abbrev uO (S : PS) (a : Nat) (v : Nat → Option Nat) : PS := (sL S, sK S, sI S, sR S, sM S, sE S, sZ S, sN S, sA S, va_up (sO S) a v)
/-- a new object of kind k -/
abbrev nw (S : PS) (a k : Nat) : PS := (sL S ++ [a], va_up (sK S) a k, fun f => va_up (sI S f) a 0, fun f => va_up (sR S f) a none, fun f => va_up (sM S f) a none, va_up (sE S) a none, va_up (sZ S) a 0, sN S, sA S, sO S)
/-- a new int array of n places -/
abbrev nwA (S : PS) (a n : Nat) (r : Nat → Int32) : PS := (sL S ++ [a], va_up (sK S) a 9, sI S, sR S, sM S, sE S, sZ S, va_up (sN S) a n, va_up (sA S) a r, sO S)
/-- a new array of references of n places -/
abbrev nwO (S : PS) (a n : Nat) (r : Nat → Option Nat) : PS := (sL S ++ [a], va_up (sK S) a 10, sI S, sR S, sM S, sE S, sZ S, va_up (sN S) a n, sA S, va_up (sO S) a r)
theorem up2_s {α : Type} (g : Nat → Nat → α) (f a : Nat) (v : α) : up2 g f a v f a = v := by simp [up2]
theorem up2_f {α : Type} (g : Nat → Nat → α) {f f' : Nat} (a b : Nat) (v : α) (h : f' ≠ f) : up2 g f a v f' b = g f' b := by simp [up2, h]
theorem up2_a {α : Type} (g : Nat → Nat → α) (f f' : Nat) {a b : Nat} (v : α) (h : b ≠ a) : up2 g f a v f' b = g f' b := by simp [up2, h]
/-- what outlives a run's calls: the classes' numbers, the addresses ahead of which all is older, the static arrays -/
abbrev EV : Type := va_G × ClassId × ClassId × Nat × Nat × Nat × Nat × Nat
def pF (E : EV) (S : PS) (a : Nat) : va_E := if sK S a = 0 then .inr (1, [va_rf (sR S 0 a), .int (sI S 1 a), .int (sI S 2 a), .int (sI S 3 a), .int (sI S 4 a), .int (sI S 5 a), .int (sI S 6 a), .int (sI S 7 a), .int (sI S 8 a), .int (sI S 9 a), .int (sI S 10 a), .int (sI S 11 a), .int (sI S 12 a), .int (sI S 13 a), va_rf (sM S 14 a), .int (sI S 15 a)]) else if sK S a = 1 then .inr (2, [va_rf (sR S 16 a), .int (sI S 17 a), .int (sI S 18 a)]) else if sK S a = 2 then .inr (3, [.int (sI S 19 a), .int (sI S 20 a), .int (sI S 21 a), va_rf (sM S 22 a)]) else if sK S a = 3 then .inr (4, [va_rf (sR S 23 a), va_rf (sR S 24 a), va_rf (sR S 25 a), va_rf (sR S 26 a), va_rf (sR S 27 a), va_rf (sR S 28 a)]) else if sK S a = 4 then .inr (5, [.int (sI S 29 a), .int (sI S 30 a), .int (sI S 31 a)]) else if sK S a = 5 then .inr (6, [va_rf (sR S 32 a), va_rf (sR S 33 a), va_rf (sR S 34 a), va_rf (sR S 35 a), va_rf (sR S 36 a), va_rf (sR S 37 a), va_rf (sR S 38 a), .int (sI S 39 a), .int (sI S 40 a), .int (sI S 41 a)]) else if sK S a = 6 then .inr (7, [.int (sI S 42 a), .int (sI S 43 a), .int (sI S 44 a), .int (sI S 45 a), .int (sI S 46 a), .int (sI S 47 a)]) else if sK S a = 7 then .inr (8, [va_rf (sR S 48 a), va_rf (sR S 49 a), .int (sI S 50 a)]) else if sK S a = 8 then .inr (0, [.int (sI S 51 a), va_rf (sE S a), .int (nI (sZ S a))]) else if sK S a = 9 then .inl (E.2.1, sN S a, .inl (sA S a)) else .inl (E.2.2.1, sN S a, .inr (.inr (.inr (.inr (sO S a)))))
abbrev pool (E : EV) (S : PS) : va_W := va_pl (sL S) (pF E S)
theorem pAt_0 (E : EV) (S : PS) {a : Nat} (h : sK S a = 0) : pF E S a = .inr (1, [va_rf (sR S 0 a), .int (sI S 1 a), .int (sI S 2 a), .int (sI S 3 a), .int (sI S 4 a), .int (sI S 5 a), .int (sI S 6 a), .int (sI S 7 a), .int (sI S 8 a), .int (sI S 9 a), .int (sI S 10 a), .int (sI S 11 a), .int (sI S 12 a), .int (sI S 13 a), va_rf (sM S 14 a), .int (sI S 15 a)]) := by simp [pF, h]
theorem pAt_1 (E : EV) (S : PS) {a : Nat} (h : sK S a = 1) : pF E S a = .inr (2, [va_rf (sR S 16 a), .int (sI S 17 a), .int (sI S 18 a)]) := by simp [pF, h]
theorem pAt_2 (E : EV) (S : PS) {a : Nat} (h : sK S a = 2) : pF E S a = .inr (3, [.int (sI S 19 a), .int (sI S 20 a), .int (sI S 21 a), va_rf (sM S 22 a)]) := by simp [pF, h]
theorem pAt_3 (E : EV) (S : PS) {a : Nat} (h : sK S a = 3) : pF E S a = .inr (4, [va_rf (sR S 23 a), va_rf (sR S 24 a), va_rf (sR S 25 a), va_rf (sR S 26 a), va_rf (sR S 27 a), va_rf (sR S 28 a)]) := by simp [pF, h]
theorem pAt_4 (E : EV) (S : PS) {a : Nat} (h : sK S a = 4) : pF E S a = .inr (5, [.int (sI S 29 a), .int (sI S 30 a), .int (sI S 31 a)]) := by simp [pF, h]
theorem pAt_5 (E : EV) (S : PS) {a : Nat} (h : sK S a = 5) : pF E S a = .inr (6, [va_rf (sR S 32 a), va_rf (sR S 33 a), va_rf (sR S 34 a), va_rf (sR S 35 a), va_rf (sR S 36 a), va_rf (sR S 37 a), va_rf (sR S 38 a), .int (sI S 39 a), .int (sI S 40 a), .int (sI S 41 a)]) := by simp [pF, h]
theorem pAt_6 (E : EV) (S : PS) {a : Nat} (h : sK S a = 6) : pF E S a = .inr (7, [.int (sI S 42 a), .int (sI S 43 a), .int (sI S 44 a), .int (sI S 45 a), .int (sI S 46 a), .int (sI S 47 a)]) := by simp [pF, h]
theorem pAt_7 (E : EV) (S : PS) {a : Nat} (h : sK S a = 7) : pF E S a = .inr (8, [va_rf (sR S 48 a), va_rf (sR S 49 a), .int (sI S 50 a)]) := by simp [pF, h]
theorem pAt_8 (E : EV) (S : PS) {a : Nat} (h : sK S a = 8) : pF E S a = .inr (0, [.int (sI S 51 a), va_rf (sE S a), .int (nI (sZ S a))]) := by simp [pF, h]
theorem pAt_9 (E : EV) (S : PS) {a : Nat} (h : sK S a = 9) : pF E S a = .inl (E.2.1, sN S a, .inl (sA S a)) := by simp [pF, h]
theorem pAt_10 (E : EV) (S : PS) {a : Nat} (h : sK S a = 10) : pF E S a = .inl (E.2.2.1, sN S a, .inr (.inr (.inr (.inr (sO S a))))) := by simp [pF, h]
theorem pUp_0 (E : EV) (S : PS) {a : Nat} (h : sK S a = 0) (v : Option Nat) (b : Nat) : va_up (pF E S) a (.inr (1, [va_rf v, .int (sI S 1 a), .int (sI S 2 a), .int (sI S 3 a), .int (sI S 4 a), .int (sI S 5 a), .int (sI S 6 a), .int (sI S 7 a), .int (sI S 8 a), .int (sI S 9 a), .int (sI S 10 a), .int (sI S 11 a), .int (sI S 12 a), .int (sI S 13 a), va_rf (sM S 14 a), .int (sI S 15 a)])) b = pF E (uR S 0 a v) b := by
  have h2 : S.2.1 a = 0 := h
  by_cases hb : b = a
  · subst hb; simp [pF, va_up, up2, sL, sK, sI, sR, sM, sE, sZ, sN, sA, sO, h2]
  · simp [pF, va_up, up2, sL, sK, sI, sR, sM, sE, sZ, sN, sA, sO, hb]
theorem pUp_1 (E : EV) (S : PS) {a : Nat} (h : sK S a = 0) (v : Int32) (b : Nat) : va_up (pF E S) a (.inr (1, [va_rf (sR S 0 a), .int v, .int (sI S 2 a), .int (sI S 3 a), .int (sI S 4 a), .int (sI S 5 a), .int (sI S 6 a), .int (sI S 7 a), .int (sI S 8 a), .int (sI S 9 a), .int (sI S 10 a), .int (sI S 11 a), .int (sI S 12 a), .int (sI S 13 a), va_rf (sM S 14 a), .int (sI S 15 a)])) b = pF E (uI S 1 a v) b := by
  have h2 : S.2.1 a = 0 := h
  by_cases hb : b = a
  · subst hb; simp [pF, va_up, up2, sL, sK, sI, sR, sM, sE, sZ, sN, sA, sO, h2]
  · simp [pF, va_up, up2, sL, sK, sI, sR, sM, sE, sZ, sN, sA, sO, hb]
theorem pUp_2 (E : EV) (S : PS) {a : Nat} (h : sK S a = 0) (v : Int32) (b : Nat) : va_up (pF E S) a (.inr (1, [va_rf (sR S 0 a), .int (sI S 1 a), .int v, .int (sI S 3 a), .int (sI S 4 a), .int (sI S 5 a), .int (sI S 6 a), .int (sI S 7 a), .int (sI S 8 a), .int (sI S 9 a), .int (sI S 10 a), .int (sI S 11 a), .int (sI S 12 a), .int (sI S 13 a), va_rf (sM S 14 a), .int (sI S 15 a)])) b = pF E (uI S 2 a v) b := by
  have h2 : S.2.1 a = 0 := h
  by_cases hb : b = a
  · subst hb; simp [pF, va_up, up2, sL, sK, sI, sR, sM, sE, sZ, sN, sA, sO, h2]
  · simp [pF, va_up, up2, sL, sK, sI, sR, sM, sE, sZ, sN, sA, sO, hb]
theorem pUp_3 (E : EV) (S : PS) {a : Nat} (h : sK S a = 0) (v : Int32) (b : Nat) : va_up (pF E S) a (.inr (1, [va_rf (sR S 0 a), .int (sI S 1 a), .int (sI S 2 a), .int v, .int (sI S 4 a), .int (sI S 5 a), .int (sI S 6 a), .int (sI S 7 a), .int (sI S 8 a), .int (sI S 9 a), .int (sI S 10 a), .int (sI S 11 a), .int (sI S 12 a), .int (sI S 13 a), va_rf (sM S 14 a), .int (sI S 15 a)])) b = pF E (uI S 3 a v) b := by
  have h2 : S.2.1 a = 0 := h
  by_cases hb : b = a
  · subst hb; simp [pF, va_up, up2, sL, sK, sI, sR, sM, sE, sZ, sN, sA, sO, h2]
  · simp [pF, va_up, up2, sL, sK, sI, sR, sM, sE, sZ, sN, sA, sO, hb]
theorem pUp_4 (E : EV) (S : PS) {a : Nat} (h : sK S a = 0) (v : Int32) (b : Nat) : va_up (pF E S) a (.inr (1, [va_rf (sR S 0 a), .int (sI S 1 a), .int (sI S 2 a), .int (sI S 3 a), .int v, .int (sI S 5 a), .int (sI S 6 a), .int (sI S 7 a), .int (sI S 8 a), .int (sI S 9 a), .int (sI S 10 a), .int (sI S 11 a), .int (sI S 12 a), .int (sI S 13 a), va_rf (sM S 14 a), .int (sI S 15 a)])) b = pF E (uI S 4 a v) b := by
  have h2 : S.2.1 a = 0 := h
  by_cases hb : b = a
  · subst hb; simp [pF, va_up, up2, sL, sK, sI, sR, sM, sE, sZ, sN, sA, sO, h2]
  · simp [pF, va_up, up2, sL, sK, sI, sR, sM, sE, sZ, sN, sA, sO, hb]
theorem pUp_5 (E : EV) (S : PS) {a : Nat} (h : sK S a = 0) (v : Int32) (b : Nat) : va_up (pF E S) a (.inr (1, [va_rf (sR S 0 a), .int (sI S 1 a), .int (sI S 2 a), .int (sI S 3 a), .int (sI S 4 a), .int v, .int (sI S 6 a), .int (sI S 7 a), .int (sI S 8 a), .int (sI S 9 a), .int (sI S 10 a), .int (sI S 11 a), .int (sI S 12 a), .int (sI S 13 a), va_rf (sM S 14 a), .int (sI S 15 a)])) b = pF E (uI S 5 a v) b := by
  have h2 : S.2.1 a = 0 := h
  by_cases hb : b = a
  · subst hb; simp [pF, va_up, up2, sL, sK, sI, sR, sM, sE, sZ, sN, sA, sO, h2]
  · simp [pF, va_up, up2, sL, sK, sI, sR, sM, sE, sZ, sN, sA, sO, hb]
theorem pUp_6 (E : EV) (S : PS) {a : Nat} (h : sK S a = 0) (v : Int32) (b : Nat) : va_up (pF E S) a (.inr (1, [va_rf (sR S 0 a), .int (sI S 1 a), .int (sI S 2 a), .int (sI S 3 a), .int (sI S 4 a), .int (sI S 5 a), .int v, .int (sI S 7 a), .int (sI S 8 a), .int (sI S 9 a), .int (sI S 10 a), .int (sI S 11 a), .int (sI S 12 a), .int (sI S 13 a), va_rf (sM S 14 a), .int (sI S 15 a)])) b = pF E (uI S 6 a v) b := by
  have h2 : S.2.1 a = 0 := h
  by_cases hb : b = a
  · subst hb; simp [pF, va_up, up2, sL, sK, sI, sR, sM, sE, sZ, sN, sA, sO, h2]
  · simp [pF, va_up, up2, sL, sK, sI, sR, sM, sE, sZ, sN, sA, sO, hb]
theorem pUp_7 (E : EV) (S : PS) {a : Nat} (h : sK S a = 0) (v : Int32) (b : Nat) : va_up (pF E S) a (.inr (1, [va_rf (sR S 0 a), .int (sI S 1 a), .int (sI S 2 a), .int (sI S 3 a), .int (sI S 4 a), .int (sI S 5 a), .int (sI S 6 a), .int v, .int (sI S 8 a), .int (sI S 9 a), .int (sI S 10 a), .int (sI S 11 a), .int (sI S 12 a), .int (sI S 13 a), va_rf (sM S 14 a), .int (sI S 15 a)])) b = pF E (uI S 7 a v) b := by
  have h2 : S.2.1 a = 0 := h
  by_cases hb : b = a
  · subst hb; simp [pF, va_up, up2, sL, sK, sI, sR, sM, sE, sZ, sN, sA, sO, h2]
  · simp [pF, va_up, up2, sL, sK, sI, sR, sM, sE, sZ, sN, sA, sO, hb]
theorem pUp_8 (E : EV) (S : PS) {a : Nat} (h : sK S a = 0) (v : Int32) (b : Nat) : va_up (pF E S) a (.inr (1, [va_rf (sR S 0 a), .int (sI S 1 a), .int (sI S 2 a), .int (sI S 3 a), .int (sI S 4 a), .int (sI S 5 a), .int (sI S 6 a), .int (sI S 7 a), .int v, .int (sI S 9 a), .int (sI S 10 a), .int (sI S 11 a), .int (sI S 12 a), .int (sI S 13 a), va_rf (sM S 14 a), .int (sI S 15 a)])) b = pF E (uI S 8 a v) b := by
  have h2 : S.2.1 a = 0 := h
  by_cases hb : b = a
  · subst hb; simp [pF, va_up, up2, sL, sK, sI, sR, sM, sE, sZ, sN, sA, sO, h2]
  · simp [pF, va_up, up2, sL, sK, sI, sR, sM, sE, sZ, sN, sA, sO, hb]
theorem pUp_9 (E : EV) (S : PS) {a : Nat} (h : sK S a = 0) (v : Int32) (b : Nat) : va_up (pF E S) a (.inr (1, [va_rf (sR S 0 a), .int (sI S 1 a), .int (sI S 2 a), .int (sI S 3 a), .int (sI S 4 a), .int (sI S 5 a), .int (sI S 6 a), .int (sI S 7 a), .int (sI S 8 a), .int v, .int (sI S 10 a), .int (sI S 11 a), .int (sI S 12 a), .int (sI S 13 a), va_rf (sM S 14 a), .int (sI S 15 a)])) b = pF E (uI S 9 a v) b := by
  have h2 : S.2.1 a = 0 := h
  by_cases hb : b = a
  · subst hb; simp [pF, va_up, up2, sL, sK, sI, sR, sM, sE, sZ, sN, sA, sO, h2]
  · simp [pF, va_up, up2, sL, sK, sI, sR, sM, sE, sZ, sN, sA, sO, hb]
theorem pUp_10 (E : EV) (S : PS) {a : Nat} (h : sK S a = 0) (v : Int32) (b : Nat) : va_up (pF E S) a (.inr (1, [va_rf (sR S 0 a), .int (sI S 1 a), .int (sI S 2 a), .int (sI S 3 a), .int (sI S 4 a), .int (sI S 5 a), .int (sI S 6 a), .int (sI S 7 a), .int (sI S 8 a), .int (sI S 9 a), .int v, .int (sI S 11 a), .int (sI S 12 a), .int (sI S 13 a), va_rf (sM S 14 a), .int (sI S 15 a)])) b = pF E (uI S 10 a v) b := by
  have h2 : S.2.1 a = 0 := h
  by_cases hb : b = a
  · subst hb; simp [pF, va_up, up2, sL, sK, sI, sR, sM, sE, sZ, sN, sA, sO, h2]
  · simp [pF, va_up, up2, sL, sK, sI, sR, sM, sE, sZ, sN, sA, sO, hb]
theorem pUp_11 (E : EV) (S : PS) {a : Nat} (h : sK S a = 0) (v : Int32) (b : Nat) : va_up (pF E S) a (.inr (1, [va_rf (sR S 0 a), .int (sI S 1 a), .int (sI S 2 a), .int (sI S 3 a), .int (sI S 4 a), .int (sI S 5 a), .int (sI S 6 a), .int (sI S 7 a), .int (sI S 8 a), .int (sI S 9 a), .int (sI S 10 a), .int v, .int (sI S 12 a), .int (sI S 13 a), va_rf (sM S 14 a), .int (sI S 15 a)])) b = pF E (uI S 11 a v) b := by
  have h2 : S.2.1 a = 0 := h
  by_cases hb : b = a
  · subst hb; simp [pF, va_up, up2, sL, sK, sI, sR, sM, sE, sZ, sN, sA, sO, h2]
  · simp [pF, va_up, up2, sL, sK, sI, sR, sM, sE, sZ, sN, sA, sO, hb]
theorem pUp_12 (E : EV) (S : PS) {a : Nat} (h : sK S a = 0) (v : Int32) (b : Nat) : va_up (pF E S) a (.inr (1, [va_rf (sR S 0 a), .int (sI S 1 a), .int (sI S 2 a), .int (sI S 3 a), .int (sI S 4 a), .int (sI S 5 a), .int (sI S 6 a), .int (sI S 7 a), .int (sI S 8 a), .int (sI S 9 a), .int (sI S 10 a), .int (sI S 11 a), .int v, .int (sI S 13 a), va_rf (sM S 14 a), .int (sI S 15 a)])) b = pF E (uI S 12 a v) b := by
  have h2 : S.2.1 a = 0 := h
  by_cases hb : b = a
  · subst hb; simp [pF, va_up, up2, sL, sK, sI, sR, sM, sE, sZ, sN, sA, sO, h2]
  · simp [pF, va_up, up2, sL, sK, sI, sR, sM, sE, sZ, sN, sA, sO, hb]
theorem pUp_13 (E : EV) (S : PS) {a : Nat} (h : sK S a = 0) (v : Int32) (b : Nat) : va_up (pF E S) a (.inr (1, [va_rf (sR S 0 a), .int (sI S 1 a), .int (sI S 2 a), .int (sI S 3 a), .int (sI S 4 a), .int (sI S 5 a), .int (sI S 6 a), .int (sI S 7 a), .int (sI S 8 a), .int (sI S 9 a), .int (sI S 10 a), .int (sI S 11 a), .int (sI S 12 a), .int v, va_rf (sM S 14 a), .int (sI S 15 a)])) b = pF E (uI S 13 a v) b := by
  have h2 : S.2.1 a = 0 := h
  by_cases hb : b = a
  · subst hb; simp [pF, va_up, up2, sL, sK, sI, sR, sM, sE, sZ, sN, sA, sO, h2]
  · simp [pF, va_up, up2, sL, sK, sI, sR, sM, sE, sZ, sN, sA, sO, hb]
theorem pUp_14 (E : EV) (S : PS) {a : Nat} (h : sK S a = 0) (v : Option Nat) (b : Nat) : va_up (pF E S) a (.inr (1, [va_rf (sR S 0 a), .int (sI S 1 a), .int (sI S 2 a), .int (sI S 3 a), .int (sI S 4 a), .int (sI S 5 a), .int (sI S 6 a), .int (sI S 7 a), .int (sI S 8 a), .int (sI S 9 a), .int (sI S 10 a), .int (sI S 11 a), .int (sI S 12 a), .int (sI S 13 a), va_rf v, .int (sI S 15 a)])) b = pF E (uM S 14 a v) b := by
  have h2 : S.2.1 a = 0 := h
  by_cases hb : b = a
  · subst hb; simp [pF, va_up, up2, sL, sK, sI, sR, sM, sE, sZ, sN, sA, sO, h2]
  · simp [pF, va_up, up2, sL, sK, sI, sR, sM, sE, sZ, sN, sA, sO, hb]
theorem pUp_15 (E : EV) (S : PS) {a : Nat} (h : sK S a = 0) (v : Int32) (b : Nat) : va_up (pF E S) a (.inr (1, [va_rf (sR S 0 a), .int (sI S 1 a), .int (sI S 2 a), .int (sI S 3 a), .int (sI S 4 a), .int (sI S 5 a), .int (sI S 6 a), .int (sI S 7 a), .int (sI S 8 a), .int (sI S 9 a), .int (sI S 10 a), .int (sI S 11 a), .int (sI S 12 a), .int (sI S 13 a), va_rf (sM S 14 a), .int v])) b = pF E (uI S 15 a v) b := by
  have h2 : S.2.1 a = 0 := h
  by_cases hb : b = a
  · subst hb; simp [pF, va_up, up2, sL, sK, sI, sR, sM, sE, sZ, sN, sA, sO, h2]
  · simp [pF, va_up, up2, sL, sK, sI, sR, sM, sE, sZ, sN, sA, sO, hb]
theorem pNw_0 (E : EV) (S : PS) (a b : Nat) : va_up (pF E S) a (.inr (1, [.null, .int 0, .int 0, .int 0, .int 0, .int 0, .int 0, .int 0, .int 0, .int 0, .int 0, .int 0, .int 0, .int 0, .null, .int 0])) b = pF E (nw S a 0) b := by by_cases hb : b = a <;> simp [pF, va_up, va_rf, nI_0, sL, sK, sI, sR, sM, sE, sZ, sN, sA, sO, hb]
theorem pUp_16 (E : EV) (S : PS) {a : Nat} (h : sK S a = 1) (v : Option Nat) (b : Nat) : va_up (pF E S) a (.inr (2, [va_rf v, .int (sI S 17 a), .int (sI S 18 a)])) b = pF E (uR S 16 a v) b := by
  have h2 : S.2.1 a = 1 := h
  by_cases hb : b = a
  · subst hb; simp [pF, va_up, up2, sL, sK, sI, sR, sM, sE, sZ, sN, sA, sO, h2]
  · simp [pF, va_up, up2, sL, sK, sI, sR, sM, sE, sZ, sN, sA, sO, hb]
theorem pUp_17 (E : EV) (S : PS) {a : Nat} (h : sK S a = 1) (v : Int32) (b : Nat) : va_up (pF E S) a (.inr (2, [va_rf (sR S 16 a), .int v, .int (sI S 18 a)])) b = pF E (uI S 17 a v) b := by
  have h2 : S.2.1 a = 1 := h
  by_cases hb : b = a
  · subst hb; simp [pF, va_up, up2, sL, sK, sI, sR, sM, sE, sZ, sN, sA, sO, h2]
  · simp [pF, va_up, up2, sL, sK, sI, sR, sM, sE, sZ, sN, sA, sO, hb]
theorem pUp_18 (E : EV) (S : PS) {a : Nat} (h : sK S a = 1) (v : Int32) (b : Nat) : va_up (pF E S) a (.inr (2, [va_rf (sR S 16 a), .int (sI S 17 a), .int v])) b = pF E (uI S 18 a v) b := by
  have h2 : S.2.1 a = 1 := h
  by_cases hb : b = a
  · subst hb; simp [pF, va_up, up2, sL, sK, sI, sR, sM, sE, sZ, sN, sA, sO, h2]
  · simp [pF, va_up, up2, sL, sK, sI, sR, sM, sE, sZ, sN, sA, sO, hb]
theorem pNw_1 (E : EV) (S : PS) (a b : Nat) : va_up (pF E S) a (.inr (2, [.null, .int 0, .int 0])) b = pF E (nw S a 1) b := by by_cases hb : b = a <;> simp [pF, va_up, va_rf, nI_0, sL, sK, sI, sR, sM, sE, sZ, sN, sA, sO, hb]
theorem pUp_19 (E : EV) (S : PS) {a : Nat} (h : sK S a = 2) (v : Int32) (b : Nat) : va_up (pF E S) a (.inr (3, [.int v, .int (sI S 20 a), .int (sI S 21 a), va_rf (sM S 22 a)])) b = pF E (uI S 19 a v) b := by
  have h2 : S.2.1 a = 2 := h
  by_cases hb : b = a
  · subst hb; simp [pF, va_up, up2, sL, sK, sI, sR, sM, sE, sZ, sN, sA, sO, h2]
  · simp [pF, va_up, up2, sL, sK, sI, sR, sM, sE, sZ, sN, sA, sO, hb]
theorem pUp_20 (E : EV) (S : PS) {a : Nat} (h : sK S a = 2) (v : Int32) (b : Nat) : va_up (pF E S) a (.inr (3, [.int (sI S 19 a), .int v, .int (sI S 21 a), va_rf (sM S 22 a)])) b = pF E (uI S 20 a v) b := by
  have h2 : S.2.1 a = 2 := h
  by_cases hb : b = a
  · subst hb; simp [pF, va_up, up2, sL, sK, sI, sR, sM, sE, sZ, sN, sA, sO, h2]
  · simp [pF, va_up, up2, sL, sK, sI, sR, sM, sE, sZ, sN, sA, sO, hb]
theorem pUp_21 (E : EV) (S : PS) {a : Nat} (h : sK S a = 2) (v : Int32) (b : Nat) : va_up (pF E S) a (.inr (3, [.int (sI S 19 a), .int (sI S 20 a), .int v, va_rf (sM S 22 a)])) b = pF E (uI S 21 a v) b := by
  have h2 : S.2.1 a = 2 := h
  by_cases hb : b = a
  · subst hb; simp [pF, va_up, up2, sL, sK, sI, sR, sM, sE, sZ, sN, sA, sO, h2]
  · simp [pF, va_up, up2, sL, sK, sI, sR, sM, sE, sZ, sN, sA, sO, hb]
theorem pUp_22 (E : EV) (S : PS) {a : Nat} (h : sK S a = 2) (v : Option Nat) (b : Nat) : va_up (pF E S) a (.inr (3, [.int (sI S 19 a), .int (sI S 20 a), .int (sI S 21 a), va_rf v])) b = pF E (uM S 22 a v) b := by
  have h2 : S.2.1 a = 2 := h
  by_cases hb : b = a
  · subst hb; simp [pF, va_up, up2, sL, sK, sI, sR, sM, sE, sZ, sN, sA, sO, h2]
  · simp [pF, va_up, up2, sL, sK, sI, sR, sM, sE, sZ, sN, sA, sO, hb]
theorem pNw_2 (E : EV) (S : PS) (a b : Nat) : va_up (pF E S) a (.inr (3, [.int 0, .int 0, .int 0, .null])) b = pF E (nw S a 2) b := by by_cases hb : b = a <;> simp [pF, va_up, va_rf, nI_0, sL, sK, sI, sR, sM, sE, sZ, sN, sA, sO, hb]
theorem pUp_23 (E : EV) (S : PS) {a : Nat} (h : sK S a = 3) (v : Option Nat) (b : Nat) : va_up (pF E S) a (.inr (4, [va_rf v, va_rf (sR S 24 a), va_rf (sR S 25 a), va_rf (sR S 26 a), va_rf (sR S 27 a), va_rf (sR S 28 a)])) b = pF E (uR S 23 a v) b := by
  have h2 : S.2.1 a = 3 := h
  by_cases hb : b = a
  · subst hb; simp [pF, va_up, up2, sL, sK, sI, sR, sM, sE, sZ, sN, sA, sO, h2]
  · simp [pF, va_up, up2, sL, sK, sI, sR, sM, sE, sZ, sN, sA, sO, hb]
theorem pUp_24 (E : EV) (S : PS) {a : Nat} (h : sK S a = 3) (v : Option Nat) (b : Nat) : va_up (pF E S) a (.inr (4, [va_rf (sR S 23 a), va_rf v, va_rf (sR S 25 a), va_rf (sR S 26 a), va_rf (sR S 27 a), va_rf (sR S 28 a)])) b = pF E (uR S 24 a v) b := by
  have h2 : S.2.1 a = 3 := h
  by_cases hb : b = a
  · subst hb; simp [pF, va_up, up2, sL, sK, sI, sR, sM, sE, sZ, sN, sA, sO, h2]
  · simp [pF, va_up, up2, sL, sK, sI, sR, sM, sE, sZ, sN, sA, sO, hb]
theorem pUp_25 (E : EV) (S : PS) {a : Nat} (h : sK S a = 3) (v : Option Nat) (b : Nat) : va_up (pF E S) a (.inr (4, [va_rf (sR S 23 a), va_rf (sR S 24 a), va_rf v, va_rf (sR S 26 a), va_rf (sR S 27 a), va_rf (sR S 28 a)])) b = pF E (uR S 25 a v) b := by
  have h2 : S.2.1 a = 3 := h
  by_cases hb : b = a
  · subst hb; simp [pF, va_up, up2, sL, sK, sI, sR, sM, sE, sZ, sN, sA, sO, h2]
  · simp [pF, va_up, up2, sL, sK, sI, sR, sM, sE, sZ, sN, sA, sO, hb]
theorem pUp_26 (E : EV) (S : PS) {a : Nat} (h : sK S a = 3) (v : Option Nat) (b : Nat) : va_up (pF E S) a (.inr (4, [va_rf (sR S 23 a), va_rf (sR S 24 a), va_rf (sR S 25 a), va_rf v, va_rf (sR S 27 a), va_rf (sR S 28 a)])) b = pF E (uR S 26 a v) b := by
  have h2 : S.2.1 a = 3 := h
  by_cases hb : b = a
  · subst hb; simp [pF, va_up, up2, sL, sK, sI, sR, sM, sE, sZ, sN, sA, sO, h2]
  · simp [pF, va_up, up2, sL, sK, sI, sR, sM, sE, sZ, sN, sA, sO, hb]
theorem pUp_27 (E : EV) (S : PS) {a : Nat} (h : sK S a = 3) (v : Option Nat) (b : Nat) : va_up (pF E S) a (.inr (4, [va_rf (sR S 23 a), va_rf (sR S 24 a), va_rf (sR S 25 a), va_rf (sR S 26 a), va_rf v, va_rf (sR S 28 a)])) b = pF E (uR S 27 a v) b := by
  have h2 : S.2.1 a = 3 := h
  by_cases hb : b = a
  · subst hb; simp [pF, va_up, up2, sL, sK, sI, sR, sM, sE, sZ, sN, sA, sO, h2]
  · simp [pF, va_up, up2, sL, sK, sI, sR, sM, sE, sZ, sN, sA, sO, hb]
theorem pUp_28 (E : EV) (S : PS) {a : Nat} (h : sK S a = 3) (v : Option Nat) (b : Nat) : va_up (pF E S) a (.inr (4, [va_rf (sR S 23 a), va_rf (sR S 24 a), va_rf (sR S 25 a), va_rf (sR S 26 a), va_rf (sR S 27 a), va_rf v])) b = pF E (uR S 28 a v) b := by
  have h2 : S.2.1 a = 3 := h
  by_cases hb : b = a
  · subst hb; simp [pF, va_up, up2, sL, sK, sI, sR, sM, sE, sZ, sN, sA, sO, h2]
  · simp [pF, va_up, up2, sL, sK, sI, sR, sM, sE, sZ, sN, sA, sO, hb]
theorem pNw_3 (E : EV) (S : PS) (a b : Nat) : va_up (pF E S) a (.inr (4, [.null, .null, .null, .null, .null, .null])) b = pF E (nw S a 3) b := by by_cases hb : b = a <;> simp [pF, va_up, va_rf, nI_0, sL, sK, sI, sR, sM, sE, sZ, sN, sA, sO, hb]
theorem pUp_29 (E : EV) (S : PS) {a : Nat} (h : sK S a = 4) (v : Int32) (b : Nat) : va_up (pF E S) a (.inr (5, [.int v, .int (sI S 30 a), .int (sI S 31 a)])) b = pF E (uI S 29 a v) b := by
  have h2 : S.2.1 a = 4 := h
  by_cases hb : b = a
  · subst hb; simp [pF, va_up, up2, sL, sK, sI, sR, sM, sE, sZ, sN, sA, sO, h2]
  · simp [pF, va_up, up2, sL, sK, sI, sR, sM, sE, sZ, sN, sA, sO, hb]
theorem pUp_30 (E : EV) (S : PS) {a : Nat} (h : sK S a = 4) (v : Int32) (b : Nat) : va_up (pF E S) a (.inr (5, [.int (sI S 29 a), .int v, .int (sI S 31 a)])) b = pF E (uI S 30 a v) b := by
  have h2 : S.2.1 a = 4 := h
  by_cases hb : b = a
  · subst hb; simp [pF, va_up, up2, sL, sK, sI, sR, sM, sE, sZ, sN, sA, sO, h2]
  · simp [pF, va_up, up2, sL, sK, sI, sR, sM, sE, sZ, sN, sA, sO, hb]
theorem pUp_31 (E : EV) (S : PS) {a : Nat} (h : sK S a = 4) (v : Int32) (b : Nat) : va_up (pF E S) a (.inr (5, [.int (sI S 29 a), .int (sI S 30 a), .int v])) b = pF E (uI S 31 a v) b := by
  have h2 : S.2.1 a = 4 := h
  by_cases hb : b = a
  · subst hb; simp [pF, va_up, up2, sL, sK, sI, sR, sM, sE, sZ, sN, sA, sO, h2]
  · simp [pF, va_up, up2, sL, sK, sI, sR, sM, sE, sZ, sN, sA, sO, hb]
theorem pNw_4 (E : EV) (S : PS) (a b : Nat) : va_up (pF E S) a (.inr (5, [.int 0, .int 0, .int 0])) b = pF E (nw S a 4) b := by by_cases hb : b = a <;> simp [pF, va_up, va_rf, nI_0, sL, sK, sI, sR, sM, sE, sZ, sN, sA, sO, hb]
theorem pUp_32 (E : EV) (S : PS) {a : Nat} (h : sK S a = 5) (v : Option Nat) (b : Nat) : va_up (pF E S) a (.inr (6, [va_rf v, va_rf (sR S 33 a), va_rf (sR S 34 a), va_rf (sR S 35 a), va_rf (sR S 36 a), va_rf (sR S 37 a), va_rf (sR S 38 a), .int (sI S 39 a), .int (sI S 40 a), .int (sI S 41 a)])) b = pF E (uR S 32 a v) b := by
  have h2 : S.2.1 a = 5 := h
  by_cases hb : b = a
  · subst hb; simp [pF, va_up, up2, sL, sK, sI, sR, sM, sE, sZ, sN, sA, sO, h2]
  · simp [pF, va_up, up2, sL, sK, sI, sR, sM, sE, sZ, sN, sA, sO, hb]
theorem pUp_33 (E : EV) (S : PS) {a : Nat} (h : sK S a = 5) (v : Option Nat) (b : Nat) : va_up (pF E S) a (.inr (6, [va_rf (sR S 32 a), va_rf v, va_rf (sR S 34 a), va_rf (sR S 35 a), va_rf (sR S 36 a), va_rf (sR S 37 a), va_rf (sR S 38 a), .int (sI S 39 a), .int (sI S 40 a), .int (sI S 41 a)])) b = pF E (uR S 33 a v) b := by
  have h2 : S.2.1 a = 5 := h
  by_cases hb : b = a
  · subst hb; simp [pF, va_up, up2, sL, sK, sI, sR, sM, sE, sZ, sN, sA, sO, h2]
  · simp [pF, va_up, up2, sL, sK, sI, sR, sM, sE, sZ, sN, sA, sO, hb]
theorem pUp_34 (E : EV) (S : PS) {a : Nat} (h : sK S a = 5) (v : Option Nat) (b : Nat) : va_up (pF E S) a (.inr (6, [va_rf (sR S 32 a), va_rf (sR S 33 a), va_rf v, va_rf (sR S 35 a), va_rf (sR S 36 a), va_rf (sR S 37 a), va_rf (sR S 38 a), .int (sI S 39 a), .int (sI S 40 a), .int (sI S 41 a)])) b = pF E (uR S 34 a v) b := by
  have h2 : S.2.1 a = 5 := h
  by_cases hb : b = a
  · subst hb; simp [pF, va_up, up2, sL, sK, sI, sR, sM, sE, sZ, sN, sA, sO, h2]
  · simp [pF, va_up, up2, sL, sK, sI, sR, sM, sE, sZ, sN, sA, sO, hb]
theorem pUp_35 (E : EV) (S : PS) {a : Nat} (h : sK S a = 5) (v : Option Nat) (b : Nat) : va_up (pF E S) a (.inr (6, [va_rf (sR S 32 a), va_rf (sR S 33 a), va_rf (sR S 34 a), va_rf v, va_rf (sR S 36 a), va_rf (sR S 37 a), va_rf (sR S 38 a), .int (sI S 39 a), .int (sI S 40 a), .int (sI S 41 a)])) b = pF E (uR S 35 a v) b := by
  have h2 : S.2.1 a = 5 := h
  by_cases hb : b = a
  · subst hb; simp [pF, va_up, up2, sL, sK, sI, sR, sM, sE, sZ, sN, sA, sO, h2]
  · simp [pF, va_up, up2, sL, sK, sI, sR, sM, sE, sZ, sN, sA, sO, hb]
theorem pUp_36 (E : EV) (S : PS) {a : Nat} (h : sK S a = 5) (v : Option Nat) (b : Nat) : va_up (pF E S) a (.inr (6, [va_rf (sR S 32 a), va_rf (sR S 33 a), va_rf (sR S 34 a), va_rf (sR S 35 a), va_rf v, va_rf (sR S 37 a), va_rf (sR S 38 a), .int (sI S 39 a), .int (sI S 40 a), .int (sI S 41 a)])) b = pF E (uR S 36 a v) b := by
  have h2 : S.2.1 a = 5 := h
  by_cases hb : b = a
  · subst hb; simp [pF, va_up, up2, sL, sK, sI, sR, sM, sE, sZ, sN, sA, sO, h2]
  · simp [pF, va_up, up2, sL, sK, sI, sR, sM, sE, sZ, sN, sA, sO, hb]
theorem pUp_37 (E : EV) (S : PS) {a : Nat} (h : sK S a = 5) (v : Option Nat) (b : Nat) : va_up (pF E S) a (.inr (6, [va_rf (sR S 32 a), va_rf (sR S 33 a), va_rf (sR S 34 a), va_rf (sR S 35 a), va_rf (sR S 36 a), va_rf v, va_rf (sR S 38 a), .int (sI S 39 a), .int (sI S 40 a), .int (sI S 41 a)])) b = pF E (uR S 37 a v) b := by
  have h2 : S.2.1 a = 5 := h
  by_cases hb : b = a
  · subst hb; simp [pF, va_up, up2, sL, sK, sI, sR, sM, sE, sZ, sN, sA, sO, h2]
  · simp [pF, va_up, up2, sL, sK, sI, sR, sM, sE, sZ, sN, sA, sO, hb]
theorem pUp_38 (E : EV) (S : PS) {a : Nat} (h : sK S a = 5) (v : Option Nat) (b : Nat) : va_up (pF E S) a (.inr (6, [va_rf (sR S 32 a), va_rf (sR S 33 a), va_rf (sR S 34 a), va_rf (sR S 35 a), va_rf (sR S 36 a), va_rf (sR S 37 a), va_rf v, .int (sI S 39 a), .int (sI S 40 a), .int (sI S 41 a)])) b = pF E (uR S 38 a v) b := by
  have h2 : S.2.1 a = 5 := h
  by_cases hb : b = a
  · subst hb; simp [pF, va_up, up2, sL, sK, sI, sR, sM, sE, sZ, sN, sA, sO, h2]
  · simp [pF, va_up, up2, sL, sK, sI, sR, sM, sE, sZ, sN, sA, sO, hb]
theorem pUp_39 (E : EV) (S : PS) {a : Nat} (h : sK S a = 5) (v : Int32) (b : Nat) : va_up (pF E S) a (.inr (6, [va_rf (sR S 32 a), va_rf (sR S 33 a), va_rf (sR S 34 a), va_rf (sR S 35 a), va_rf (sR S 36 a), va_rf (sR S 37 a), va_rf (sR S 38 a), .int v, .int (sI S 40 a), .int (sI S 41 a)])) b = pF E (uI S 39 a v) b := by
  have h2 : S.2.1 a = 5 := h
  by_cases hb : b = a
  · subst hb; simp [pF, va_up, up2, sL, sK, sI, sR, sM, sE, sZ, sN, sA, sO, h2]
  · simp [pF, va_up, up2, sL, sK, sI, sR, sM, sE, sZ, sN, sA, sO, hb]
theorem pUp_40 (E : EV) (S : PS) {a : Nat} (h : sK S a = 5) (v : Int32) (b : Nat) : va_up (pF E S) a (.inr (6, [va_rf (sR S 32 a), va_rf (sR S 33 a), va_rf (sR S 34 a), va_rf (sR S 35 a), va_rf (sR S 36 a), va_rf (sR S 37 a), va_rf (sR S 38 a), .int (sI S 39 a), .int v, .int (sI S 41 a)])) b = pF E (uI S 40 a v) b := by
  have h2 : S.2.1 a = 5 := h
  by_cases hb : b = a
  · subst hb; simp [pF, va_up, up2, sL, sK, sI, sR, sM, sE, sZ, sN, sA, sO, h2]
  · simp [pF, va_up, up2, sL, sK, sI, sR, sM, sE, sZ, sN, sA, sO, hb]
theorem pUp_41 (E : EV) (S : PS) {a : Nat} (h : sK S a = 5) (v : Int32) (b : Nat) : va_up (pF E S) a (.inr (6, [va_rf (sR S 32 a), va_rf (sR S 33 a), va_rf (sR S 34 a), va_rf (sR S 35 a), va_rf (sR S 36 a), va_rf (sR S 37 a), va_rf (sR S 38 a), .int (sI S 39 a), .int (sI S 40 a), .int v])) b = pF E (uI S 41 a v) b := by
  have h2 : S.2.1 a = 5 := h
  by_cases hb : b = a
  · subst hb; simp [pF, va_up, up2, sL, sK, sI, sR, sM, sE, sZ, sN, sA, sO, h2]
  · simp [pF, va_up, up2, sL, sK, sI, sR, sM, sE, sZ, sN, sA, sO, hb]
theorem pNw_5 (E : EV) (S : PS) (a b : Nat) : va_up (pF E S) a (.inr (6, [.null, .null, .null, .null, .null, .null, .null, .int 0, .int 0, .int 0])) b = pF E (nw S a 5) b := by by_cases hb : b = a <;> simp [pF, va_up, va_rf, nI_0, sL, sK, sI, sR, sM, sE, sZ, sN, sA, sO, hb]
theorem pUp_42 (E : EV) (S : PS) {a : Nat} (h : sK S a = 6) (v : Int32) (b : Nat) : va_up (pF E S) a (.inr (7, [.int v, .int (sI S 43 a), .int (sI S 44 a), .int (sI S 45 a), .int (sI S 46 a), .int (sI S 47 a)])) b = pF E (uI S 42 a v) b := by
  have h2 : S.2.1 a = 6 := h
  by_cases hb : b = a
  · subst hb; simp [pF, va_up, up2, sL, sK, sI, sR, sM, sE, sZ, sN, sA, sO, h2]
  · simp [pF, va_up, up2, sL, sK, sI, sR, sM, sE, sZ, sN, sA, sO, hb]
theorem pUp_43 (E : EV) (S : PS) {a : Nat} (h : sK S a = 6) (v : Int32) (b : Nat) : va_up (pF E S) a (.inr (7, [.int (sI S 42 a), .int v, .int (sI S 44 a), .int (sI S 45 a), .int (sI S 46 a), .int (sI S 47 a)])) b = pF E (uI S 43 a v) b := by
  have h2 : S.2.1 a = 6 := h
  by_cases hb : b = a
  · subst hb; simp [pF, va_up, up2, sL, sK, sI, sR, sM, sE, sZ, sN, sA, sO, h2]
  · simp [pF, va_up, up2, sL, sK, sI, sR, sM, sE, sZ, sN, sA, sO, hb]
theorem pUp_44 (E : EV) (S : PS) {a : Nat} (h : sK S a = 6) (v : Int32) (b : Nat) : va_up (pF E S) a (.inr (7, [.int (sI S 42 a), .int (sI S 43 a), .int v, .int (sI S 45 a), .int (sI S 46 a), .int (sI S 47 a)])) b = pF E (uI S 44 a v) b := by
  have h2 : S.2.1 a = 6 := h
  by_cases hb : b = a
  · subst hb; simp [pF, va_up, up2, sL, sK, sI, sR, sM, sE, sZ, sN, sA, sO, h2]
  · simp [pF, va_up, up2, sL, sK, sI, sR, sM, sE, sZ, sN, sA, sO, hb]
theorem pUp_45 (E : EV) (S : PS) {a : Nat} (h : sK S a = 6) (v : Int32) (b : Nat) : va_up (pF E S) a (.inr (7, [.int (sI S 42 a), .int (sI S 43 a), .int (sI S 44 a), .int v, .int (sI S 46 a), .int (sI S 47 a)])) b = pF E (uI S 45 a v) b := by
  have h2 : S.2.1 a = 6 := h
  by_cases hb : b = a
  · subst hb; simp [pF, va_up, up2, sL, sK, sI, sR, sM, sE, sZ, sN, sA, sO, h2]
  · simp [pF, va_up, up2, sL, sK, sI, sR, sM, sE, sZ, sN, sA, sO, hb]
theorem pUp_46 (E : EV) (S : PS) {a : Nat} (h : sK S a = 6) (v : Int32) (b : Nat) : va_up (pF E S) a (.inr (7, [.int (sI S 42 a), .int (sI S 43 a), .int (sI S 44 a), .int (sI S 45 a), .int v, .int (sI S 47 a)])) b = pF E (uI S 46 a v) b := by
  have h2 : S.2.1 a = 6 := h
  by_cases hb : b = a
  · subst hb; simp [pF, va_up, up2, sL, sK, sI, sR, sM, sE, sZ, sN, sA, sO, h2]
  · simp [pF, va_up, up2, sL, sK, sI, sR, sM, sE, sZ, sN, sA, sO, hb]
theorem pUp_47 (E : EV) (S : PS) {a : Nat} (h : sK S a = 6) (v : Int32) (b : Nat) : va_up (pF E S) a (.inr (7, [.int (sI S 42 a), .int (sI S 43 a), .int (sI S 44 a), .int (sI S 45 a), .int (sI S 46 a), .int v])) b = pF E (uI S 47 a v) b := by
  have h2 : S.2.1 a = 6 := h
  by_cases hb : b = a
  · subst hb; simp [pF, va_up, up2, sL, sK, sI, sR, sM, sE, sZ, sN, sA, sO, h2]
  · simp [pF, va_up, up2, sL, sK, sI, sR, sM, sE, sZ, sN, sA, sO, hb]
theorem pNw_6 (E : EV) (S : PS) (a b : Nat) : va_up (pF E S) a (.inr (7, [.int 0, .int 0, .int 0, .int 0, .int 0, .int 0])) b = pF E (nw S a 6) b := by by_cases hb : b = a <;> simp [pF, va_up, va_rf, nI_0, sL, sK, sI, sR, sM, sE, sZ, sN, sA, sO, hb]
theorem pUp_48 (E : EV) (S : PS) {a : Nat} (h : sK S a = 7) (v : Option Nat) (b : Nat) : va_up (pF E S) a (.inr (8, [va_rf v, va_rf (sR S 49 a), .int (sI S 50 a)])) b = pF E (uR S 48 a v) b := by
  have h2 : S.2.1 a = 7 := h
  by_cases hb : b = a
  · subst hb; simp [pF, va_up, up2, sL, sK, sI, sR, sM, sE, sZ, sN, sA, sO, h2]
  · simp [pF, va_up, up2, sL, sK, sI, sR, sM, sE, sZ, sN, sA, sO, hb]
theorem pUp_49 (E : EV) (S : PS) {a : Nat} (h : sK S a = 7) (v : Option Nat) (b : Nat) : va_up (pF E S) a (.inr (8, [va_rf (sR S 48 a), va_rf v, .int (sI S 50 a)])) b = pF E (uR S 49 a v) b := by
  have h2 : S.2.1 a = 7 := h
  by_cases hb : b = a
  · subst hb; simp [pF, va_up, up2, sL, sK, sI, sR, sM, sE, sZ, sN, sA, sO, h2]
  · simp [pF, va_up, up2, sL, sK, sI, sR, sM, sE, sZ, sN, sA, sO, hb]
theorem pUp_50 (E : EV) (S : PS) {a : Nat} (h : sK S a = 7) (v : Int32) (b : Nat) : va_up (pF E S) a (.inr (8, [va_rf (sR S 48 a), va_rf (sR S 49 a), .int v])) b = pF E (uI S 50 a v) b := by
  have h2 : S.2.1 a = 7 := h
  by_cases hb : b = a
  · subst hb; simp [pF, va_up, up2, sL, sK, sI, sR, sM, sE, sZ, sN, sA, sO, h2]
  · simp [pF, va_up, up2, sL, sK, sI, sR, sM, sE, sZ, sN, sA, sO, hb]
theorem pNw_7 (E : EV) (S : PS) (a b : Nat) : va_up (pF E S) a (.inr (8, [.null, .null, .int 0])) b = pF E (nw S a 7) b := by by_cases hb : b = a <;> simp [pF, va_up, va_rf, nI_0, sL, sK, sI, sR, sM, sE, sZ, sN, sA, sO, hb]
theorem pUp_51 (E : EV) (S : PS) {a : Nat} (h : sK S a = 8) (v : Int32) (b : Nat) : va_up (pF E S) a (.inr (0, [.int v, va_rf (sE S a), .int (nI (sZ S a))])) b = pF E (uI S 51 a v) b := by
  have h2 : S.2.1 a = 8 := h
  by_cases hb : b = a
  · subst hb; simp [pF, va_up, up2, sL, sK, sI, sR, sM, sE, sZ, sN, sA, sO, h2]
  · simp [pF, va_up, up2, sL, sK, sI, sR, sM, sE, sZ, sN, sA, sO, hb]
theorem pUp_52 (E : EV) (S : PS) {a : Nat} (h : sK S a = 8) (v : Option Nat) (b : Nat) : va_up (pF E S) a (.inr (0, [.int (sI S 51 a), va_rf v, .int (nI (sZ S a))])) b = pF E (uE S a v) b := by
  have h2 : S.2.1 a = 8 := h
  by_cases hb : b = a
  · subst hb; simp [pF, va_up, up2, sL, sK, sI, sR, sM, sE, sZ, sN, sA, sO, h2]
  · simp [pF, va_up, up2, sL, sK, sI, sR, sM, sE, sZ, sN, sA, sO, hb]
theorem pUp_53 (E : EV) (S : PS) {a : Nat} (h : sK S a = 8) (v : Nat) (b : Nat) : va_up (pF E S) a (.inr (0, [.int (sI S 51 a), va_rf (sE S a), .int (nI v)])) b = pF E (uZ S a v) b := by
  have h2 : S.2.1 a = 8 := h
  by_cases hb : b = a
  · subst hb; simp [pF, va_up, up2, sL, sK, sI, sR, sM, sE, sZ, sN, sA, sO, h2]
  · simp [pF, va_up, up2, sL, sK, sI, sR, sM, sE, sZ, sN, sA, sO, hb]
theorem pNw_8 (E : EV) (S : PS) (a b : Nat) : va_up (pF E S) a (.inr (0, [.int 0, .null, .int 0])) b = pF E (nw S a 8) b := by by_cases hb : b = a <;> simp [pF, va_up, va_rf, nI_0, sL, sK, sI, sR, sM, sE, sZ, sN, sA, sO, hb]
theorem pUp_A (E : EV) (S : PS) {a : Nat} (h : sK S a = 9) (v : Nat → Int32) (b : Nat) : va_up (pF E S) a (.inl (E.2.1, sN S a, .inl v)) b = pF E (uA S a v) b := by
  have h2 : S.2.1 a = 9 := h
  by_cases hb : b = a
  · subst hb; simp [pF, va_up, sL, sK, sI, sR, sM, sE, sZ, sN, sA, sO, h2]
  · simp [pF, va_up, sL, sK, sI, sR, sM, sE, sZ, sN, sA, sO, hb]
theorem pUp_O (E : EV) (S : PS) {a : Nat} (h : sK S a = 10) (v : Nat → Option Nat) (b : Nat) : va_up (pF E S) a (.inl (E.2.2.1, sN S a, .inr (.inr (.inr (.inr v))))) b = pF E (uO S a v) b := by
  have h2 : S.2.1 a = 10 := h
  by_cases hb : b = a
  · subst hb; simp [pF, va_up, sL, sK, sI, sR, sM, sE, sZ, sN, sA, sO, h2]
  · simp [pF, va_up, sL, sK, sI, sR, sM, sE, sZ, sN, sA, sO, hb]
theorem pNw_A (E : EV) (S : PS) (a n : Nat) (r : Nat → Int32) (b : Nat) : va_up (pF E S) a (.inl (E.2.1, n, .inl r)) b = pF E (nwA S a n r) b := by by_cases hb : b = a <;> simp [pF, va_up, sL, sK, sI, sR, sM, sE, sZ, sN, sA, sO, hb]
theorem pNw_O (E : EV) (S : PS) (a n : Nat) (r : Nat → Option Nat) (b : Nat) : va_up (pF E S) a (.inl (E.2.2.1, n, .inr (.inr (.inr (.inr r))))) b = pF E (nwO S a n r) b := by by_cases hb : b = a <;> simp [pF, va_up, sL, sK, sI, sR, sM, sE, sZ, sN, sA, sO, hb]
theorem pGet {E : EV} {S : PS} {a : Nat} (h : a ∈ sL S) : ∃ k : Nat, (pool E S)[k]? = some (a, pF E S a) := by
  have := va_pl_get (X := []) (f := pF E S) h
  simpa using this
theorem pSet {E : EV} {S S' : PS} {A : Nat → Prop} {a k : Nat} {e : va_E} (hD : va_D A (pool E S)) (hL : a ∈ sL S) (hk : (pool E S)[k]? = some (a, pF E S a)) (hL' : sL S' = sL S) (hu : ∀ b, va_up (pF E S) a e b = pF E S' b) : (pool E S).set k (a, e) = pool E S' := by
  have h := va_pl_set (X := []) (f := pF E S) (e := e) hD hL hk
  simp only [List.nil_append] at h
  show (va_pl (sL S) (pF E S)).set k (a, e) = va_pl (sL S') (pF E S')
  rw [h, hL']
  exact va_pl_congr hu
theorem pPush {E : EV} {S S' : PS} {a : Nat} {e : va_E} (ha : a ∉ sL S) (hL' : sL S' = sL S ++ [a]) (hu : ∀ b, va_up (pF E S) a e b = pF E S' b) : pool E S ++ [(a, e)] = pool E S' := by
  show va_pl (sL S) (pF E S) ++ [(a, e)] = va_pl (sL S') (pF E S')
  rw [va_pl_push ha, hL']
  exact va_pl_congr hu
