/-! no clash that was not there: as bits; a turn's small sums -/
section MTS
variable {E : EV} {K : Nat → Nat} {S T u : PS} {N N2 wa q : Nat}
theorem shl_or (a b c : Int32) : (a ||| b) <<< c = (a <<< c) ||| (b <<< c) := by
  first | exact Int32.shiftLeft_or | exact Int32.or_shiftLeft ..
theorem sub_or {n m a b : Int32} (h : n ||| m = m) (g : a ||| b = b) (c : Int32) : (n ||| (a <<< c)) ||| (m ||| (b <<< c)) = m ||| (b <<< c) := by
  have e : (a <<< c) ||| (b <<< c) = b <<< c := by rw [← shl_or, g]
  rw [Int32.or_assoc, ← Int32.or_assoc (a <<< c) m, Int32.or_comm (a <<< c) m, Int32.or_assoc m, e, ← Int32.or_assoc, h]
theorem met_lp {K : Nat → Nat} {S u : PS} (hs : ∀ k, k < sZ S (K 13) → m_ofCrane K u k 13 ||| m_ofCrane K S k 13 = m_ofCrane K S k 13) : ∀ (r j : Nat) (n m : Int32), j + r ≤ sZ S (K 13) → n ||| m = m → m_met_lp K u r j n ||| m_met_lp K S r j m = m_met_lp K S r j m
  | 0, j, n, m, _, h => h
  | r + 1, j, n, m, hj, h => by
    simp only [m_met_lp]
    exact met_lp hs r (j + 1) _ _ (by omega) (sub_or h (hs j (by omega)) _)
theorem met_sub (h : IV E K S N) (hu : IV E K u N2) (nc : NC K S u) : m_met K u ||| m_met K S = m_met K S := by
  unfold m_met
  rw [nc.1]
  refine met_lp (fun k hk => ?_) _ 0 0 0 (by omega) (by decide)
  rw [w_13, w_13, clashesOf_or, clashesOf_or, nc.1]
  refine orlp_sub h.n4 (fun i hi hp => ?_)
  rw [cb_at hu (by rw [nc.1]; exact hk) (by rw [nc.1]; exact hi)] at hp
  rw [cb_at h hk hi]
  simp only [Bool.and_eq_true, Bool.not_eq_true', decide_eq_true_eq, decide_eq_false_iff_not, bne_iff_ne, ne_eq] at hp ⊢
  exact ⟨hp.1, nc.2 k i hk hi (fun e => hp.1 e.symm) hp.2⟩
theorem rem16 {j : Nat} (hj : j < 70) : nI j - nI j / 16 * 16 = nI (j % 16) := by
  have : ∀ j : Fin 70, nI j.1 - nI j.1 / 16 * 16 = nI (j.1 % 16) := by decide +kernel
  exact this ⟨j, hj⟩
theorem sub_add {a b r t u2 w : Int32} (h1 : t = w + r) (h2 : u2 = w) : a = u2 + (r + (a - t)) := by
  subst h2 h1
  rw [show u2 + (r + (a - (u2 + r))) = (u2 + r) + (a - (u2 + r)) from (Int32.add_assoc _ _ _).symm, Int32.add_comm, Int32.sub_add_cancel]
theorem sub_keep {a b t w r : Int32} (h1 : t = w + r) (h2 : a - b = t - w) : a = b + r := by
  have e : t - w = r := by rw [h1, Int32.add_comm, Int32.add_sub_cancel]
  rw [e] at h2
  rw [← h2, Int32.add_comm, Int32.sub_add_cancel]
end MTS
