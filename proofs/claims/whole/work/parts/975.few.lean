/-! ===== few: both ways of reckoning agree ===== -/
def kf1 (fd : Int) (i : Nat) (p : Nat → Int) : Nat → Int := am_u1 p i (p i * (10 - fd) / 10 + (if i = 0 then 0 else p (i - 1) * fd / 10))
def kf2 (fd : Int) (k : Nat) (p : Nat → Int) : Nat → Int := am_it (fun j p => kf1 fd (k - 1 - j) p) k 0 p
def kfew (fd : Int) (k n : Nat) (p : Nat → Int) : Nat → Int := am_it (fun _ p => kf2 fd k p) n 0 (am_it (fun i p => m_f0 i p) k 0 p)
/-- a round, all at once -/
def cfr (fd : Int) (p : Nat → Int) (x : Nat) : Int := p x * (10 - fd) / 10 + (if x = 0 then 0 else p (x - 1) * fd / 10)
theorem kf2_c {fd : Int} {k : Nat} {p : Nat → Int} : ∀ x, x < k → kf2 fd k p x = cfr fd p x := by
  have := am_it_inv (f := fun j p => kf1 fd (k - 1 - j) p) (inv := fun j q => ∀ x, x < k → q x = if k - j ≤ x then cfr fd p x else p x) (N := k) (fun j q hj h x hx => ?_) k 0 p (by omega) (fun x hx => by rw [if_neg (by omega)])
  · intro x hx
    have e := this x hx
    rw [if_pos (by omega)] at e
    exact e
  · show kf1 fd (k - 1 - j) q x = _
    unfold kf1 am_u1
    have h1 := h (k - 1 - j) (by omega)
    rw [if_neg (by omega)] at h1
    by_cases e : x = k - 1 - j
    · rw [if_pos e, if_pos (show k - (j + 1) ≤ x by omega), h1, ← e]
      unfold cfr
      by_cases e0 : x = 0
      · rw [if_pos e0, if_pos e0]
      · have h2 := h (x - 1) (by omega)
        rw [if_neg (by omega)] at h2
        rw [if_neg e0, if_neg e0, h2]
    · rw [if_neg e, h x hx]
      by_cases e2 : k - j ≤ x
      · rw [if_pos e2, if_pos (by omega)]
      · rw [if_neg e2, if_neg (by omega)]
theorem m_f2_c {fd : Int} {k : Nat} {p : Nat → Int} : ∀ x, x < k → m_f2 fd k p x = cfr fd p x := by
  have := am_it_inv (f := fun j p => m_f1 fd (k - 1 - j) p) (inv := fun j q => ∀ x, x < k → q x = if k - j < x then cfr fd p x else if x = k - j then p x * (10 - fd) / 10 else p x) (N := k) (fun j q hj h x hx => ?_) k 0 p (by omega) (fun x hx => by rw [if_neg (by omega), if_neg (by omega)])
  · intro x hx
    have e := this x hx
    by_cases e0 : x = 0
    · rw [if_neg (by omega), if_pos (by omega)] at e
      refine e.trans ?_
      unfold cfr
      rw [if_pos e0]; omega
    · rw [if_pos (by omega)] at e
      exact e
  · show m_f1 fd (k - 1 - j) q x = _
    unfold m_f1 am_u1
    have h1 := h (k - 1 - j) (by omega)
    rw [if_neg (by omega), if_neg (by omega)] at h1
    by_cases e : x = k - 1 - j + 1
    · have hx2 := h x hx
      rw [if_neg (by omega), if_pos (by omega)] at hx2
      rw [if_pos e, if_pos (by omega), ← e, hx2, h1]
      unfold cfr
      rw [if_neg (by omega)]
      rw [show k - 1 - j = x - 1 by omega]
    · rw [if_neg e]
      by_cases e2 : x = k - 1 - j
      · rw [if_pos e2, if_neg (by omega), if_pos (by omega), h1, ← e2]
      · rw [if_neg e2, h x hx]
        by_cases e3 : k - j < x
        · rw [if_pos e3, if_pos (by omega)]
        · rw [if_neg e3, if_neg (by omega), if_neg (by omega), if_neg (by omega)]
theorem f0_at {m : Nat} {p : Nat → Int} : ∀ x, x < m → (am_it (fun i p => m_f0 i p) m 0 p) x = if x = 0 then 1000000000000 else 0 := by
  refine am_it_inv (f := fun i p => m_f0 i p) (inv := fun i p => ∀ x, x < i → p x = if x = 0 then 1000000000000 else 0) (N := m) (fun i s hi h x hx => ?_) m 0 p (by omega) (fun x hx => absurd hx (by omega))
  show m_f0 i s x = _
  unfold m_f0 am_u1
  by_cases hx2 : x = i
  · rw [if_pos hx2, hx2]
  · rw [if_neg hx2]; exact h x (by omega)
theorem cfr_eq {fd : Int} {p q : Nat → Int} {k x : Nat} (hx : x < k) (h : ∀ x, x < k → p x = q x) : cfr fd p x = cfr fd q x := by
  unfold cfr
  rw [h x hx]
  by_cases e : x = 0
  · rw [if_pos e, if_pos e]
  · rw [if_neg e, if_neg e, h (x - 1) (by omega)]
theorem few_eq {fd : Int} {k n : Nat} {p q : Nat → Int} (hk : k ≤ 20) : ∀ x, x < k → kfew fd k n p x = m_few fd k n q x := by
  refine am_it_rel (f := fun _ p => kf2 fd k p) (g := fun _ p => m_f2 fd k p) (R := fun _ s t => ∀ x, x < k → s x = t x) (N := n) (fun i s t _ h x hx => ?_) n 0 _ _ (by omega) (fun x hx => ?_)
  · exact (kf2_c x hx).trans ((cfr_eq hx h).trans (m_f2_c x hx).symm)
  · exact (f0_at x hx).trans (f0_at (m := 21) x (by omega)).symm
theorem sum_eq {k : Nat} {p q : Nat → Int} (h : ∀ x, x < k → p x = q x) : am_it (fun i v => v + p i) k 0 (0 : Int) = am_it (fun i v => v + q i) k 0 0 :=
  am_it_rel (f := fun i v => v + p i) (g := fun i v => v + q i) (R := fun _ s t => s = t) (N := k) (fun i s t hi e => by show s + p i = t + q i; rw [e, h i hi]) k 0 0 0 (by omega) rfl
/-- what holds between steps -/
def kfw (k : Nat) (p : Nat → Int) : Prop := ∀ x, x < k → 0 ≤ p x ∧ p x ≤ 1000000000000
theorem kf1_w {fd : Int} {k i : Nat} {p : Nat → Int} (hf : 0 ≤ fd ∧ fd ≤ 10) (hi : i < k) (h : kfw k p) : kfw k (kf1 fd i p) := by
  intro x hx
  have a := m_f_div (h i hi) hf
  have b := h x hx
  unfold kf1 am_u1
  by_cases e : x = i
  · rw [if_pos e]
    by_cases e0 : i = 0
    · rw [if_pos e0]; omega
    · rw [if_neg e0]
      have c := m_f_div (h (i - 1) (by omega)) hf
      omega
  · rw [if_neg e]; exact b
theorem kf2_w {fd : Int} {k : Nat} {p : Nat → Int} (hf : 0 ≤ fd ∧ fd ≤ 10) (h : kfw k p) : kfw k (kf2 fd k p) := am_it_inv (f := fun j p => kf1 fd (k - 1 - j) p) (inv := fun _ q => kfw k q) (N := k) (fun j q hj h => kf1_w hf (by omega) h) k 0 p (by omega) h
theorem kf0_w {k : Nat} {p : Nat → Int} : kfw k (am_it (fun i p => m_f0 i p) k 0 p) := fun x hx => by rw [f0_at x hx]; split <;> omega
