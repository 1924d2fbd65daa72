/-! ===== loops whose heap is only described; the first of some ===== -/
theorem ex_forR {σ : Type} {K : Nat → List am_V → am_H → Option am_O} {B : Nat → List am_I} {b : Nat} {Q : am_O → Prop} {G : am_G} {P : Nat → Nat → Option Nat} {L : am_L} (N : Nat) (f : Nat → σ → σ) (inv : Nat → σ → (Nat → Nat → Int) → Prop) (Lf : Nat → σ → (Nat → Option am_V) → am_L)
    (hs : ∀ i s e J, i < N → inv i s J → (∀ s' e' J', s' = f i s → inv (i + 1) s' J' → am_ex K B (B b) (Lf (i + 1) s' e') [] (G, J', P) Q) → am_ex K B (B b) (Lf i s e) [] (G, J, P) Q) : ∀ (k i : Nat) (s : σ) (e : Nat → Option am_V) (J : Nat → Nat → Int), i + k = N → inv i s J → L = Lf i s e → (∀ s' e' J', s' = am_it f k i s → inv N s' J' → am_ex K B (B b) (Lf N s' e') [] (G, J', P) Q) → am_ex K B (B b) L [] (G, J, P) Q := by
  have main : ∀ (k i : Nat) (s : σ) (e : Nat → Option am_V) (J : Nat → Nat → Int), i + k = N → inv i s J → (∀ s' e' J', s' = am_it f k i s → inv N s' J' → am_ex K B (B b) (Lf N s' e') [] (G, J', P) Q) → am_ex K B (B b) (Lf i s e) [] (G, J, P) Q := by
    intro k
    induction k with
    | zero =>
      intro i s e J g h z
      have : i = N := by omega
      subst this; exact z s e J rfl h
    | succ k ih =>
      intro i s e J g h z
      refine hs i s e J (by omega) h (fun s' e' J' hs' h' => ?_)
      subst hs'
      exact ih (i + 1) (f i s) e' J' (by omega) h' z
  intro k i s e J g h hL z
  subst hL
  exact main k i s e J g h z
def fnd (p : Nat → Bool) : Nat → Nat → Nat
  | 0, i => i
  | k + 1, i => if p i = true then i else fnd p k (i + 1)
theorem fnd_at (p : Nat → Bool) : ∀ (k i j : Nat), i ≤ j → j < i + k → (∀ x, i ≤ x → x < j → ¬ p x = true) → p j = true → fnd p k i = j
  | 0, i, j, h1, h2, h3, h4 => by omega
  | k + 1, i, j, h1, h2, h3, h4 => by
    unfold fnd
    by_cases h : i = j
    · subst h; rw [if_pos h4]
    · rw [if_neg (h3 i (Nat.le_refl _) (by omega))]
      exact fnd_at p k (i + 1) j (by omega) (by omega) (fun x a b => h3 x (by omega) b) h4
theorem fnd_no (p : Nat → Bool) : ∀ (k i : Nat), (∀ x, i ≤ x → x < i + k → ¬ p x = true) → fnd p k i = i + k
  | 0, i, h => rfl
  | k + 1, i, h => by
    unfold fnd
    rw [if_neg (h i (Nat.le_refl _) (by omega)), fnd_no p k (i + 1) (fun x a b => h x (by omega) (by omega))]
    omega
theorem fnd_le (p : Nat → Bool) : ∀ (k i : Nat), fnd p k i ≤ i + k
  | 0, i => Nat.le_refl _
  | k + 1, i => by
    unfold fnd
    split
    · omega
    · have := fnd_le p k (i + 1); omega
