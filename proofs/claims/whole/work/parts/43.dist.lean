/-! ===== how far it is: five rounds are enough (pure) ===== -/
def cn (p : Nat → Bool) : Nat → Nat
  | 0 => 0
  | n + 1 => cn p n + (if p n = true then 1 else 0)
theorem cn_le {p q : Nat → Bool} : ∀ (n : Nat), (∀ x, x < n → p x = true → q x = true) → cn p n ≤ cn q n
  | 0, _ => Nat.le_refl _
  | n + 1, h => by
    have a := cn_le n (fun x hx => h x (by omega))
    have b := h n (by omega)
    show cn p n + (if p n = true then 1 else 0) ≤ cn q n + (if q n = true then 1 else 0)
    split
    · rename_i g; rw [if_pos (b g)]; omega
    · omega
theorem cn_lt {p q : Nat → Bool} : ∀ (n : Nat), (∀ x, x < n → p x = true → q x = true) → (∃ x, x < n ∧ ¬ p x = true ∧ q x = true) → cn p n < cn q n
  | 0, _, ⟨x, hx, _⟩ => absurd hx (by omega)
  | n + 1, h, ⟨x, hx, h1, h2⟩ => by
    have b := h n (by omega)
    show cn p n + (if p n = true then 1 else 0) < cn q n + (if q n = true then 1 else 0)
    by_cases e : x = n
    · subst e
      have a := cn_le x (fun y hy => h y (by omega))
      rw [if_neg h1, if_pos h2]; omega
    · have a := cn_lt n (fun y hy => h y (by omega)) ⟨x, by omega, h1, h2⟩
      split
      · rename_i g; rw [if_pos (b g)]; omega
      · omega
theorem cn_n {p : Nat → Bool} : ∀ (n : Nat), cn p n ≤ n
  | 0 => Nat.le_refl _
  | n + 1 => by
    have a := cn_n (p := p) n
    show cn p n + (if p n = true then 1 else 0) ≤ n + 1
    split <;> omega
theorem cn_full {p : Nat → Bool} : ∀ (n : Nat), n ≤ cn p n → ∀ x, x < n → p x = true
  | 0, _, x, hx => absurd hx (by omega)
  | n + 1, h, x, hx => by
    have h : n + 1 ≤ cn p n + (if p n = true then 1 else 0) := h
    have a := cn_n (p := p) n
    by_cases g : p n = true
    · rw [if_pos g] at h
      by_cases e : x = n
      · rw [e]; exact g
      · exact cn_full n (by omega) x (by omega)
    · rw [if_neg g] at h; omega
theorem cn_pos {p : Nat → Bool} {x : Nat} : ∀ (n : Nat), x < n → p x = true → 1 ≤ cn p n
  | 0, hx, _ => absurd hx (by omega)
  | n + 1, hx, h => by
    show 1 ≤ cn p n + (if p n = true then 1 else 0)
    by_cases e : x = n
    · subst e; rw [if_pos h]; omega
    · have := cn_pos n (by omega) h; omega
section DIST
variable {ρ : Nat → Int}
def hroad (ρ : Nat → Int) : Prop := ∀ j, j < 36 → 0 ≤ ρ (52 + j) ∧ ρ (52 + j) ≤ 9
theorem hroad_at (h : hroad ρ) {b o : Nat} (hb : b < 6) (ho : o < 6) : 0 ≤ ρ (52 + 6 * b + o) ∧ ρ (52 + 6 * b + o) ≤ 9 := by
  have := h (6 * b + o) (by omega)
  rw [show 52 + (6 * b + o) = 52 + 6 * b + o by omega] at this
  exact this
def Clo (ρ D : Nat → Int) : Prop := ∀ b o, b < 6 → o < 6 → D b ≤ m_cost ρ D b o
def Sup (ρ : Nat → Int) (to_ : Nat) (l : Nat → Int) : Prop := ∀ x, x < 6 → l x = 100000000 ∨ (x = to_ ∧ l x = 0) ∨ ∃ o, o < 6 ∧ 0 < ρ (52 + 6 * x + o) ∧ ρ (52 + 6 * x + o) + l o ≤ l x
theorem m_l1_dec {l : Nat → Int} {b o : Nat} : ∀ x, m_l1 ρ b o l x ≤ l x := by
  intro x
  unfold m_l1 am_u1
  split
  · rename_i h; subst h
    split <;> omega
  · omega
theorem m_l1_b {l : Nat → Int} {b o : Nat} : m_l1 ρ b o l b ≤ m_cost ρ l b o := by
  unfold m_l1 am_u1
  rw [if_pos rfl]
  split <;> omega
theorem m_l1_sup {l : Nat → Int} {b o to_ : Nat} (h1 : hroad ρ) (hb : b < 6) (ho : o < 6) (hw : m_lw l) (hs : Sup ρ to_ l) : Sup ρ to_ (m_l1 ρ b o l) := by
  intro x hx
  have hd := m_l1_dec (ρ := ρ) (l := l) (b := b) (o := o)
  by_cases hc : x = b ∧ m_cost ρ l b o < l b
  · obtain ⟨rfl, hc⟩ := hc
    have e : m_l1 ρ x o l x = m_cost ρ l x o := by unfold m_l1 am_u1; rw [if_pos rfl, if_pos hc]
    right; right
    refine ⟨o, ho, ?_⟩
    rw [e]
    have hr := hroad_at h1 hx ho
    have h2 := hw x hx
    have h3 := hd o
    unfold m_cost at hc ⊢
    split at hc
    · omega
    · rename_i q
      rw [if_neg q]
      omega
  · have e : m_l1 ρ b o l x = l x := by
      unfold m_l1 am_u1
      split
      · rename_i h
        rw [if_neg (fun z => hc ⟨h, z⟩), h]
      · rfl
    rw [e]
    rcases hs x hx with h | h | ⟨o', ho', g1, g2⟩
    · exact Or.inl h
    · exact Or.inr (Or.inl h)
    · exact Or.inr (Or.inr ⟨o', ho', g1, by have := hd o'; omega⟩)
theorem m_l1_low {l D : Nat → Int} {b o : Nat} (hb : b < 6) (ho : o < 6) (hw : m_lw l) (hD : Clo ρ D) (hl : ∀ x, x < 6 → D x ≤ l x) : ∀ x, x < 6 → D x ≤ m_l1 ρ b o l x := by
  intro x hx
  have h1 := hl x hx
  have h2 := hl o ho
  have h3 := hw o ho
  have h4 := hw b hb
  have h5 := hD b o hb ho
  unfold m_l1 am_u1
  split
  · rename_i e; subst e
    split
    · rename_i hc
      unfold m_cost at hc h5 ⊢
      split at hc
      · omega
      · rename_i q
        rw [if_neg q]
        rw [if_neg (by omega)] at h5
        omega
    · exact h1
  · exact h1
theorem am_it_add {σ : Type} {f : Nat → σ → σ} : ∀ (a b i : Nat) (s : σ), am_it f (a + b) i s = am_it f b (i + a) (am_it f a i s)
  | 0, b, i, s => by rw [Nat.zero_add]; rfl
  | a + 1, b, i, s => by
    rw [show a + 1 + b = (a + b) + 1 by omega]
    show am_it f (a + b) (i + 1) (f i s) = am_it f b (i + (a + 1)) (am_it f a (i + 1) (f i s))
    rw [am_it_add a b (i + 1) (f i s), show i + 1 + a = i + (a + 1) by omega]
theorem flat_in {σ : Type} {g : Nat → Nat → σ → σ} {b : Nat} : ∀ (k o : Nat) (s : σ), o + k ≤ 6 → am_it (fun i s => g (i / 6) (i % 6) s) k (6 * b + o) s = am_it (fun o s => g b o s) k o s
  | 0, _, _, _ => rfl
  | k + 1, o, s, h => by
    show am_it (fun i s => g (i / 6) (i % 6) s) k (6 * b + (o + 1)) (g ((6 * b + o) / 6) ((6 * b + o) % 6) s) = am_it (fun o s => g b o s) k (o + 1) (g b o s)
    rw [show (6 * b + o) / 6 = b by omega, show (6 * b + o) % 6 = o by omega]
    exact flat_in k (o + 1) _ (by omega)
theorem flat_out {σ : Type} {g : Nat → Nat → σ → σ} : ∀ (k b : Nat) (s : σ), am_it (fun i s => g (i / 6) (i % 6) s) (6 * k) (6 * b) s = am_it (fun b s => am_it (fun o s => g b o s) 6 0 s) k b s
  | 0, _, _ => rfl
  | k + 1, b, s => by
    rw [show 6 * (k + 1) = 6 + 6 * k by omega, am_it_add 6 (6 * k) (6 * b) s, show 6 * b + 6 = 6 * (b + 1) by omega]
    have e := flat_in (g := g) (b := b) 6 0 s (by omega)
    rw [show 6 * b + 0 = 6 * b by omega] at e
    rw [e]
    exact flat_out k (b + 1) _
theorem m_lr_flat {l : Nat → Int} : m_lr ρ l = am_it (fun i l => m_l1 ρ (i / 6) (i % 6) l) 36 0 l := (flat_out (g := fun b o l => m_l1 ρ b o l) 6 0 l).symm
theorem m_lr_dec {l : Nat → Int} : ∀ x, m_lr ρ l x ≤ l x := by
  rw [m_lr_flat]
  exact am_it_inv (f := fun i l => m_l1 ρ (i / 6) (i % 6) l) (inv := fun _ t => ∀ x, t x ≤ l x) (N := 36) (fun i t _ h x => Int.le_trans (m_l1_dec x) (h x)) 36 0 l rfl (fun x => Int.le_refl _)
theorem m_lr_sup {l : Nat → Int} {to_ : Nat} (h1 : hroad ρ) (hw : m_lw l) (hs : Sup ρ to_ l) : Sup ρ to_ (m_lr ρ l) := by
  rw [m_lr_flat]
  exact (am_it_inv (f := fun i l => m_l1 ρ (i / 6) (i % 6) l) (inv := fun _ t => m_lw t ∧ Sup ρ to_ t) (N := 36) (fun i t hi h => ⟨m_l1_w (by omega) (by omega) h1 h.1, m_l1_sup h1 (by omega) (by omega) h.1 h.2⟩) 36 0 l rfl ⟨hw, hs⟩).2
theorem m_lr_low {l D : Nat → Int} (h1 : hroad ρ) (hw : m_lw l) (hD : Clo ρ D) (hl : ∀ x, x < 6 → D x ≤ l x) : ∀ x, x < 6 → D x ≤ m_lr ρ l x := by
  rw [m_lr_flat]
  exact (am_it_inv (f := fun i l => m_l1 ρ (i / 6) (i % 6) l) (inv := fun _ t => m_lw t ∧ ∀ x, x < 6 → D x ≤ t x) (N := 36) (fun i t hi h => ⟨m_l1_w (by omega) (by omega) h1 h.1, m_l1_low (by omega) (by omega) h.1 hD h.2⟩) 36 0 l rfl ⟨hw, hl⟩).2
/-- what stands already carries on -/
theorem m_lr_prog {l D : Nat → Int} (h1 : hroad ρ) (hw : m_lw l) (hD : Clo ρ D) (hl : ∀ x, x < 6 → D x ≤ l x) {b o : Nat} (hb : b < 6) (ho : o < 6) (hr : 0 < ρ (52 + 6 * b + o)) (he : l o = D o) (hf : D o < 100000000) : m_lr ρ l b ≤ ρ (52 + 6 * b + o) + D o := by
  rw [m_lr_flat]
  refine (am_it_inv (f := fun i l => m_l1 ρ (i / 6) (i % 6) l) (inv := fun i t => m_lw t ∧ (∀ x, x < 6 → D x ≤ t x) ∧ (∀ x, t x ≤ l x) ∧ (6 * b + o < i → t b ≤ ρ (52 + 6 * b + o) + D o)) (N := 36) (fun i t hi h => ?_) 36 0 l rfl ⟨hw, hl, fun x => Int.le_refl _, fun z => absurd z (by omega)⟩).2.2.2 (by omega)
  obtain ⟨g1, g2, g3, g4⟩ := h
  refine ⟨m_l1_w (by omega) (by omega) h1 g1, m_l1_low (by omega) (by omega) g1 hD g2, fun x => Int.le_trans (m_l1_dec x) (g3 x), fun hi2 => ?_⟩
  by_cases e : 6 * b + o = i
  · have e1 : i / 6 = b := by omega
    have e2 : i % 6 = o := by omega
    show m_l1 ρ (i / 6) (i % 6) t b ≤ _
    rw [e1, e2]
    refine Int.le_trans m_l1_b ?_
    have a := g2 o ho
    have c := g3 o
    unfold m_cost
    rw [if_neg (by omega)]
    omega
  · exact Int.le_trans (m_l1_dec b) (g4 (by omega))
/-- a round that changes nothing: closed -/
theorem m_lr_fix {l : Nat → Int} (h : ∀ x, x < 6 → m_lr ρ l x = l x) : Clo ρ l := by
  have key := am_it_inv (f := fun i l => m_l1 ρ (i / 6) (i % 6) l) (inv := fun i t => (∀ x, t x ≤ l x) ∧ ((∃ x, x < 6 ∧ t x < l x) ∨ ((∀ x, x < 6 → t x = l x) ∧ ∀ j, j < i → l (j / 6) ≤ m_cost ρ l (j / 6) (j % 6)))) (N := 36) (fun i t hi h => by
    obtain ⟨g1, g2⟩ := h
    refine ⟨fun x => Int.le_trans (m_l1_dec x) (g1 x), ?_⟩
    rcases g2 with ⟨x, hx, g⟩ | ⟨g, gj⟩
    · exact Or.inl ⟨x, hx, Int.lt_of_le_of_lt (m_l1_dec x) g⟩
    · have eb := g (i / 6) (by omega)
      have eo := g (i % 6) (by omega)
      have ec : m_cost ρ t (i / 6) (i % 6) = m_cost ρ l (i / 6) (i % 6) := by unfold m_cost; rw [eo]
      by_cases hc : m_cost ρ l (i / 6) (i % 6) < l (i / 6)
      · left
        refine ⟨i / 6, by omega, ?_⟩
        show m_l1 ρ (i / 6) (i % 6) t (i / 6) < _
        exact Int.lt_of_le_of_lt m_l1_b (by rw [ec]; exact hc)
      · right
        refine ⟨fun x hx => ?_, fun j hj => ?_⟩
        · show m_l1 ρ (i / 6) (i % 6) t x = l x
          unfold m_l1 am_u1
          split
          · rename_i e
            rw [e, if_neg (by rw [ec, eb]; exact hc), eb]
          · exact g x hx
        · by_cases e : j = i
          · subst e; omega
          · exact gj j (by omega)) 36 0 l rfl ⟨fun x => Int.le_refl _, Or.inr ⟨fun _ _ => rfl, fun j hj => absurd hj (by omega)⟩⟩
  rw [← m_lr_flat] at key
  rcases key.2 with ⟨x, hx, g⟩ | ⟨_, gj⟩
  · have := h x hx; omega
  · intro b o hb ho
    have := gj (6 * b + o) (by omega)
    rw [show (6 * b + o) / 6 = b by omega, show (6 * b + o) % 6 = o by omega] at this
    exact this
def lrn (ρ : Nat → Int) (k : Nat) (l : Nat → Int) : Nat → Int := am_it (fun _ l => m_lr ρ l) k 0 l
theorem lrn_succ {k : Nat} {l : Nat → Int} : lrn ρ (k + 1) l = m_lr ρ (lrn ρ k l) := am_it_succ (fun _ l => m_lr ρ l) k 0 l
theorem am_it_c {σ : Type} {f : σ → σ} : ∀ (k i j : Nat) (s : σ), am_it (fun _ s => f s) k i s = am_it (fun _ s => f s) k j s
  | 0, _, _, _ => rfl
  | k + 1, i, j, s => am_it_c k (i + 1) (j + 1) (f s)
theorem lrn_first {k : Nat} {l : Nat → Int} : lrn ρ (k + 1) l = lrn ρ k (m_lr ρ l) := am_it_c k 1 0 (m_lr ρ l)
def s6 (l : Nat → Int) : Int := l 0 + l 1 + l 2 + l 3 + l 4 + l 5
theorem lrn_stable (h1 : hroad ρ) : ∀ (n : Nat) (l : Nat → Int), m_lw l → s6 l ≤ (n : Int) → ∃ K, ∀ x, x < 6 → m_lr ρ (lrn ρ K l) x = lrn ρ K l x
  | 0, l, hw, hs => by
    refine ⟨0, fun x hx => ?_⟩
    show m_lr ρ l x = l x
    have a := m_lr_dec (ρ := ρ) (l := l) x
    have b := m_lr_w h1 hw x hx
    have z0 := hw 0 (by omega)
    have z1 := hw 1 (by omega)
    have z2 := hw 2 (by omega)
    have z3 := hw 3 (by omega)
    have z4 := hw 4 (by omega)
    have z5 := hw 5 (by omega)
    unfold s6 at hs
    have : x = 0 ∨ x = 1 ∨ x = 2 ∨ x = 3 ∨ x = 4 ∨ x = 5 := by omega
    rcases this with rfl | rfl | rfl | rfl | rfl | rfl <;> omega
  | n + 1, l, hw, hs => by
    by_cases hc : ∀ x, x < 6 → m_lr ρ l x = l x
    · exact ⟨0, hc⟩
    · have hex : ∃ x, x < 6 ∧ ¬ m_lr ρ l x = l x := by
        apply Classical.byContradiction
        intro q
        apply hc
        intro x hx
        apply Classical.byContradiction
        intro g
        exact q ⟨x, hx, g⟩
      obtain ⟨x, hx, g⟩ := hex
      have hlt : s6 (m_lr ρ l) < s6 l := by
        have a0 := m_lr_dec (ρ := ρ) (l := l) 0
        have a1 := m_lr_dec (ρ := ρ) (l := l) 1
        have a2 := m_lr_dec (ρ := ρ) (l := l) 2
        have a3 := m_lr_dec (ρ := ρ) (l := l) 3
        have a4 := m_lr_dec (ρ := ρ) (l := l) 4
        have a5 := m_lr_dec (ρ := ρ) (l := l) 5
        unfold s6
        have : x = 0 ∨ x = 1 ∨ x = 2 ∨ x = 3 ∨ x = 4 ∨ x = 5 := by omega
        rcases this with rfl | rfl | rfl | rfl | rfl | rfl <;> omega
      obtain ⟨K, hK⟩ := lrn_stable h1 n (m_lr ρ l) (m_lr_w h1 hw) (by omega)
      refine ⟨K + 1, fun x hx => ?_⟩
      rw [lrn_first]
      exact hK x hx
theorem lrn_w (h1 : hroad ρ) {l : Nat → Int} (hw : m_lw l) : ∀ k, m_lw (lrn ρ k l)
  | 0 => hw
  | k + 1 => by rw [lrn_succ]; exact m_lr_w h1 (lrn_w h1 hw k)
theorem lrn_sup (h1 : hroad ρ) {l : Nat → Int} {to_ : Nat} (hw : m_lw l) (hs : Sup ρ to_ l) : ∀ k, Sup ρ to_ (lrn ρ k l)
  | 0 => hs
  | k + 1 => by rw [lrn_succ]; exact m_lr_sup h1 (lrn_w h1 hw k) (lrn_sup h1 hw hs k)
theorem lrn_dec {l : Nat → Int} : ∀ k x, lrn ρ k l x ≤ l x
  | 0, x => Int.le_refl _
  | k + 1, x => by rw [lrn_succ]; exact Int.le_trans (m_lr_dec x) (lrn_dec k x)
theorem lrn_low (h1 : hroad ρ) {l D : Nat → Int} (hw : m_lw l) (hD : Clo ρ D) (hl : ∀ x, x < 6 → D x ≤ l x) : ∀ k x, x < 6 → D x ≤ lrn ρ k l x
  | 0, x, hx => hl x hx
  | k + 1, x, hx => by rw [lrn_succ]; exact m_lr_low h1 (lrn_w h1 hw k) hD (fun x hx => lrn_low h1 hw hD hl k x hx) x hx
theorem min_ex {l D : Nat → Int} (h0 : ∀ x, x < 6 → 0 ≤ D x) : ∀ (n x : Nat), x < 6 → ¬ l x = D x → D x ≤ (n : Int) → ∃ y, y < 6 ∧ ¬ l y = D y ∧ ∀ z, z < 6 → ¬ l z = D z → D y ≤ D z
  | 0, x, hx, h, hn => ⟨x, hx, h, fun z hz _ => by have := h0 z hz; omega⟩
  | n + 1, x, hx, h, hn => by
    by_cases hc : ∃ z, z < 6 ∧ ¬ l z = D z ∧ D z < D x
    · obtain ⟨z, hz, g1, g2⟩ := hc
      exact min_ex h0 n z hz g1 (by omega)
    · refine ⟨x, hx, h, fun z hz g => ?_⟩
      apply Classical.byContradiction
      intro q
      exact hc ⟨z, hz, g, by omega⟩
def stl (l D : Nat → Int) (x : Nat) : Bool := decide (l x = D x)
theorem settle_more (h1 : hroad ρ) {l D : Nat → Int} {to_ : Nat} (ht : to_ < 6) (hw : m_lw l) (hwD : m_lw D) (hD : Clo ρ D) (hS : Sup ρ to_ D) (hl : ∀ x, x < 6 → D x ≤ l x) (h0 : l to_ = 0) (hn : ¬ ∀ x, x < 6 → l x = D x) : cn (stl l D) 6 < cn (stl (m_lr ρ l) D) 6 := by
  have lo := m_lr_low h1 hw hD hl
  have de := m_lr_dec (ρ := ρ) (l := l)
  refine cn_lt 6 (fun x hx h => ?_) ?_
  · have := of_decide_eq_true h
    have a := lo x hx
    have b := de x
    exact decide_eq_true (by omega)
  · have hex : ∃ x, x < 6 ∧ ¬ l x = D x := by
      apply Classical.byContradiction
      intro q
      apply hn
      intro x hx
      apply Classical.byContradiction
      intro g
      exact q ⟨x, hx, g⟩
    obtain ⟨x0, hx0, g0⟩ := hex
    obtain ⟨x, hx, g, hm⟩ := min_ex (l := l) (D := D) (fun x hx => (hwD x hx).1) (D x0).toNat x0 hx0 g0 (by have := (hwD x0 hx0).1; omega)
    refine ⟨x, hx, fun z => g (of_decide_eq_true z), ?_⟩
    have a := hl x hx
    have b := hw x hx
    rcases hS x hx with h | ⟨h, h2⟩ | ⟨o, ho, r1, r2⟩
    · omega
    · subst h; omega
    · have hDo : D o < D x := by omega
      have hso : l o = D o := by
        apply Classical.byContradiction
        intro q
        have := hm o ho q
        omega
      have p := m_lr_prog h1 hw hD hl hx ho r1 hso (by omega)
      have q := lo x hx
      exact decide_eq_true (by omega)
theorem lrn_5 (h1 : hroad ρ) {l : Nat → Int} {to_ : Nat} (ht : to_ < 6) (hw : m_lw l) (hs : Sup ρ to_ l) (h0 : l to_ = 0) : ∀ x, x < 6 → m_lr ρ (lrn ρ 5 l) x = lrn ρ 5 l x := by
  have hb : ∀ k, (lrn ρ k l) to_ = 0 := by
    intro k
    have a := (lrn_w h1 hw k to_ ht).1
    have b := lrn_dec (ρ := ρ) (l := l) k to_
    omega
  obtain ⟨K, hK⟩ := lrn_stable h1 (s6 l).toNat l hw (by omega)
  have hD := m_lr_fix hK
  have hwD := lrn_w h1 hw K
  have hSD := lrn_sup h1 hw hs K
  have hlD := lrn_dec (ρ := ρ) (l := l) K
  have lo := lrn_low h1 hw hD (fun x _ => hlD x)
  have key : ∀ k, (∀ x, x < 6 → lrn ρ k l x = lrn ρ K l x) ∨ k + 1 ≤ cn (stl (lrn ρ k l) (lrn ρ K l)) 6 := by
    intro k
    induction k with
    | zero =>
      right
      exact cn_pos 6 ht (decide_eq_true ((hb 0).trans (hb K).symm))
    | succ k ih =>
      by_cases hc : ∀ x, x < 6 → lrn ρ k l x = lrn ρ K l x
      · left
        intro x hx
        have a := lo (k + 1) x hx
        rw [lrn_succ] at a ⊢
        have b := m_lr_dec (ρ := ρ) (l := lrn ρ k l) x
        have e := hc x hx
        omega
      · rcases ih with ih | ih
        · exact absurd ih hc
        · right
          have := settle_more h1 ht (lrn_w h1 hw k) hwD hD hSD (lo k) (hb k) hc
          rw [lrn_succ]
          omega
  have h5 : ∀ x, x < 6 → lrn ρ 5 l x = lrn ρ K l x := by
    rcases key 5 with h | h
    · exact h
    · intro x hx
      exact of_decide_eq_true (cn_full 6 h x hx)
  intro x hx
  have a := lo 6 x hx
  rw [lrn_succ] at a
  have b := m_lr_dec (ρ := ρ) (l := lrn ρ 5 l) x
  have e := h5 x hx
  omega
end DIST
