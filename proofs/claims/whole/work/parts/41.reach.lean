/-! ===== boxes one comes to: six rounds and five come to the same ===== -/
theorem rcl_pc : ∀ s, s < 64 → ∀ t, t < 64 → s &&& t = s → ¬ s = t → m_ones s < m_ones t := by decide +kernel
theorem rcl_full : ∀ t, t < 64 → 6 ≤ m_ones t → t = 63 := by decide +kernel
theorem rcl_63 : ∀ o, o < 6 → Nat.testBit 63 o = true := by decide +kernel
theorem rcl_one : ∀ o, o < 6 → 1 ≤ m_ones (2 ^ o) := by decide +kernel
theorem rcl_s0 : ∀ fr, fr < 6 → ∀ al, al < 64 → al &&& 2 ^ fr = m_c0 fr al := by decide +kernel
def Ed (ρ : Nat → Int) (al b o : Nat) : Prop := b < 6 ∧ o < 6 ∧ al.testBit o = true ∧ 0 < ρ (52 + 6 * b + o)
def sub (s t : Nat) : Prop := ∀ x, s.testBit x = true → t.testBit x = true
theorem sub_refl {s : Nat} : sub s s := fun _ h => h
theorem sub_trans {s t u : Nat} (h : sub s t) (h2 : sub t u) : sub s u := fun x hx => h2 x (h x hx)
theorem sub_anti {s t : Nat} (h : sub s t) (h2 : sub t s) : s = t := by
  apply Nat.eq_of_testBit_eq
  intro i
  have a := h i
  have b := h2 i
  cases hs : s.testBit i <;> cases ht : t.testBit i
  · rfl
  · rw [b ht] at hs; cases hs
  · rw [a hs] at ht; cases ht
  · rfl
theorem sub_and {s t : Nat} (h : sub s t) : s &&& t = s := by
  apply Nat.eq_of_testBit_eq
  intro i
  rw [Nat.testBit_and]
  cases hs : s.testBit i
  · rfl
  · rw [h i hs]; rfl
def Cld (ρ : Nat → Int) (al s : Nat) : Prop := ∀ b o, Ed ρ al b o → s.testBit b = true → s.testBit o = true
/-- a round: it takes nothing away, adds nothing that isn't joined, adds all that are next to -/
def Rnd (ρ : Nat → Int) (al : Nat) (r : Nat → Nat) : Prop := (∀ s, s < 64 → r s < 64 ∧ sub s (r s)) ∧ (∀ s X, s < 64 → Cld ρ al X → sub s X → sub (r s) X) ∧ (∀ s b o, s < 64 → Ed ρ al b o → s.testBit b = true → (r s).testBit o = true)
theorem rnd_it {ρ : Nat → Int} {al : Nat} {r : Nat → Nat} (hr : Rnd ρ al r) : ∀ (k i s : Nat), s < 64 → am_it (fun _ s => r s) k i s < 64 ∧ sub s (am_it (fun _ s => r s) k i s) ∧ (∀ X, Cld ρ al X → sub s X → sub (am_it (fun _ s => r s) k i s) X) ∧ (Cld ρ al (am_it (fun _ s => r s) k i s) ∨ m_ones s + (k : Int) ≤ m_ones (am_it (fun _ s => r s) k i s))
  | 0, i, s, hs => ⟨hs, sub_refl, fun _ _ h => h, Or.inr (by show m_ones s + ((0 : Nat) : Int) ≤ m_ones s; omega)⟩
  | k + 1, i, s, hs => by
    obtain ⟨h1, h2⟩ := hr.1 s hs
    obtain ⟨a1, a2, a3, a4⟩ := rnd_it hr k (i + 1) (r s) h1
    show am_it (fun _ s => r s) k (i + 1) (r s) < 64 ∧ sub s (am_it (fun _ s => r s) k (i + 1) (r s)) ∧ (∀ X, Cld ρ al X → sub s X → sub (am_it (fun _ s => r s) k (i + 1) (r s)) X) ∧ (Cld ρ al (am_it (fun _ s => r s) k (i + 1) (r s)) ∨ m_ones s + ((k + 1 : Nat) : Int) ≤ m_ones (am_it (fun _ s => r s) k (i + 1) (r s)))
    have b2 := sub_trans h2 a2
    have b3 : ∀ X, Cld ρ al X → sub s X → sub (am_it (fun _ s => r s) k (i + 1) (r s)) X := fun X hX hx => a3 X hX (hr.2.1 s X hs hX hx)
    refine ⟨a1, b2, b3, ?_⟩
    by_cases hc : Cld ρ al s
    · left
      have e := sub_anti (b3 s hc sub_refl) b2
      rw [e]; exact hc
    · rcases a4 with a4 | a4
      · exact Or.inl a4
      · right
        have hne : ¬ s = r s := by
          intro e
          apply hc
          intro b o he hb
          rw [e]
          exact hr.2.2 s b o hs he hb
        have := rcl_pc s hs (r s) h1 (sub_and h2) hne
        omega
theorem rnd_cl {ρ : Nat → Int} {al : Nat} {r : Nat → Nat} (hr : Rnd ρ al r) {s k i : Nat} (hs : s < 64) (hk : 5 ≤ k) (h0 : s = 0 ∨ 1 ≤ m_ones s) : Cld ρ al (am_it (fun _ s => r s) k i s) := by
  obtain ⟨a1, a2, a3, a4⟩ := rnd_it hr k i s hs
  rcases a4 with a4 | a4
  · exact a4
  · rcases h0 with h0 | h0
    · have hc : Cld ρ al s := by
        intro b o _ hb
        rw [h0, Nat.zero_testBit] at hb
        cases hb
      rw [sub_anti (a3 s hc sub_refl) a2]; exact hc
    · have := rcl_full _ a1 (by omega)
      rw [this]
      intro b o he _
      exact rcl_63 o he.2.1
theorem rnd_eq {ρ : Nat → Int} {al : Nat} {r r' : Nat → Nat} (hr : Rnd ρ al r) (hr' : Rnd ρ al r') {s k i k' i' : Nat} (hs : s < 64) (hk : 5 ≤ k) (hk' : 5 ≤ k') (h0 : s = 0 ∨ 1 ≤ m_ones s) : am_it (fun _ s => r s) k i s = am_it (fun _ s => r' s) k' i' s := by
  have c1 := rnd_cl hr hs hk h0 (i := i)
  have c2 := rnd_cl hr' hs hk' h0 (i := i')
  obtain ⟨a1, a2, a3, -⟩ := rnd_it hr k i s hs
  obtain ⟨b1, b2, b3, -⟩ := rnd_it hr' k' i' s hs
  exact sub_anti (a3 _ c2 b2) (b3 _ c1 a2)
theorem tb_or_pow {s o x : Nat} : (s ||| 2 ^ o).testBit x = true ↔ s.testBit x = true ∨ x = o := by
  rw [Nat.testBit_or, Nat.testBit_two_pow]
  constructor
  · intro h
    cases hs : s.testBit x
    · rw [hs] at h
      right
      have : decide (o = x) = true := h
      exact (of_decide_eq_true this).symm
    · exact Or.inl rfl
  · rintro (h | h)
    · rw [h]; rfl
    · subst h; rw [decide_eq_true rfl, Bool.or_true]
theorem m_cb_r {ρ : Nat → Int} {al b s : Nat} (hb : b < 6) (hs : s < 64) : m_cb ρ al b s < 64 ∧ sub s (m_cb ρ al b s) ∧ (∀ X, Cld ρ al X → sub s X → sub (m_cb ρ al b s) X) ∧ (s.testBit b = true → ∀ o, Ed ρ al b o → (m_cb ρ al b s).testBit o = true) := by
  have key : ∀ t, t < 64 ∧ sub s t ∧ (∀ X, Cld ρ al X → sub s X → sub t X) ∧ (s.testBit b = true → ∀ o, o < 6 → Ed ρ al b o → t.testBit o = true) → t < 64 ∧ sub s t ∧ (∀ X, Cld ρ al X → sub s X → sub t X) ∧ (s.testBit b = true → ∀ o, Ed ρ al b o → t.testBit o = true) := fun t h => ⟨h.1, h.2.1, h.2.2.1, fun hb o he => h.2.2.2 hb o he.2.1 he⟩
  refine key _ (am_it_inv (f := fun o s => m_cs ρ al b o s) (inv := fun i t => t < 64 ∧ sub s t ∧ (∀ X, Cld ρ al X → sub s X → sub t X) ∧ (s.testBit b = true → ∀ o, o < i → Ed ρ al b o → t.testBit o = true)) (N := 6) (fun i t hi h => ?_) 6 0 s rfl ⟨hs, sub_refl, fun _ _ h => h, fun _ o ho => absurd ho (by omega)⟩)
  obtain ⟨h1, h2, h3, h4⟩ := h
  show m_cs ρ al b i t < 64 ∧ sub s (m_cs ρ al b i t) ∧ (∀ X, Cld ρ al X → sub s X → sub (m_cs ρ al b i t) X) ∧ (s.testBit b = true → ∀ o, o < i + 1 → Ed ρ al b o → (m_cs ρ al b i t).testBit o = true)
  refine ⟨m_cs_lt hi h1, ?_⟩
  unfold m_cs
  split
  · rename_i hc
    refine ⟨fun x hx => tb_or_pow.mpr (Or.inl (h2 x hx)), fun X hX hx x hxx => ?_, fun hsb o ho he => ?_⟩
    · rcases tb_or_pow.mp hxx with g | g
      · exact h3 X hX hx x g
      · subst g
        exact hX b x ⟨hb, hi, hc.2.1, hc.2.2⟩ (h3 X hX hx b hc.1)
    · by_cases hoi : o = i
      · exact tb_or_pow.mpr (Or.inr hoi)
      · exact tb_or_pow.mpr (Or.inl (h4 hsb o (by omega) he))
  · rename_i hc
    refine ⟨h2, h3, fun hsb o ho he => ?_⟩
    by_cases hoi : o = i
    · subst hoi
      exact absurd ⟨h2 b hsb, he.2.2.1, he.2.2.2⟩ hc
    · exact h4 hsb o (by omega) he
/-- rounds by boxes: what each box adds -/
theorem rnd_of {ρ : Nat → Int} {al : Nat} {g : Nat → Nat → Nat} (hg : ∀ b s, b < 6 → s < 64 → g b s < 64 ∧ sub s (g b s) ∧ (∀ X, Cld ρ al X → sub s X → sub (g b s) X) ∧ (s.testBit b = true → ∀ o, Ed ρ al b o → (g b s).testBit o = true)) : Rnd ρ al (fun s => am_it (fun b s => g b s) 6 0 s) := by
  have key : ∀ s, s < 64 → (am_it (fun b s => g b s) 6 0 s < 64 ∧ sub s (am_it (fun b s => g b s) 6 0 s) ∧ (∀ X, Cld ρ al X → sub s X → sub (am_it (fun b s => g b s) 6 0 s) X) ∧ (∀ b, b < 6 → s.testBit b = true → ∀ o, Ed ρ al b o → (am_it (fun b s => g b s) 6 0 s).testBit o = true)) := by
    intro s hs
    refine am_it_inv (f := fun b s => g b s) (inv := fun i t => t < 64 ∧ sub s t ∧ (∀ X, Cld ρ al X → sub s X → sub t X) ∧ (∀ b, b < i → s.testBit b = true → ∀ o, Ed ρ al b o → t.testBit o = true)) (N := 6) (fun i t hi h => ?_) 6 0 s rfl ⟨hs, sub_refl, fun _ _ h => h, fun b hb => absurd hb (by omega)⟩
    obtain ⟨h1, h2, h3, h4⟩ := h
    obtain ⟨g1, g2, g3, g4⟩ := hg i t hi h1
    refine ⟨g1, sub_trans h2 g2, fun X hX hx => g3 X hX (h3 X hX hx), fun b hb hsb o he => ?_⟩
    by_cases hbi : b = i
    · subst hbi; exact g4 (h2 b hsb) o he
    · exact g2 o (h4 b (by omega) hsb o he)
  exact ⟨fun s hs => ⟨(key s hs).1, (key s hs).2.1⟩, fun s X hs hX hx => (key s hs).2.2.1 X hX hx, fun s b o hs he hb => (key s hs).2.2.2 b he.1 hb o he⟩
theorem nr_tb {ρ : Nat → Int} {b x : Nat} : (nr ρ b).testBit x = true ↔ x < 6 ∧ 0 < ρ (52 + 6 * b + x) := by
  have h := am_it_inv (f := fun o s => if 0 < ρ (52 + 6 * b + o) then s ||| 2 ^ o else s) (inv := fun i t => ∀ x, t.testBit x = true ↔ x < i ∧ 0 < ρ (52 + 6 * b + x)) (N := 6) (fun i t hi h => by
    intro x
    show (if 0 < ρ (52 + 6 * b + i) then t ||| 2 ^ i else t).testBit x = true ↔ _
    split
    · rename_i hc
      rw [tb_or_pow, h x]
      constructor
      · rintro (g | g)
        · exact ⟨by omega, g.2⟩
        · subst g; exact ⟨by omega, hc⟩
      · intro g
        by_cases hx : x = i
        · exact Or.inr hx
        · exact Or.inl ⟨by omega, g.2⟩
    · rename_i hc
      rw [h x]
      constructor
      · intro g; exact ⟨by omega, g.2⟩
      · intro g
        by_cases hx : x = i
        · subst hx; exact absurd g.2 hc
        · exact ⟨by omega, g.2⟩) 6 0 0 rfl (by
    intro x
    rw [Nat.zero_testBit]
    constructor
    · intro g; cases g
    · intro g; exact absurd g.1 (by omega))
  exact h x
theorem k_r1_r {ρ : Nat → Int} {al b s : Nat} (hb : b < 6) (hs : s < 64) : k_r1 ρ al b s < 64 ∧ sub s (k_r1 ρ al b s) ∧ (∀ X, Cld ρ al X → sub s X → sub (k_r1 ρ al b s) X) ∧ (s.testBit b = true → ∀ o, Ed ρ al b o → (k_r1 ρ al b s).testBit o = true) := by
  refine ⟨k_r1_lt hs, ?_⟩
  unfold k_r1
  split
  · rename_i hc
    have e : ∀ x, (s ||| (nr ρ b &&& al)).testBit x = true ↔ s.testBit x = true ∨ (x < 6 ∧ 0 < ρ (52 + 6 * b + x)) ∧ al.testBit x = true := by
      intro x
      rw [Nat.testBit_or, Nat.testBit_and, Bool.or_eq_true, Bool.and_eq_true, nr_tb]
    refine ⟨fun x hx => (e x).mpr (Or.inl hx), fun X hX hx x hxx => ?_, fun _ o he => (e o).mpr (Or.inr ⟨⟨he.2.1, he.2.2.2⟩, he.2.2.1⟩)⟩
    rcases (e x).mp hxx with g | g
    · exact hx x g
    · exact hX b x ⟨hb, g.1.1, g.2, g.1.2⟩ (hx b hc)
  · rename_i hc
    exact ⟨sub_refl, fun _ _ h => h, fun h => absurd h hc⟩
theorem k_reach_eq {ρ : Nat → Int} {fr al : Nat} (hf : fr < 6) (ha : al < 64) : k_reach ρ fr al = m_comes ρ fr al := by
  unfold k_reach m_comes
  rw [rcl_s0 fr hf al ha]
  have h0 : m_c0 fr al = 0 ∨ 1 ≤ m_ones (m_c0 fr al) := by
    unfold m_c0
    split
    · exact Or.inr (rcl_one fr hf)
    · exact Or.inl rfl
  exact rnd_eq (r := fun s => k_rr ρ al s) (r' := fun s => m_cr ρ al s) (rnd_of (g := fun b s => k_r1 ρ al b s) (fun b s hb hs => k_r1_r hb hs)) (rnd_of (g := fun b s => m_cb ρ al b s) (fun b s hb hs => m_cb_r hb hs)) (m_c0_lt hf) (by decide) (by decide) h0
theorem k_reach_e {d : Nat} {G : am_G} {I : Nat → Nat → Int} {P : Nat → Nat → Option Nat} (hS : ST G P) {c : Nat} (hCc : CQ c) {ρ : Nat → Int} (hcc : CC I c ρ) {fr al : Nat} (hf : fr < 6) (ha : al < 64) : am_call am_B am_M (d + 1) 79 [.inr (.inr (some (c + 1))), .inl (fr : Int), .inl (al : Int)] (G, I, P) = some (some (.inl ((m_comes ρ fr al : Nat) : Int)), (G, I, P)) := by
  have := k_reach_c (d := d) hS hCc hcc hf ha
  rw [k_reach_eq hf ha] at this
  exact this
