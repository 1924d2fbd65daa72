/-! ===== the reference: pieces of code, what is pending ===== -/
def wvO (w : Nat → Int) (o a : Int) : Option Int := if 1 ≤ o ∧ o < 6 then some (w (o.toNat - 1)) else if o = 6 ∧ 0 ≤ a ∧ a < 6 then some (w (5 + a.toNat)) else if o = 7 ∧ 0 ≤ a ∧ a < 5 then some (w (11 + a.toNat)) else none
def wvM (od : Bool) (w : Nat → Int) : Int → Int → Option Int := if od = true then wvO w else wvL w
def MS (od : Bool) (O A : Nat → Int) (a c D : Nat) (f : Fn) : Prop := a < c ∧ 1 ≤ D ∧ ∀ O' A' : Nat → Int, (∀ k, a ≤ k → k < c → O' k = O k ∧ A' k = A k) → ∀ w, okw w → mseg O' A' (wvM od w) a c D (f w)
theorem MS_congr {od : Bool} {O A O1 A1 : Nat → Int} {a c D : Nat} {f : Fn} (h : MS od O A a c D f) (e : ∀ k, a ≤ k → k < c → O1 k = O k ∧ A1 k = A k) : MS od O1 A1 a c D f := ⟨h.1, h.2.1, fun O' A' e' w hw => h.2.2 O' A' (fun k h1 h2 => ⟨(e' k h1 h2).1.trans (e k h1 h2).1, (e' k h1 h2).2.trans (e k h1 h2).2⟩) w hw⟩
theorem MS_more {od : Bool} {O A : Nat → Int} {a c D E : Nat} {f : Fn} (h : MS od O A a c D f) (hD : D ≤ E) : MS od O A a c E f := ⟨h.1, by have := h.2.1; omega, fun O' A' e' w hw => mseg_more (h.2.2 O' A' e' w hw) hD⟩
theorem MS_num {od : Bool} {O A : Nat → Int} {a : Nat} {v : Int} (h0 : O a = 0) (h1 : A a = v) (hv : 0 ≤ v ∧ v ≤ 1000) : MS od O A a (a + 1) 1 (fun _ => some v) := by
  refine ⟨by omega, Nat.le_refl _, fun O' A' e' w hw => ?_⟩
  have e := e' a (by omega) (by omega)
  have ho : O' a = 0 := e.1.trans h0
  refine mseg_push (by rw [ho]; decide) ?_ ⟨by omega, by omega⟩
  unfold rkv
  rw [if_pos ho, e.2, h1]
theorem MS_wL {O A : Nat → Int} {a j : Nat} (h0 : O a = (j : Int) + 1) (hj : j < 9) : MS false O A a (a + 1) 1 (fun w => some (w j)) := by
  refine ⟨by omega, Nat.le_refl _, fun O' A' e' w hw => ?_⟩
  have ho : O' a = (j : Int) + 1 := (e' a (by omega) (by omega)).1.trans h0
  refine mseg_push (by rw [ho]; omega) ?_ (hw _)
  unfold rkv wvM wvL
  rw [if_neg (by rw [ho]; omega), if_neg (by decide), if_pos (by rw [ho]; omega), ho, show ((j : Int) + 1).toNat - 1 = j by omega]
theorem MS_wO {O A : Nat → Int} {a j : Nat} (h0 : O a = (j : Int) + 1) (hj : j < 5) : MS true O A a (a + 1) 1 (fun w => some (w j)) := by
  refine ⟨by omega, Nat.le_refl _, fun O' A' e' w hw => ?_⟩
  have ho : O' a = (j : Int) + 1 := (e' a (by omega) (by omega)).1.trans h0
  refine mseg_push (by rw [ho]; omega) ?_ (hw _)
  unfold rkv wvM wvO
  rw [if_neg (by rw [ho]; omega), if_pos rfl, if_pos (by rw [ho]; omega), ho, show ((j : Int) + 1).toNat - 1 = j by omega]
theorem MS_at {O A : Nat → Int} {a j : Nat} (h0 : O a = 6) (h1 : A a = (j : Int)) (hj : j < 6) : MS true O A a (a + 1) 1 (fun w => some (w (5 + j))) := by
  refine ⟨by omega, Nat.le_refl _, fun O' A' e' w hw => ?_⟩
  have e := e' a (by omega) (by omega)
  have ho : O' a = 6 := e.1.trans h0
  refine mseg_push (by rw [ho]; decide) ?_ (hw _)
  unfold rkv wvM wvO
  rw [if_neg (by rw [ho]; decide), if_pos rfl, if_neg (by rw [ho]; decide), if_pos (by rw [ho, e.2, h1]; omega), e.2, h1, Int.toNat_natCast]
theorem MS_busy {O A : Nat → Int} {a j : Nat} (h0 : O a = 7) (h1 : A a = (j : Int)) (hj : j < 5) : MS true O A a (a + 1) 1 (fun w => some (w (11 + j))) := by
  refine ⟨by omega, Nat.le_refl _, fun O' A' e' w hw => ?_⟩
  have e := e' a (by omega) (by omega)
  have ho : O' a = 7 := e.1.trans h0
  refine mseg_push (by rw [ho]; decide) ?_ (hw _)
  unfold rkv wvM wvO
  rw [if_neg (by rw [ho]; decide), if_pos rfl, if_neg (by rw [ho]; decide), if_neg (by rw [ho]; omega), if_pos (by rw [ho, e.2, h1]; omega), e.2, h1, Int.toNat_natCast]
theorem MS_bin {od : Bool} {O A : Nat → Int} {a c e D E : Nat} {o : Int} {f g : Fn} (h1 : MS od O A a c D f) (h2 : MS od O A c e E g) (h : O e = o) (ho : 20 ≤ o ∧ o < 28) : MS od O A a (e + 1) (max D (E + 1)) (cmb o f g) := by
  refine ⟨by have := h1.1; have := h2.1; omega, by omega, fun O' A' e' w hw => ?_⟩
  have hc := h1.1
  have hd := h2.1
  have h3 : O' e = o := (e' e (by omega) (by omega)).1.trans h
  rw [cmb_s ho]
  have := mseg_bin (h1.2.2 O' A' (fun k a1 a2 => e' k a1 (by omega)) w hw) (h2.2.2 O' A' (fun k a1 a2 => e' k (by omega) (by omega)) w hw) (by rw [h3]; exact ho) (by omega) h2.2.1
  rw [h3] at this
  exact this
theorem MS_not {od : Bool} {O A : Nat → Int} {a c D : Nat} {f : Fn} (h1 : MS od O A a c D f) (hf : Vt f) (h : O c = 28) : MS od O A a (c + 1) D (fun w => f_not (f w)) := by
  refine ⟨by have := h1.1; omega, h1.2.1, fun O' A' e' w hw => ?_⟩
  have hc := h1.1
  exact mseg_not (h1.2.2 O' A' (fun k a1 a2 => e' k a1 (by omega)) w hw) ((e' c (by omega) (by omega)).1.trans h) (hf w hw) h1.2.1
theorem MS_ao {od : Bool} {O A : Nat → Int} {a c e D E : Nat} {o : Int} {f g : Fn} (h1 : MS od O A a c D f) (h2 : MS od O A (c + 1) e E g) (hf : Vt f) (h : O c = o) (ha : A c = (e : Int)) (ho : o = 29 ∨ o = 30) (he : e ≤ 400) : MS od O A a e (max D E) (cmb o f g) := by
  refine ⟨by have := h1.1; have := h2.1; omega, by have := h1.2.1; omega, fun O' A' e' w hw => ?_⟩
  have hc := h1.1
  have hd := h2.1
  have h3 := e' c (by omega) (by omega)
  have s1 := h1.2.2 O' A' (fun k a1 a2 => e' k a1 (by omega)) w hw
  have s2 := h2.2.2 O' A' (fun k a1 a2 => e' k (by omega) (by omega)) w hw
  rcases ho with rfl | rfl
  · have : cmb 29 f g = fun w => f_and (f w) (g w) := by funext w; unfold cmb; rw [if_pos rfl]
    rw [this]
    exact mseg_and s1 s2 (h3.1.trans h) (h3.2.trans ha) (by omega) he (hf w hw) h1.2.1
  · have : cmb 30 f g = fun w => f_or (f w) (g w) := by funext w; unfold cmb; rw [if_neg (by decide), if_pos rfl]
    rw [this]
    exact mseg_or s1 s2 (h3.1.trans h) (h3.2.trans ha) (by omega) he (hf w hw) h1.2.1
/-- m signs are pending from p on: with them the code from a up to c comes to f -/
def PN (od : Bool) (I : Nat → Nat → Int) : Nat → Nat → Nat → Nat → Nat → Fn → Prop
  | 0, _, a, c, D, f => MS od (I 219) (I 220) a c D f
  | m + 1, p, a, c, D, f => (∃ (x D1 D2 : Nat) (f1 f2 : Fn), (20 ≤ I 221 p ∧ I 221 p < 28) ∧ MS od (I 219) (I 220) a x D1 f1 ∧ D1 ≤ D ∧ PN od I m (p + 1) x c D2 f2 ∧ D2 + 1 ≤ D ∧ f = cmb (I 221 p) f1 f2)
    ∨ (I 221 p = 28 ∧ ∃ f2 : Fn, PN od I m (p + 1) a c D f2 ∧ Vt f2 ∧ f = fun w => f_not (f2 w))
    ∨ ((I 221 p = 29 ∨ I 221 p = 30) ∧ ∃ (x D1 D2 : Nat) (f1 f2 : Fn), I 222 p = (x : Int) ∧ I 219 x = I 221 p ∧ MS od (I 219) (I 220) a x D1 f1 ∧ Vt f1 ∧ D1 ≤ D ∧ PN od I m (p + 1) (x + 1) c D2 f2 ∧ D2 ≤ D ∧ f = cmb (I 221 p) f1 f2)
theorem PN_lt {od : Bool} {I : Nat → Nat → Int} : ∀ (m p a c D : Nat) (f : Fn), PN od I m p a c D f → a < c
  | 0, _, a, c, D, f, h => h.1
  | m + 1, p, a, c, D, f, h => by
    rcases h with ⟨x, D1, D2, f1, f2, h1, h2, h3, h4, h5, h6⟩ | ⟨h1, f2, h2, h3, h4⟩ | ⟨h1, x, D1, D2, f1, f2, h2, h3, h4, h5, h6, h7, h8, h9⟩
    · have := PN_lt m _ _ _ _ _ h4; have := h2.1; omega
    · exact PN_lt m _ _ _ _ _ h2
    · have := PN_lt m _ _ _ _ _ h7; have := h4.1; omega
theorem PN_congr {od : Bool} {I J : Nat → Nat → Int} : ∀ (m p a c D : Nat) (f : Fn), PN od I m p a c D f → (∀ k, a ≤ k → k < c → J 219 k = I 219 k ∧ J 220 k = I 220 k) → (∀ j, p ≤ j → j < p + m → J 221 j = I 221 j ∧ J 222 j = I 222 j) → PN od J m p a c D f
  | 0, _, a, c, D, f, h, e, _ => MS_congr h e
  | m + 1, p, a, c, D, f, h, e, ep => by
    have e0 := ep p (by omega) (by omega)
    rcases h with ⟨x, D1, D2, f1, f2, h1, h2, h3, h4, h5, h6⟩ | ⟨h1, f2, h2, h3, h4⟩ | ⟨h1, x, D1, D2, f1, f2, h2, h3, h4, h5, h6, h7, h8, h9⟩
    · have hl := PN_lt m _ _ _ _ _ h4
      have hl2 := h2.1
      refine Or.inl ⟨x, D1, D2, f1, f2, by rw [e0.1]; exact h1, MS_congr h2 (fun k a1 a2 => e k a1 (by omega)), h3, PN_congr m _ _ _ _ _ h4 (fun k a1 a2 => e k (by omega) a2) (fun j a1 a2 => ep j (by omega) (by omega)), h5, by rw [e0.1]; exact h6⟩
    · exact Or.inr (Or.inl ⟨e0.1.trans h1, f2, PN_congr m _ _ _ _ _ h2 e (fun j a1 a2 => ep j (by omega) (by omega)), h3, h4⟩)
    · have hl := PN_lt m _ _ _ _ _ h7
      have hl2 := h4.1
      refine Or.inr (Or.inr ⟨by rw [e0.1]; exact h1, x, D1, D2, f1, f2, e0.2.trans h2, (e x (by omega) (by omega)).1.trans (h3.trans e0.1.symm), MS_congr h4 (fun k a1 a2 => e k a1 (by omega)), h5, h6, PN_congr m _ _ _ _ _ h7 (fun k a1 a2 => e k (by omega) a2) (fun j a1 a2 => ep j (by omega) (by omega)), h8, by rw [e0.1]; exact h9⟩)
theorem PN_more {od : Bool} {I : Nat → Nat → Int} : ∀ (m p a c D E : Nat) (f : Fn), PN od I m p a c D f → D ≤ E → PN od I m p a c E f
  | 0, _, a, c, D, E, f, h, hD => MS_more h hD
  | m + 1, p, a, c, D, E, f, h, hD => by
    rcases h with ⟨x, D1, D2, f1, f2, h1, h2, h3, h4, h5, h6⟩ | ⟨h1, f2, h2, h3, h4⟩ | ⟨h1, x, D1, D2, f1, f2, h2, h3, h4, h5, h6, h7, h8, h9⟩
    · exact Or.inl ⟨x, D1, D2, f1, f2, h1, h2, by omega, h4, by omega, h6⟩
    · exact Or.inr (Or.inl ⟨h1, f2, PN_more m _ _ _ _ _ _ h2 hD, h3, h4⟩)
    · exact Or.inr (Or.inr ⟨h1, x, D1, D2, f1, f2, h2, h3, h4, h5, by omega, h7, by omega, h9⟩)
/-- the last of those pending is emitted -/
theorem PN_pop1 {od : Bool} {I J : Nat → Nat → Int} : ∀ (m p a c D : Nat) (f : Fn), PN od I (m + 1) p a c D f → (20 ≤ I 221 (p + m) ∧ I 221 (p + m) ≤ 28) → J 219 c = I 221 (p + m) → (∀ k, k < c → J 219 k = I 219 k ∧ J 220 k = I 220 k) → (∀ j, j < p + m → J 221 j = I 221 j ∧ J 222 j = I 222 j) → PN od J m p a (c + 1) D f
  | 0, p, a, c, D, f, h, ht, hJ, e, ep => by
    rw [Nat.add_zero] at ht hJ
    rcases h with ⟨x, D1, D2, f1, f2, h1, h2, h3, h4, h5, h6⟩ | ⟨h1, f2, h2, h3, h4⟩ | ⟨h1, x, D1, D2, f1, f2, h2, h3, h4, h5, h6, h7, h8, h9⟩
    · have h4 : MS od (I 219) (I 220) x c D2 f2 := h4
      rw [h6]
      have a1 := h2.1
      have a2 := h4.1
      exact MS_more (MS_bin (MS_congr h2 (fun k b1 b2 => e k (by omega))) (MS_congr h4 (fun k b1 b2 => e k (by omega))) hJ h1) (by omega)
    · have h2 : MS od (I 219) (I 220) a c D f2 := h2
      rw [h4]
      exact MS_not (MS_congr h2 (fun k b1 b2 => e k (by omega))) h3 (hJ.trans h1)
    · exfalso; omega
  | m + 1, p, a, c, D, f, h, ht, hJ, e, ep => by
    rw [show p + (m + 1) = (p + 1) + m by omega] at ht hJ
    have e0 := ep p (by omega)
    rcases h with ⟨x, D1, D2, f1, f2, h1, h2, h3, h4, h5, h6⟩ | ⟨h1, f2, h2, h3, h4⟩ | ⟨h1, x, D1, D2, f1, f2, h2, h3, h4, h5, h6, h7, h8, h9⟩
    · have hl := PN_lt (m + 1) _ _ _ _ _ h4
      have hl2 := h2.1
      exact Or.inl ⟨x, D1, D2, f1, f2, by rw [e0.1]; exact h1, MS_congr h2 (fun k a1 a2 => e k (by omega)), h3, PN_pop1 m _ _ _ _ _ h4 ht hJ e (fun j hj => ep j (by omega)), h5, by rw [e0.1]; exact h6⟩
    · exact Or.inr (Or.inl ⟨e0.1.trans h1, f2, PN_pop1 m _ _ _ _ _ h2 ht hJ e (fun j hj => ep j (by omega)), h3, h4⟩)
    · have hl := PN_lt (m + 1) _ _ _ _ _ h7
      have hl2 := h4.1
      exact Or.inr (Or.inr ⟨by rw [e0.1]; exact h1, x, D1, D2, f1, f2, e0.2.trans h2, (e x (by omega)).1.trans (h3.trans e0.1.symm), MS_congr h4 (fun k a1 a2 => e k (by omega)), h5, h6, PN_pop1 m _ _ _ _ _ h7 ht hJ e (fun j hj => ep j (by omega)), h8, by rw [e0.1]; exact h9⟩)
/-- the last of those pending, an and, an or, is led here -/
theorem PN_pop2 {od : Bool} {I : Nat → Nat → Int} : ∀ (m p a c D : Nat) (f : Fn), PN od I (m + 1) p a c D f → (I 221 (p + m) = 29 ∨ I 221 (p + m) = 30) → c ≤ 400 → ∃ x : Nat, I 222 (p + m) = (x : Int) ∧ a ≤ x ∧ x < c ∧ ∀ J : Nat → Nat → Int, J 220 x = (c : Int) → (∀ k, k < c → J 219 k = I 219 k ∧ (¬ k = x → J 220 k = I 220 k)) → (∀ j, j < p + m → J 221 j = I 221 j ∧ J 222 j = I 222 j) → PN od J m p a c D f
  | 0, p, a, c, D, f, h, ht, hc => by
    rw [Nat.add_zero] at ht
    rcases h with ⟨x, D1, D2, f1, f2, h1, h2, h3, h4, h5, h6⟩ | ⟨h1, f2, h2, h3, h4⟩ | ⟨h1, x, D1, D2, f1, f2, h2, h3, h4, h5, h6, h7, h8, h9⟩
    · exfalso; omega
    · exfalso; omega
    · have h7 : MS od (I 219) (I 220) (x + 1) c D2 f2 := h7
      have a1 := h4.1
      have a2 := h7.1
      refine ⟨x, h2, by omega, by omega, fun J hx e ep => ?_⟩
      rw [h9]
      exact MS_more (MS_ao (MS_congr h4 (fun k b1 b2 => ⟨(e k (by omega)).1, (e k (by omega)).2 (by omega)⟩)) (MS_congr h7 (fun k b1 b2 => ⟨(e k (by omega)).1, (e k (by omega)).2 (by omega)⟩)) h5 ((e x (by omega)).1.trans h3) hx h1 hc) (by omega)
  | m + 1, p, a, c, D, f, h, ht, hc => by
    rw [show p + (m + 1) = (p + 1) + m by omega] at ht ⊢
    rcases h with ⟨x, D1, D2, f1, f2, h1, h2, h3, h4, h5, h6⟩ | ⟨h1, f2, h2, h3, h4⟩ | ⟨h1, x, D1, D2, f1, f2, h2, h3, h4, h5, h6, h7, h8, h9⟩
    · have hl := PN_lt (m + 1) _ _ _ _ _ h4
      have hl2 := h2.1
      obtain ⟨y, g1, g2, g3, g4⟩ := PN_pop2 m _ _ _ _ _ h4 ht hc
      refine ⟨y, g1, by omega, g3, fun J hx e ep => ?_⟩
      have e0 := ep p (by omega)
      exact Or.inl ⟨x, D1, D2, f1, f2, by rw [e0.1]; exact h1, MS_congr h2 (fun k a1 a2 => ⟨(e k (by omega)).1, (e k (by omega)).2 (by omega)⟩), h3, g4 J hx e (fun j hj => ep j (by omega)), h5, by rw [e0.1]; exact h6⟩
    · obtain ⟨y, g1, g2, g3, g4⟩ := PN_pop2 m _ _ _ _ _ h2 ht hc
      refine ⟨y, g1, g2, g3, fun J hx e ep => ?_⟩
      have e0 := ep p (by omega)
      exact Or.inr (Or.inl ⟨e0.1.trans h1, f2, g4 J hx e (fun j hj => ep j (by omega)), h3, h4⟩)
    · have hl := PN_lt (m + 1) _ _ _ _ _ h7
      have hl2 := h4.1
      obtain ⟨y, g1, g2, g3, g4⟩ := PN_pop2 m _ _ _ _ _ h7 ht hc
      refine ⟨y, g1, by omega, g3, fun J hx e ep => ?_⟩
      have e0 := ep p (by omega)
      exact Or.inr (Or.inr ⟨by rw [e0.1]; exact h1, x, D1, D2, f1, f2, e0.2.trans h2, (e x (by omega)).1.trans (h3.trans e0.1.symm), MS_congr h4 (fun k a1 a2 => ⟨(e k (by omega)).1, (e k (by omega)).2 (by omega)⟩), h5, h6, g4 J hx e (fun j hj => ep j (by omega)), h8, by rw [e0.1]; exact h9⟩)
/-- what settling leaves: code from c on, and led ones from a on -/
def SF (a c : Nat) (I J : Nat → Nat → Int) : Prop := ∀ q k, ¬ (q = 208 ∧ (k = 23 ∨ k = 29)) → ¬ (q = 219 ∧ c ≤ k) → ¬ (q = 220 ∧ a ≤ k) → J q k = I q k
theorem SF_refl {a c : Nat} {I : Nat → Nat → Int} : SF a c I I := fun _ _ _ _ _ => rfl
theorem SF_trans {a c c1 : Nat} {I J K : Nat → Nat → Int} (h : SF a c I J) (h2 : SF a c1 J K) (hc : c ≤ c1) : SF a c I K := fun q k x y z => (h2 q k x (by omega) z).trans (h q k x y z)
theorem l_settle {d : Nat} {G : am_G} {P : Nat → Nat → Option Nat} {Q : am_O → Prop} {I : Nat → Nat → Int} (hS : ST G P) {od : Bool} {lst p a D : Nat} {f : Fn} {c0 N : Nat} (hN4 : N ≤ 400) (hlow : p = 0 ∨ bd (I 221 (p - 1)) < (lst : Int)) (hp4 : p ≤ 400) (hQ : ∀ J c, MS od (J 219) (J 220) a c D f → c0 ≤ c → c + p ≤ N → J 208 29 = (p : Int) → J 208 23 = (c : Int) → SF a c0 I J → Q (none, (G, J, P))) : ∀ (m c : Nat) (J : Nat → Nat → Int), PN od J m p a c D f → (∀ j, p ≤ j → j < p + m → (20 ≤ J 221 j ∧ J 221 j ≤ 30) ∧ (lst : Int) ≤ bd (J 221 j)) → J 208 29 = ((p + m : Nat) : Int) → J 208 23 = (c : Int) → c0 ≤ c → a ≤ c0 → c + (p + m) ≤ N → SF a c0 I J → am_ex (am_call am_B am_M (d + 1)) (am_B 209) (am_B 209 0) [some (.inr (.inr (some 208))), some (.inl (lst : Int))] [] (G, J, P) Q := by
  intro m
  induction m with
  | zero =>
    intro c J hN hE h29 h23 hc0 hac hcp hF
    rw [Nat.add_zero] at h29 hcp
    have hpile : ∀ j, J 221 j = I 221 j := fun j => hF 221 j (by omega) (by omega) (by omega)
    by_cases hp : p = 0
    · refine (ex_6_0 (ix_41i (v := (p : Int)) (sh_208 hS) h29 ?_))
      refine ex_if5 (fun hc4 => ?_) (fun hc4 => by exfalso; omega)
      exact ex_56 (hQ J c hN hc0 hcp h29 h23 hF)
    · refine (ex_6_0 (ix_41i (v := (p : Int)) (sh_208 hS) h29 ?_))
      refine ex_if5 (fun hc4 => by exfalso; omega) (fun hc4 => ?_)
      refine (ex_6_0 (ix_41r (sh_208 hS) (pt_208_27 hS) (ex_6_0 (ix_41i (v := (p : Int)) (sh_208 hS) h29 (ex_0 (ex_11e (v := ((p - 1 : Nat) : Int)) ((am_sub ⟨by omega, by omega⟩).trans (by omega)) (ix_30 (j := (p - 1)) (v := (I 221 (p - 1))) (sh_221 hS) (by omega) (by omega) (by omega) (hpile _) (ix_45 (S' := [(.inl (bd (I 221 (p - 1))))]) rfl c_binds rfl rfl (ex_4_1 ?_)))))))))
      refine ex_ic2 (fun hc22 => ?_) (fun hc22 => by exfalso; omega)
      exact ex_56 (hQ J c hN hc0 hcp h29 h23 hF)
  | succ m ih =>
    intro c J hN hE h29 h23 hc0 hac hcp hF
    have hE0 := hE (p + m) (by omega) (by omega)
    have hlt := PN_lt _ _ _ _ _ _ hN
    by_cases hao : J 221 (p + m) = 29 ∨ J 221 (p + m) = 30
    · obtain ⟨x, hx, hax, hxc, hJ⟩ := PN_pop2 m p a c D f hN hao (by omega)
      refine (ex_6_0 (ix_41i (v := ((p + (m + 1) : Nat) : Int)) (sh_208 hS) h29 ?_))
      refine ex_if5 (fun hc4 => by exfalso; omega) (fun hc4 => ?_)
      refine (ex_6_0 (ix_41r (sh_208 hS) (pt_208_27 hS) (ex_6_0 (ix_41i (v := ((p + (m + 1) : Nat) : Int)) (sh_208 hS) h29 (ex_0 (ex_11e (v := ((p + m : Nat) : Int)) ((am_sub ⟨by omega, by omega⟩).trans (by omega)) (ix_30 (j := (p + m)) (v := (J 221 (p + m))) (sh_221 hS) (by omega) (by omega) (by omega) rfl (ix_45 (S' := [(.inl (bd (J 221 (p + m))))]) rfl c_binds rfl rfl (ex_4_1 ?_)))))))))
      refine ex_ic2 (fun hc22 => by exfalso; omega) (fun hc22 => ?_)
      refine (ex_6_0 (ex_22 rfl (ix_41i (v := ((p + (m + 1) : Nat) : Int)) (sh_208 hS) h29 (ex_0 (ex_11e (v := ((p + m : Nat) : Int)) ((am_sub ⟨by omega, by omega⟩).trans (by omega)) (ix_42i (sh_208 hS) (ex_6_0 (ix_41r (sh_208 hS) (pt_208_27 hS) (ex_6_0 (ix_41i (v := ((p + m : Nat) : Int)) (sh_208 hS) u2_e (ix_30 (j := (p + m)) (v := (J 221 (p + m))) (sh_221 hS) (by omega) (by omega) (by omega) (u2_q (by decide)) (ex_0 ?_))))))))))))
      refine ex_ic0 (fun hc46 => ?_) (fun hc46 => ?_)
      · refine (ex_6_0 (ix_41r (sh_208 hS) (pt_208_25 hS) (ex_6_0 (ix_41r (sh_208 hS) (pt_208_28 hS) (ex_6_0 (ix_41i (v := ((p + m : Nat) : Int)) (sh_208 hS) u2_e (ix_30 (j := (p + m)) (v := (x : Int)) (sh_222 hS) (by omega) (by omega) (by omega) ((u2_q (by decide)).trans hx) (ex_6_0 (ix_41i (v := (c : Int)) (sh_208 hS) ((u2_k (by decide)).trans h23) (ix_34 (j := x) (sh_220 hS) (by omega) (by omega) (by omega) (ex_28 ?_)))))))))))
        exact ih c (am_u2 (am_u2 J 208 29 ((p + m : Nat) : Int)) 220 x (c : Int)) (hJ (am_u2 (am_u2 J 208 29 ((p + m : Nat) : Int)) 220 x (c : Int)) u2_e (fun k hk => ⟨(u2_q (by decide)).trans (u2_q (by decide)), fun hne => (u2_k hne).trans (u2_q (by decide))⟩) (fun j hj => ⟨(u2_q (by decide)).trans (u2_q (by decide)), (u2_q (by decide)).trans (u2_q (by decide))⟩)) (fun j a1 a2 => by rw [u2_q (by decide), u2_q (by decide)]; exact hE j a1 (by omega)) ((u2_q (by decide)).trans u2_e) ((u2_q (by decide)).trans ((u2_k (by decide)).trans h23)) hc0 hac (by omega) (fun q k y1 y2 y3 => (u2_o (by omega)).trans ((u2_o (by omega)).trans (hF q k y1 y2 y3)))
      · refine (ex_6_0 (ix_41r (sh_208 hS) (pt_208_27 hS) (ex_6_0 (ix_41i (v := ((p + m : Nat) : Int)) (sh_208 hS) u2_e (ix_30 (j := (p + m)) (v := (J 221 (p + m))) (sh_221 hS) (by omega) (by omega) (by omega) (u2_q (by decide)) (ex_0 ?_))))))
        refine ex_ic1 (fun hc60 => by exfalso; omega) (fun hc60 => ?_)
        refine (ex_6_0 (ix_41r (sh_208 hS) (pt_208_25 hS) (ex_6_0 (ix_41r (sh_208 hS) (pt_208_28 hS) (ex_6_0 (ix_41i (v := ((p + m : Nat) : Int)) (sh_208 hS) u2_e (ix_30 (j := (p + m)) (v := (x : Int)) (sh_222 hS) (by omega) (by omega) (by omega) ((u2_q (by decide)).trans hx) (ex_6_0 (ix_41i (v := (c : Int)) (sh_208 hS) ((u2_k (by decide)).trans h23) (ix_34 (j := x) (sh_220 hS) (by omega) (by omega) (by omega) (ex_28 ?_)))))))))))
        exact ih c (am_u2 (am_u2 J 208 29 ((p + m : Nat) : Int)) 220 x (c : Int)) (hJ (am_u2 (am_u2 J 208 29 ((p + m : Nat) : Int)) 220 x (c : Int)) u2_e (fun k hk => ⟨(u2_q (by decide)).trans (u2_q (by decide)), fun hne => (u2_k hne).trans (u2_q (by decide))⟩) (fun j hj => ⟨(u2_q (by decide)).trans (u2_q (by decide)), (u2_q (by decide)).trans (u2_q (by decide))⟩)) (fun j a1 a2 => by rw [u2_q (by decide), u2_q (by decide)]; exact hE j a1 (by omega)) ((u2_q (by decide)).trans u2_e) ((u2_q (by decide)).trans ((u2_k (by decide)).trans h23)) hc0 hac (by omega) (fun q k y1 y2 y3 => (u2_o (by omega)).trans ((u2_o (by omega)).trans (hF q k y1 y2 y3)))
    · have hne : 20 ≤ J 221 (p + m) ∧ J 221 (p + m) ≤ 28 := by omega
      refine (ex_6_0 (ix_41i (v := ((p + (m + 1) : Nat) : Int)) (sh_208 hS) h29 ?_))
      refine ex_if5 (fun hc4 => by exfalso; omega) (fun hc4 => ?_)
      refine (ex_6_0 (ix_41r (sh_208 hS) (pt_208_27 hS) (ex_6_0 (ix_41i (v := ((p + (m + 1) : Nat) : Int)) (sh_208 hS) h29 (ex_0 (ex_11e (v := ((p + m : Nat) : Int)) ((am_sub ⟨by omega, by omega⟩).trans (by omega)) (ix_30 (j := (p + m)) (v := (J 221 (p + m))) (sh_221 hS) (by omega) (by omega) (by omega) rfl (ix_45 (S' := [(.inl (bd (J 221 (p + m))))]) rfl c_binds rfl rfl (ex_4_1 ?_)))))))))
      refine ex_ic2 (fun hc22 => by exfalso; omega) (fun hc22 => ?_)
      refine (ex_6_0 (ex_22 rfl (ix_41i (v := ((p + (m + 1) : Nat) : Int)) (sh_208 hS) h29 (ex_0 (ex_11e (v := ((p + m : Nat) : Int)) ((am_sub ⟨by omega, by omega⟩).trans (by omega)) (ix_42i (sh_208 hS) (ex_6_0 (ix_41r (sh_208 hS) (pt_208_27 hS) (ex_6_0 (ix_41i (v := ((p + m : Nat) : Int)) (sh_208 hS) u2_e (ix_30 (j := (p + m)) (v := (J 221 (p + m))) (sh_221 hS) (by omega) (by omega) (by omega) (u2_q (by decide)) (ex_0 ?_))))))))))))
      refine ex_ic0 (fun hc46 => by exfalso; omega) (fun hc46 => ?_)
      refine (ex_6_0 (ix_41r (sh_208 hS) (pt_208_27 hS) (ex_6_0 (ix_41i (v := ((p + m : Nat) : Int)) (sh_208 hS) u2_e (ix_30 (j := (p + m)) (v := (J 221 (p + m))) (sh_221 hS) (by omega) (by omega) (by omega) (u2_q (by decide)) (ex_0 ?_))))))
      refine ex_ic1 (fun hc60 => ?_) (fun hc60 => by exfalso; omega)
      refine (ex_6_0 (ex_6_0 (ix_41r (sh_208 hS) (pt_208_27 hS) (ex_6_0 (ix_41i (v := ((p + m : Nat) : Int)) (sh_208 hS) u2_e (ix_30 (j := (p + m)) (v := (J 221 (p + m))) (sh_221 hS) (by omega) (by omega) (by omega) (u2_q (by decide)) (ex_0 (ix_46 (S' := []) rfl (sh_208 hS) (c_emit (c := c) hS ((u2_k (by decide)).trans h23) (by omega)) rfl rfl (ex_28 ?_)))))))))
      have f4 : ∀ q k, ¬ (q = 208 ∧ (k = 23 ∨ k = 29)) → ¬ (q = 219 ∧ k = c) → ¬ (q = 220 ∧ k = c) → (am_u2 (am_u2 (am_u2 (am_u2 J 208 29 ((p + m : Nat) : Int)) 219 c (J 221 (p + m))) 220 c 0) 208 23 ((c : Int) + 1)) q k = J q k := fun q k y1 y2 y3 => (u2_o (by omega)).trans ((u2_o (by omega)).trans ((u2_o (by omega)).trans (u2_o (by omega))))
      exact ih (c + 1) (am_u2 (am_u2 (am_u2 (am_u2 J 208 29 ((p + m : Nat) : Int)) 219 c (J 221 (p + m))) 220 c 0) 208 23 ((c : Int) + 1)) (PN_pop1 m p a c D f hN hne ((u2_q (by decide)).trans ((u2_q (by decide)).trans u2_e)) (fun k hk => ⟨f4 _ _ (by omega) (by omega) (by omega), f4 _ _ (by omega) (by omega) (by omega)⟩) (fun j hj => ⟨f4 _ _ (by omega) (by omega) (by omega), f4 _ _ (by omega) (by omega) (by omega)⟩)) (fun j a1 a2 => by rw [f4 _ _ (by omega) (by omega) (by omega)]; exact hE j a1 (by omega)) ((u2_k (by decide)).trans ((u2_q (by decide)).trans ((u2_q (by decide)).trans u2_e))) u2_e (by omega) hac (by omega) (fun q k y1 y2 y3 => (f4 q k y1 (by omega) (by omega)).trans (hF q k y1 y2 y3))
theorem c_settle {d : Nat} {G : am_G} {I : Nat → Nat → Int} {P : Nat → Nat → Option Nat} (hS : ST G P) {od : Bool} {lst p a D : Nat} {f : Fn} {m c : Nat} (hlow : p = 0 ∨ bd (I 221 (p - 1)) < (lst : Int)) (hN : PN od I m p a c D f) (hE : ∀ j, p ≤ j → j < p + m → (20 ≤ I 221 j ∧ I 221 j ≤ 30) ∧ (lst : Int) ≤ bd (I 221 j)) (h29 : I 208 29 = ((p + m : Nat) : Int)) (h23 : I 208 23 = (c : Int)) (hcp : c + (p + m) ≤ 400) : ∃ J c1, am_call am_B am_M (d + 2) 209 [.inr (.inr (some 208)), .inl (lst : Int)] (G, I, P) = some (none, (G, J, P)) ∧ MS od (J 219) (J 220) a c1 D f ∧ c ≤ c1 ∧ c1 + p ≤ c + (p + m) ∧ J 208 29 = (p : Int) ∧ J 208 23 = (c1 : Int) ∧ SF a c I J := by
  have hlt := PN_lt _ _ _ _ _ _ hN
  have w := l_settle (d := d) (I := I) (G := G) (P := P) (Q := fun o => ∃ J c1, o = (none, (G, J, P)) ∧ MS od (J 219) (J 220) a c1 D f ∧ c ≤ c1 ∧ c1 + p ≤ c + (p + m) ∧ J 208 29 = (p : Int) ∧ J 208 23 = (c1 : Int) ∧ SF a c I J) (N := c + (p + m)) (c0 := c) hS hcp hlow (by omega) (fun J c1 g1 g2 g3 g4 g5 g6 => ⟨J, c1, rfl, g1, g2, g3, g4, g5, g6⟩) m c I hN hE h29 h23 (Nat.le_refl _) (by omega) (Nat.le_refl _) SF_refl
  obtain ⟨o, e, J, c1, rfl, h⟩ := am_doQ (as := [.inr (.inr (some 208)), .inl (lst : Int)]) (L := [some (.inr (.inr (some 208))), some (.inl (lst : Int))]) (Nat.le_of_ble_eq_true rfl) rfl w
  exact ⟨J, c1, e, h⟩
/-- settling, whatever is piled -/
def SB (I J : Nat → Nat → Int) : Prop := ∀ q k, ¬ (q = 208 ∧ (k = 23 ∨ k = 29)) → ¬ q = 219 → ¬ q = 220 → J q k = I q k
theorem l_settleB {d : Nat} {G : am_G} {P : Nat → Nat → Option Nat} {Q : am_O → Prop} {I : Nat → Nat → Int} (hS : ST G P) {lst : Nat} (hQ : ∀ J c p, PI J c p → SB I J → Q (none, (G, J, P))) : ∀ (p c : Nat) (J : Nat → Nat → Int), PI J c p → SB I J → am_ex (am_call am_B am_M (d + 1)) (am_B 209) (am_B 209 0) [some (.inr (.inr (some 208))), some (.inl (lst : Int))] [] (G, J, P) Q := by
  intro p
  induction p with
  | zero =>
    intro c J hP hF
    obtain ⟨h23, h29, hcp, hE⟩ := id hP
    refine (ex_6_0 (ix_41i (v := 0) (sh_208 hS) h29 (ex_if5 (fun _ => ?_) (fun hc => by exfalso; revert hc; decide))))
    exact ex_56 (hQ J c 0 hP hF)
  | succ m ih =>
    intro c J hP hF
    obtain ⟨h23, h29, hcp, hE⟩ := id hP
    have hE0 := hE m (by omega)
    by_cases hbd : bd (J 221 m) < (lst : Int)
    · refine (ex_6_0 (ix_41i (v := ((m + 1 : Nat) : Int)) (sh_208 hS) h29 ?_))
      refine ex_if5 (fun hc4 => by exfalso; omega) (fun hc4 => ?_)
      refine (ex_6_0 (ix_41r (sh_208 hS) (pt_208_27 hS) (ex_6_0 (ix_41i (v := ((m + 1 : Nat) : Int)) (sh_208 hS) h29 (ex_0 (ex_11e (v := (m : Int)) ((am_sub ⟨by omega, by omega⟩).trans (by omega)) (ix_30 (j := m) (v := (J 221 m)) (sh_221 hS) (by omega) (by omega) (by omega) rfl (ix_45 (S' := [(.inl (bd (J 221 m)))]) rfl c_binds rfl rfl (ex_4_1 ?_)))))))))
      refine ex_ic2 (fun hc22 => ?_) (fun hc22 => by exfalso; omega)
      exact ex_56 (hQ J c (m + 1) hP hF)
    · by_cases hao : J 221 m = 29 ∨ J 221 m = 30
      · obtain ⟨x, hx4, hx⟩ := hE0.2.2 hao
        refine (ex_6_0 (ix_41i (v := ((m + 1 : Nat) : Int)) (sh_208 hS) h29 ?_))
        refine ex_if5 (fun hc4 => by exfalso; omega) (fun hc4 => ?_)
        refine (ex_6_0 (ix_41r (sh_208 hS) (pt_208_27 hS) (ex_6_0 (ix_41i (v := ((m + 1 : Nat) : Int)) (sh_208 hS) h29 (ex_0 (ex_11e (v := (m : Int)) ((am_sub ⟨by omega, by omega⟩).trans (by omega)) (ix_30 (j := m) (v := (J 221 m)) (sh_221 hS) (by omega) (by omega) (by omega) rfl (ix_45 (S' := [(.inl (bd (J 221 m)))]) rfl c_binds rfl rfl (ex_4_1 ?_)))))))))
        refine ex_ic2 (fun hc22 => by exfalso; omega) (fun hc22 => ?_)
        refine (ex_6_0 (ex_22 rfl (ix_41i (v := ((m + 1 : Nat) : Int)) (sh_208 hS) h29 (ex_0 (ex_11e (v := (m : Int)) ((am_sub ⟨by omega, by omega⟩).trans (by omega)) (ix_42i (sh_208 hS) (ex_6_0 (ix_41r (sh_208 hS) (pt_208_27 hS) (ex_6_0 (ix_41i (v := (m : Int)) (sh_208 hS) u2_e (ix_30 (j := m) (v := (J 221 m)) (sh_221 hS) (by omega) (by omega) (by omega) (u2_q (by decide)) (ex_0 ?_))))))))))))
        refine ex_ic0 (fun hc46 => ?_) (fun hc46 => ?_)
        · refine (ex_6_0 (ix_41r (sh_208 hS) (pt_208_25 hS) (ex_6_0 (ix_41r (sh_208 hS) (pt_208_28 hS) (ex_6_0 (ix_41i (v := (m : Int)) (sh_208 hS) u2_e (ix_30 (j := m) (v := (x : Int)) (sh_222 hS) (by omega) (by omega) (by omega) ((u2_q (by decide)).trans hx) (ex_6_0 (ix_41i (v := (c : Int)) (sh_208 hS) ((u2_k (by decide)).trans h23) (ix_34 (j := x) (sh_220 hS) (by omega) (by omega) (by omega) (ex_28 ?_)))))))))))
          exact ih c _ ⟨(u2_q (by decide)).trans ((u2_k (by decide)).trans h23), (u2_q (by decide)).trans u2_e, by omega, fun j hj => by rw [u2_q (by decide), u2_q (by decide), u2_q (by decide), u2_q (by decide)]; exact hE j (by omega)⟩ (fun q k y1 y2 y3 => (u2_o (by omega)).trans ((u2_o (by omega)).trans (hF q k y1 y2 y3)))
        · refine (ex_6_0 (ix_41r (sh_208 hS) (pt_208_27 hS) (ex_6_0 (ix_41i (v := (m : Int)) (sh_208 hS) u2_e (ix_30 (j := m) (v := (J 221 m)) (sh_221 hS) (by omega) (by omega) (by omega) (u2_q (by decide)) (ex_0 ?_))))))
          refine ex_ic1 (fun hc60 => by exfalso; omega) (fun hc60 => ?_)
          refine (ex_6_0 (ix_41r (sh_208 hS) (pt_208_25 hS) (ex_6_0 (ix_41r (sh_208 hS) (pt_208_28 hS) (ex_6_0 (ix_41i (v := (m : Int)) (sh_208 hS) u2_e (ix_30 (j := m) (v := (x : Int)) (sh_222 hS) (by omega) (by omega) (by omega) ((u2_q (by decide)).trans hx) (ex_6_0 (ix_41i (v := (c : Int)) (sh_208 hS) ((u2_k (by decide)).trans h23) (ix_34 (j := x) (sh_220 hS) (by omega) (by omega) (by omega) (ex_28 ?_)))))))))))
          exact ih c _ ⟨(u2_q (by decide)).trans ((u2_k (by decide)).trans h23), (u2_q (by decide)).trans u2_e, by omega, fun j hj => by rw [u2_q (by decide), u2_q (by decide), u2_q (by decide), u2_q (by decide)]; exact hE j (by omega)⟩ (fun q k y1 y2 y3 => (u2_o (by omega)).trans ((u2_o (by omega)).trans (hF q k y1 y2 y3)))
      · refine (ex_6_0 (ix_41i (v := ((m + 1 : Nat) : Int)) (sh_208 hS) h29 ?_))
        refine ex_if5 (fun hc4 => by exfalso; omega) (fun hc4 => ?_)
        refine (ex_6_0 (ix_41r (sh_208 hS) (pt_208_27 hS) (ex_6_0 (ix_41i (v := ((m + 1 : Nat) : Int)) (sh_208 hS) h29 (ex_0 (ex_11e (v := (m : Int)) ((am_sub ⟨by omega, by omega⟩).trans (by omega)) (ix_30 (j := m) (v := (J 221 m)) (sh_221 hS) (by omega) (by omega) (by omega) rfl (ix_45 (S' := [(.inl (bd (J 221 m)))]) rfl c_binds rfl rfl (ex_4_1 ?_)))))))))
        refine ex_ic2 (fun hc22 => by exfalso; omega) (fun hc22 => ?_)
        refine (ex_6_0 (ex_22 rfl (ix_41i (v := ((m + 1 : Nat) : Int)) (sh_208 hS) h29 (ex_0 (ex_11e (v := (m : Int)) ((am_sub ⟨by omega, by omega⟩).trans (by omega)) (ix_42i (sh_208 hS) (ex_6_0 (ix_41r (sh_208 hS) (pt_208_27 hS) (ex_6_0 (ix_41i (v := (m : Int)) (sh_208 hS) u2_e (ix_30 (j := m) (v := (J 221 m)) (sh_221 hS) (by omega) (by omega) (by omega) (u2_q (by decide)) (ex_0 ?_))))))))))))
        refine ex_ic0 (fun hc46 => by exfalso; omega) (fun hc46 => ?_)
        refine (ex_6_0 (ix_41r (sh_208 hS) (pt_208_27 hS) (ex_6_0 (ix_41i (v := (m : Int)) (sh_208 hS) u2_e (ix_30 (j := m) (v := (J 221 m)) (sh_221 hS) (by omega) (by omega) (by omega) (u2_q (by decide)) (ex_0 ?_))))))
        refine ex_ic1 (fun hc60 => ?_) (fun hc60 => by exfalso; omega)
        refine (ex_6_0 (ex_6_0 (ix_41r (sh_208 hS) (pt_208_27 hS) (ex_6_0 (ix_41i (v := (m : Int)) (sh_208 hS) u2_e (ix_30 (j := m) (v := (J 221 m)) (sh_221 hS) (by omega) (by omega) (by omega) (u2_q (by decide)) (ex_0 (ix_46 (S' := []) rfl (sh_208 hS) (c_emit (c := c) hS ((u2_k (by decide)).trans h23) (by omega)) rfl rfl (ex_28 ?_)))))))))
        exact ih (c + 1) _ ⟨u2_e, (u2_k (by decide)).trans ((u2_q (by decide)).trans ((u2_q (by decide)).trans u2_e)), by omega, fun j hj => by rw [u2_q (by decide), u2_q (by decide), u2_q (by decide), u2_q (by decide), u2_q (by decide), u2_q (by decide), u2_q (by decide), u2_q (by decide)]; exact hE j (by omega)⟩ (fun q k y1 y2 y3 => (u2_o (by omega)).trans ((u2_o (by omega)).trans ((u2_o (by omega)).trans ((u2_o (by omega)).trans (hF q k y1 y2 y3)))))
theorem c_settleB {d : Nat} {G : am_G} {I : Nat → Nat → Int} {P : Nat → Nat → Option Nat} (hS : ST G P) {lst c p : Nat} (hP : PI I c p) : ∃ J c1 p1, am_call am_B am_M (d + 2) 209 [.inr (.inr (some 208)), .inl (lst : Int)] (G, I, P) = some (none, (G, J, P)) ∧ PI J c1 p1 ∧ SB I J := by
  have w := l_settleB (d := d) (I := I) (G := G) (P := P) (lst := lst) (Q := fun o => ∃ J c1 p1, o = (none, (G, J, P)) ∧ PI J c1 p1 ∧ SB I J) hS (fun J c1 p1 g1 g2 => ⟨J, c1, p1, rfl, g1, g2⟩) p c I hP (fun _ _ _ _ _ => rfl)
  obtain ⟨o, e, J, c1, p1, rfl, h⟩ := am_doQ (as := [.inr (.inr (some 208)), .inl (lst : Int)]) (L := [some (.inr (.inr (some 208))), some (.inl (lst : Int))]) (Nat.le_of_ble_eq_true rfl) rfl w
  exact ⟨J, c1, p1, e, h⟩
