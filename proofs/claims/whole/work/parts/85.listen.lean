/-! ===== who answers a cloud ===== -/
theorem mxi_it {f : Nat → Int} : ∀ (k i : Nat) (s : Int), s ≤ am_it (fun w top => mxi top (f w)) k i s ∧ (∀ j, i ≤ j → j < i + k → f j ≤ am_it (fun w top => mxi top (f w)) k i s) ∧ (am_it (fun w top => mxi top (f w)) k i s = s ∨ ∃ j, i ≤ j ∧ j < i + k ∧ am_it (fun w top => mxi top (f w)) k i s = f j)
  | 0, i, s => ⟨Int.le_refl _, fun j h1 h2 => absurd h1 (by omega), Or.inl rfl⟩
  | k + 1, i, s => by
    obtain ⟨h1, h2, h3⟩ := mxi_it (f := f) k (i + 1) (mxi s (f i))
    have e : am_it (fun w top => mxi top (f w)) (k + 1) i s = am_it (fun w top => mxi top (f w)) k (i + 1) (mxi s (f i)) := rfl
    rw [e]
    have hm : s ≤ mxi s (f i) ∧ f i ≤ mxi s (f i) ∧ (mxi s (f i) = s ∨ mxi s (f i) = f i) := by unfold mxi; split <;> omega
    refine ⟨by omega, fun j a b => ?_, ?_⟩
    · by_cases q : j = i
      · rw [q]; omega
      · exact h2 j (by omega) (by omega)
    · rcases h3 with h3 | ⟨j, a, b, c⟩
      · rcases hm.2.2 with q | q
        · exact Or.inl (h3.trans q)
        · exact Or.inr ⟨i, by omega, by omega, h3.trans q⟩
      · exact Or.inr ⟨j, by omega, by omega, c⟩
/-- the lowest of the folk with whom the most is answered; 5: nobody -/
def lq (g : Nat → Nat → Int) (N c t : Nat) : Nat := fnd (fun w => decide (mw g (BS g N (N - 1 - c)) c t w = BS g N (N - c) t)) 5 0
def tks (g : Nat → Nat → Int) (N c t : Nat) : Nat := if lq g N c t = 5 then t else t ||| 2 ^ lq g N c t
def tkn (g : Nat → Nat → Int) (N c : Nat) : Nat := am_it (fun i s => tks g N i s) c 0 0
theorem lq_at {g : Nat → Nat → Int} {N c t : Nat} (hg : ∀ c f, -1 ≤ g c f ∧ g c f ≤ 9) (hc : c < N) : ∃ w, w ≤ 5 ∧ mw g (BS g N (N - 1 - c)) c t w = BS g N (N - c) t := by
  have e : BS g N (N - c) t = am_it (fun who top => mxi top (mw g (BS g N (N - 1 - c)) c t who)) 6 0 0 := by
    rw [show N - c = (N - 1 - c) + 1 by omega]
    show am_it (fun who top => mxi top (mw g (BS g N (N - 1 - c)) (N - 1 - (N - 1 - c)) t who)) 6 0 0 = _
    rw [show N - 1 - (N - 1 - c) = c by omega]
  obtain ⟨h1, h2, h3⟩ := mxi_it (f := fun who => mw g (BS g N (N - 1 - c)) c t who) 6 0 0
  rw [← e] at h1 h2 h3
  rcases h3 with h3 | ⟨j, _, a, b⟩
  · have h5 : mw g (BS g N (N - 1 - c)) c t 5 ≤ BS g N (N - c) t := h2 5 (by decide) (by decide)
    have e5 : mw g (BS g N (N - 1 - c)) c t 5 = BS g N (N - 1 - c) t := by unfold mw; rw [if_pos rfl]
    have hb := BS_b (N := N) hg (N - 1 - c) t
    exact ⟨5, by decide, by show mw g (BS g N (N - 1 - c)) c t 5 = _; omega⟩
  · exact ⟨j, by omega, b.symm⟩
theorem fnd_4 {p : Nat → Bool} : ∀ (k i : Nat), i ≤ fnd p k i ∧ fnd p k i ≤ i + k ∧ (fnd p k i < i + k → p (fnd p k i) = true) ∧ (∀ j, i ≤ j → j < fnd p k i → ¬ p j = true)
  | 0, i => ⟨Nat.le_refl _, Nat.le_refl _, fun h => absurd h (Nat.lt_irrefl _), fun j a b => absurd b (by show ¬ j < i; omega)⟩
  | k + 1, i => by
    by_cases q : p i = true
    · have f : fnd p (k + 1) i = i := by unfold fnd; rw [if_pos q]
      rw [f]; exact ⟨Nat.le_refl _, by omega, fun _ => q, fun j a b => absurd b (by omega)⟩
    · have f : fnd p (k + 1) i = fnd p k (i + 1) := by conv => lhs; unfold fnd; rw [if_neg q]
      obtain ⟨a, b, c, e⟩ := fnd_4 (p := p) k (i + 1)
      rw [f]
      refine ⟨by omega, by omega, fun h => c (by omega), fun j x y => ?_⟩
      by_cases z : j = i
      · rw [z]; exact q
      · exact e j (by omega) y
theorem lq_le {g : Nat → Nat → Int} {N c t : Nat} : lq g N c t ≤ 5 := by
  have := (fnd_4 (p := fun w => decide (mw g (BS g N (N - 1 - c)) c t w = BS g N (N - c) t)) 5 0).2.1
  unfold lq; omega
theorem lq_ok {g : Nat → Nat → Int} {N c t : Nat} (hg : ∀ c f, -1 ≤ g c f ∧ g c f ≤ 9) (hc : c < N) : mw g (BS g N (N - 1 - c)) c t (lq g N c t) = BS g N (N - c) t := by
  obtain ⟨_, a, b, e⟩ := fnd_4 (p := fun w => decide (mw g (BS g N (N - 1 - c)) c t w = BS g N (N - c) t)) 5 0
  obtain ⟨w, hw, h⟩ := lq_at (t := t) hg hc
  by_cases q : lq g N c t < 5
  · exact of_decide_eq_true (b (by unfold lq at q; omega))
  · have e5 : lq g N c t = 5 := Nat.le_antisymm lq_le (by omega)
    by_cases z : w = 5
    · rw [e5, ← z]; exact h
    · exact absurd (decide_eq_true h) (e w (by omega) (by unfold lq at e5; omega))
theorem tks_lt {g : Nat → Nat → Int} {N c t : Nat} (ht : t < 32) : tks g N c t < 32 := by
  have := lq_le (g := g) (N := N) (c := c) (t := t)
  unfold tks
  split
  · exact ht
  · exact Nat.or_lt_two_pow (n := 5) ht (Nat.pow_lt_pow_right (by decide) (by omega))
theorem tkn_lt {g : Nat → Nat → Int} {N c : Nat} : tkn g N c < 32 := am_it_inv (f := fun i s => tks g N i s) (inv := fun _ s => s < 32) (N := c) (fun _ _ _ h => tks_lt h) c 0 0 (by omega) (by decide)
theorem k_listen {d : Nat} {G : am_G} {I : Nat → Nat → Int} {P : Nat → Nat → Option Nat} (hS : ST G P) {c : Nat} (hCc : CQ c) {ρ : Nat → Int} {n : Nat} {cl : Nat → Cl} (hE : CE G I P c ρ n cl) {N : Nat} (hN : ρ 0 = (N : Int)) (hBN : BarN n cl) {a : Nat} (ha : a < N) : ∃ I1, am_call am_B am_M (d + 7) 4 [(.inr (.inr (some 116))), (.inr (.inr (some c))), (.inl (a : Int))] (G, I, P) = some (some (.inl ((lq (gn ρ n cl) N a (tkn (gn ρ n cl) N a) : Nat) : Int)), (G, I1, P)) ∧ (CE G I1 P c ρ n cl ∧ AF I I1) := by
  have h06 := RW_n0 hE.2.1
  have h15 := RW_n1 hE.2.1
  have hqc : c = 65 ∨ c = 93 ∨ c = 122 ∨ c = 139 ∨ c = 174 ∨ c = 191 := hCc
  have w : am_ex (am_call am_B am_M (d + 6)) (am_B 4) (am_B 4 0) [some (.inr (.inr (some 116))), some (.inr (.inr (some c))), some (.inl (a : Int)), none, none, none, none] [] (G, I, P) (fun o => ∃ I1, o = (some (.inl ((lq (gn ρ n cl) N a (tkn (gn ρ n cl) N a) : Nat) : Int)), (G, I1, P)) ∧ (CE G I1 P c ρ n cl ∧ AF I I1)) := by
    refine (ex_6_0 (ex_6_1 ?_))
    obtain ⟨JM, eM, hEM, hgM, htM, hfM⟩ := k_most (d := d) hS hCc hE hN hBN
    refine (ix_46 (S' := [(.inl (BS (gn ρ n cl) N N 0))]) rfl (sh_116 hS) eM rfl rfl (ex_24 rfl (ex_0 (ex_7_3 rfl (ex_0 (ex_7_4 rfl (ex_58 ?_)))))))
    refine ex_forH (b := 1) (σ := Nat) (a) (fun i s => tks (gn ρ n cl) N i s) (fun i s => s < 32) (fun i s e_i => [some (.inr (.inr (some 116))), some (.inr (.inr (some c))), some (.inl (a : Int)), some (.inl ((s : Nat) : Int)), some (.inl (i : Int)), (e_i 5), (e_i 6)]) (fun i s => (G, JM, P)) ?_ ?_ (a) (0) (0) (fun k_ => ([some (.inr (.inr (some 116))), some (.inr (.inr (some c))), some (.inl (a : Int)), some (.inl 0), some (.inl 0), none, none] : am_L).getD k_ none) (by omega) (by decide) rfl (rfl) ?_
    · intro i s hii hvi
      exact tks_lt hvi
    · intro i s e_i hii hvi s' hsi hki
      have hts := hvi
      refine (ex_4_4 (ex_6_1 (ix_41i (v := (N : Int)) (cs_0 hS hCc) ((CC_n0 hEM.1).trans hN) ?_)))
      refine ex_ic3 (fun hc17 => by exfalso; omega) (fun hc17 => ?_)
      refine (ex_0 (ex_7_5 rfl (ex_0 (ex_7_6 rfl (ex_58 ?_)))))
      refine ex_whR (b := 3) (fun x => decide (mw (gn ρ n cl) (BS (gn ρ n cl) N (N - 1 - i)) i s x = BS (gn ρ n cl) N (N - i) s)) (5) ((lq (gn ρ n cl) N i s)) (fun x J => J = JM) (fun x e_x => [some (.inr (.inr (some 116))), some (.inr (.inr (some c))), some (.inl (a : Int)), some (.inl ((s : Nat) : Int)), some (.inl (i : Int)), some (.inl (x : Int)), some (.inl (x : Int))]) ?_ ?_ (5) (0) (fun k_ => ([some (.inr (.inr (some 116))), some (.inr (.inr (some c))), some (.inl (a : Int)), some (.inl ((s : Nat) : Int)), some (.inl (i : Int)), some (.inl 0), some (.inl 0)] : am_L).getD k_ none) (JM) (by omega) (rfl) (rfl) rfl
      · intro x e_x J hix hpx hvx hkx
        subst hvx
        have hbest : J 118 (i * 32 + s) = BS (gn ρ n cl) N (N - i) s := by have z := htM (N - i) s (by omega) hts; rw [show N - (N - i) = i by omega] at z; exact z
        refine (ex_4_6 (ex_0 ?_))
        refine ex_ic3 (fun hc29 => by exfalso; omega) (fun hc29 => ?_)
        refine (ex_6_0 (ex_4_4 (ex_4_3 (ex_4_5 (ix_46 (S' := [(.inl (mw (gn ρ n cl) (BS (gn ρ n cl) N (N - 1 - i)) i s x))]) rfl (sh_116 hS) (k_mw (g := (gn ρ n cl)) (bn := BS (gn ρ n cl) N (N - 1 - i)) (c1 := i) (t := s) (who := x) hS (by omega) hts (fun t ht => by have z := htM (N - 1 - i) t (by omega) ht; rw [show N - (N - 1 - i) = i + 1 by omega] at z; exact z) (fun f hf => hgM _ f (by omega) hf) (fun t _ => by have := BS_b (N := N) (fun c f => gn_b (ρ := ρ) (n := n) (cl := cl) (c := c) (f := f)) (N - 1 - i) t; omega) (fun f _ => gn_b) (by omega)) rfl rfl (ex_6_0 (ix_41r (sh_116 hS) (pt_116_2 hS) (ex_4_4 (ex_0 (ex_mul ⟨by omega, by omega⟩ (ex_4_3 (ex_add ⟨by omega, by omega⟩ (ix_30 (j := ((i * 32) + s)) (v := (BS (gn ρ n cl) N (N - i) s)) (sh_118 hS) (by omega) (by omega) (by omega) hbest ?_)))))))))))))
        refine ex_ic0 (fun hc53 => by exact absurd (decide_eq_true hc53) hpx) (fun hc53 => ?_)
        refine (ex_10_5 ⟨by omega, by omega⟩ rfl (ex_10_6 ⟨by omega, by omega⟩ rfl (ex_28 ?_)))
        exact hkx (fun k_ => ([some (.inr (.inr (some 116))), some (.inr (.inr (some c))), some (.inl (a : Int)), some (.inl ((s : Nat) : Int)), some (.inl (i : Int)), some (.inl ((x : Int) + 1)), some (.inl ((x : Int) + 1))] : am_L).getD k_ none) _ (rfl)
      · intro e_x J hzx hpx hvx
        subst hvx
        have hbest : J 118 (i * 32 + s) = BS (gn ρ n cl) N (N - i) s := by have z := htM (N - i) s (by omega) hts; rw [show N - (N - i) = i by omega] at z; exact z
        have hlq := lq_le (g := (gn ρ n cl)) (N := N) (c := i) (t := s)
        refine (ex_4_6 (ex_0 ?_))
        refine ex_ic3 (fun hc29 => ?_) (fun hc29 => ?_)
        · refine (ex_4_4 (ex_4_2 ?_))
          refine ex_ic1 (fun hc68 => ?_) (fun hc68 => by exfalso; omega)
          refine (ex_4_3 (ex_4_5 (ex_0 ?_)))
          refine ex_ic1 (fun hc78 => ?_) (fun hc78 => ?_)
          · refine (ex_0 (ex_4_5 (ex_11e (am_shl1 (k := (lq (gn ρ n cl) N i s)) (by omega)) (ex_58 (ex_11e (am_or (a := s) (b := (2 ^ (lq (gn ρ n cl) N i s))) (Nat.lt_trans hts (by decide)) (Nat.pow_lt_pow_right (by decide) (by omega))) (ex_7_3 rfl (ex_10_4 ⟨by omega, by omega⟩ rfl (ex_28 ?_))))))))
            have ht_ : s' = (s ||| (2 ^ (lq (gn ρ n cl) N i s))) := by rw [hsi]; unfold tks; first | (rw [if_pos (by omega)]; exact (Nat.or_zero _).symm) | rw [if_neg (by omega)]
            rw [ht_] at hki
            exact hki (fun k_ => ([some (.inr (.inr (some 116))), some (.inr (.inr (some c))), some (.inl (a : Int)), some (.inl (((s ||| (2 ^ (lq (gn ρ n cl) N i s))) : Nat) : Int)), some (.inl ((i : Int) + 1)), some (.inl ((lq (gn ρ n cl) N i s) : Int)), some (.inl ((lq (gn ρ n cl) N i s) : Int))] : am_L).getD k_ none)
          · refine (ex_0 (ex_28 (ex_11e (am_or (a := s) (b := 0) (Nat.lt_trans hts (by decide)) (by decide)) (ex_7_3 rfl (ex_10_4 ⟨by omega, by omega⟩ rfl (ex_28 ?_))))))
            have ht_ : s' = (s ||| 0) := by rw [hsi]; unfold tks; first | (rw [if_pos (by omega)]; exact (Nat.or_zero _).symm) | rw [if_neg (by omega)]
            rw [ht_] at hki
            exact hki (fun k_ => ([some (.inr (.inr (some 116))), some (.inr (.inr (some c))), some (.inl (a : Int)), some (.inl (((s ||| 0) : Nat) : Int)), some (.inl ((i : Int) + 1)), some (.inl ((lq (gn ρ n cl) N i s) : Int)), some (.inl ((lq (gn ρ n cl) N i s) : Int))] : am_L).getD k_ none)
        · refine (ex_6_0 (ex_4_4 (ex_4_3 (ex_4_5 (ix_46 (S' := [(.inl (mw (gn ρ n cl) (BS (gn ρ n cl) N (N - 1 - i)) i s (lq (gn ρ n cl) N i s)))]) rfl (sh_116 hS) (k_mw (g := (gn ρ n cl)) (bn := BS (gn ρ n cl) N (N - 1 - i)) (c1 := i) (t := s) (who := (lq (gn ρ n cl) N i s)) hS (by omega) hts (fun t ht => by have z := htM (N - 1 - i) t (by omega) ht; rw [show N - (N - 1 - i) = i + 1 by omega] at z; exact z) (fun f hf => hgM _ f (by omega) hf) (fun t _ => by have := BS_b (N := N) (fun c f => gn_b (ρ := ρ) (n := n) (cl := cl) (c := c) (f := f)) (N - 1 - i) t; omega) (fun f _ => gn_b) (by omega)) rfl rfl (ex_6_0 (ix_41r (sh_116 hS) (pt_116_2 hS) (ex_4_4 (ex_0 (ex_mul ⟨by omega, by omega⟩ (ex_4_3 (ex_add ⟨by omega, by omega⟩ (ix_30 (j := ((i * 32) + s)) (v := (BS (gn ρ n cl) N (N - i) s)) (sh_118 hS) (by omega) (by omega) (by omega) hbest ?_)))))))))))))
          refine ex_ic0 (fun hc53 => ?_) (fun hc53 => by exact absurd (of_decide_eq_true (hpx (by omega))) hc53)
          refine (ex_4_4 (ex_4_2 ?_))
          refine ex_ic1 (fun hc68 => ?_) (fun hc68 => by exfalso; omega)
          refine (ex_4_3 (ex_4_5 (ex_0 ?_)))
          refine ex_ic1 (fun hc78 => ?_) (fun hc78 => ?_)
          · refine (ex_0 (ex_4_5 (ex_11e (am_shl1 (k := (lq (gn ρ n cl) N i s)) (by omega)) (ex_58 (ex_11e (am_or (a := s) (b := (2 ^ (lq (gn ρ n cl) N i s))) (Nat.lt_trans hts (by decide)) (Nat.pow_lt_pow_right (by decide) (by omega))) (ex_7_3 rfl (ex_10_4 ⟨by omega, by omega⟩ rfl (ex_28 ?_))))))))
            have ht_ : s' = (s ||| (2 ^ (lq (gn ρ n cl) N i s))) := by rw [hsi]; unfold tks; first | (rw [if_pos (by omega)]; exact (Nat.or_zero _).symm) | rw [if_neg (by omega)]
            rw [ht_] at hki
            exact hki (fun k_ => ([some (.inr (.inr (some 116))), some (.inr (.inr (some c))), some (.inl (a : Int)), some (.inl (((s ||| (2 ^ (lq (gn ρ n cl) N i s))) : Nat) : Int)), some (.inl ((i : Int) + 1)), some (.inl ((lq (gn ρ n cl) N i s) : Int)), some (.inl ((lq (gn ρ n cl) N i s) : Int))] : am_L).getD k_ none)
          · refine (ex_0 (ex_28 (ex_11e (am_or (a := s) (b := 0) (Nat.lt_trans hts (by decide)) (by decide)) (ex_7_3 rfl (ex_10_4 ⟨by omega, by omega⟩ rfl (ex_28 ?_))))))
            have ht_ : s' = (s ||| 0) := by rw [hsi]; unfold tks; first | (rw [if_pos (by omega)]; exact (Nat.or_zero _).symm) | rw [if_neg (by omega)]
            rw [ht_] at hki
            exact hki (fun k_ => ([some (.inr (.inr (some 116))), some (.inr (.inr (some c))), some (.inl (a : Int)), some (.inl (((s ||| 0) : Nat) : Int)), some (.inl ((i : Int) + 1)), some (.inl ((lq (gn ρ n cl) N i s) : Int)), some (.inl ((lq (gn ρ n cl) N i s) : Int))] : am_L).getD k_ none)
    · intro s e_i hsi hvi
      have hts := hvi
      refine (ex_4_4 (ex_6_1 (ix_41i (v := (N : Int)) (cs_0 hS hCc) ((CC_n0 hEM.1).trans hN) ?_)))
      refine ex_ic3 (fun hc17 => by exfalso; omega) (fun hc17 => ?_)
      refine (ex_0 (ex_7_5 rfl (ex_0 (ex_7_6 rfl (ex_58 ?_)))))
      refine ex_whR (b := 3) (fun x => decide (mw (gn ρ n cl) (BS (gn ρ n cl) N (N - 1 - a)) a s x = BS (gn ρ n cl) N (N - a) s)) (5) ((lq (gn ρ n cl) N a s)) (fun x J => J = JM) (fun x e_x => [some (.inr (.inr (some 116))), some (.inr (.inr (some c))), some (.inl (a : Int)), some (.inl ((s : Nat) : Int)), some (.inl ((a) : Int)), some (.inl (x : Int)), some (.inl (x : Int))]) ?_ ?_ (5) (0) (fun k_ => ([some (.inr (.inr (some 116))), some (.inr (.inr (some c))), some (.inl (a : Int)), some (.inl ((s : Nat) : Int)), some (.inl ((a) : Int)), some (.inl 0), some (.inl 0)] : am_L).getD k_ none) (JM) (by omega) (rfl) (rfl) rfl
      · intro x e_x J hix hpx hvx hkx
        subst hvx
        have hbest : J 118 (a * 32 + s) = BS (gn ρ n cl) N (N - a) s := by have z := htM (N - a) s (by omega) hts; rw [show N - (N - a) = a by omega] at z; exact z
        refine (ex_4_6 (ex_0 ?_))
        refine ex_ic3 (fun hc29 => by exfalso; omega) (fun hc29 => ?_)
        refine (ex_6_0 (ex_4_4 (ex_4_3 (ex_4_5 (ix_46 (S' := [(.inl (mw (gn ρ n cl) (BS (gn ρ n cl) N (N - 1 - a)) a s x))]) rfl (sh_116 hS) (k_mw (g := (gn ρ n cl)) (bn := BS (gn ρ n cl) N (N - 1 - a)) (c1 := a) (t := s) (who := x) hS (by omega) hts (fun t ht => by have z := htM (N - 1 - a) t (by omega) ht; rw [show N - (N - 1 - a) = a + 1 by omega] at z; exact z) (fun f hf => hgM _ f (by omega) hf) (fun t _ => by have := BS_b (N := N) (fun c f => gn_b (ρ := ρ) (n := n) (cl := cl) (c := c) (f := f)) (N - 1 - a) t; omega) (fun f _ => gn_b) (by omega)) rfl rfl (ex_6_0 (ix_41r (sh_116 hS) (pt_116_2 hS) (ex_4_4 (ex_0 (ex_mul ⟨by omega, by omega⟩ (ex_4_3 (ex_add ⟨by omega, by omega⟩ (ix_30 (j := (((a) * 32) + s)) (v := (BS (gn ρ n cl) N (N - a) s)) (sh_118 hS) (by omega) (by omega) (by omega) hbest ?_)))))))))))))
        refine ex_ic0 (fun hc53 => by exact absurd (decide_eq_true hc53) hpx) (fun hc53 => ?_)
        refine (ex_10_5 ⟨by omega, by omega⟩ rfl (ex_10_6 ⟨by omega, by omega⟩ rfl (ex_28 ?_)))
        exact hkx (fun k_ => ([some (.inr (.inr (some 116))), some (.inr (.inr (some c))), some (.inl (a : Int)), some (.inl ((s : Nat) : Int)), some (.inl ((a) : Int)), some (.inl ((x : Int) + 1)), some (.inl ((x : Int) + 1))] : am_L).getD k_ none) _ (rfl)
      · intro e_x J hzx hpx hvx
        subst hvx
        have hbest : J 118 (a * 32 + s) = BS (gn ρ n cl) N (N - a) s := by have z := htM (N - a) s (by omega) hts; rw [show N - (N - a) = a by omega] at z; exact z
        have hlq := lq_le (g := (gn ρ n cl)) (N := N) (c := a) (t := s)
        refine (ex_4_6 (ex_0 ?_))
        refine ex_ic3 (fun hc29 => ?_) (fun hc29 => ?_)
        · refine (ex_4_4 (ex_4_2 ?_))
          refine ex_ic1 (fun hc68 => by exfalso; omega) (fun hc68 => ?_)
          refine (ex_4_5 ?_)
          exact ex_53 ⟨_, by rw [hsi]; rfl, hEM, hfM⟩
        · refine (ex_6_0 (ex_4_4 (ex_4_3 (ex_4_5 (ix_46 (S' := [(.inl (mw (gn ρ n cl) (BS (gn ρ n cl) N (N - 1 - a)) a s (lq (gn ρ n cl) N a s)))]) rfl (sh_116 hS) (k_mw (g := (gn ρ n cl)) (bn := BS (gn ρ n cl) N (N - 1 - a)) (c1 := a) (t := s) (who := (lq (gn ρ n cl) N a s)) hS (by omega) hts (fun t ht => by have z := htM (N - 1 - a) t (by omega) ht; rw [show N - (N - 1 - a) = a + 1 by omega] at z; exact z) (fun f hf => hgM _ f (by omega) hf) (fun t _ => by have := BS_b (N := N) (fun c f => gn_b (ρ := ρ) (n := n) (cl := cl) (c := c) (f := f)) (N - 1 - a) t; omega) (fun f _ => gn_b) (by omega)) rfl rfl (ex_6_0 (ix_41r (sh_116 hS) (pt_116_2 hS) (ex_4_4 (ex_0 (ex_mul ⟨by omega, by omega⟩ (ex_4_3 (ex_add ⟨by omega, by omega⟩ (ix_30 (j := (((a) * 32) + s)) (v := (BS (gn ρ n cl) N (N - a) s)) (sh_118 hS) (by omega) (by omega) (by omega) hbest ?_)))))))))))))
          refine ex_ic0 (fun hc53 => ?_) (fun hc53 => by exact absurd (of_decide_eq_true (hpx (by omega))) hc53)
          refine (ex_4_4 (ex_4_2 ?_))
          refine ex_ic1 (fun hc68 => by exfalso; omega) (fun hc68 => ?_)
          refine (ex_4_5 ?_)
          exact ex_53 ⟨_, by rw [hsi]; rfl, hEM, hfM⟩
  obtain ⟨o, e, I1, rfl, h⟩ := am_doQ (as := [(.inr (.inr (some 116))), (.inr (.inr (some c))), (.inl (a : Int))]) (Nat.le_of_ble_eq_true rfl) rfl w
  exact ⟨I1, e, h⟩
theorem tk2_it {g : Nat → Nat → Int} {N : Nat} : ∀ c, am_it (fun i (s : Nat × Nat) => (tks g N i s.1, lq g N i s.1)) (c + 1) 0 (0, 0) = (tkn g N (c + 1), lq g N c (tkn g N c))
  | 0 => rfl
  | c + 1 => by
    rw [am_it_succ, tk2_it c, Nat.zero_add]
    show (tks g N (c + 1) (tkn g N (c + 1)), lq g N (c + 1) (tkn g N (c + 1))) = _
    unfold tkn
    rw [am_it_succ _ (c + 1), Nat.zero_add]
/-- all but where answers are worked out, and what is thrown -/
def AFn (I J : Nat → Nat → Int) : Prop := ∀ q k, ¬ q = 228 → ¬ q = 226 → ¬ q = 231 → ¬ q = 232 → ¬ (q = 208 ∧ k = 0) → ¬ (q = 208 ∧ (k = 34 ∨ k = 38 ∨ k = 39 ∨ k = 40)) → J q k = I q k
theorem m_answered_b {d : Nat} {G : am_G} {I : Nat → Nat → Int} {P : Nat → Nat → Option Nat} (hS : ST G P) {ρ : Nat → Int} {n : Nat} {cl : Nat → Cl} (hM : ME I ρ n cl) {N : Nat} (hN : ρ 0 = (N : Int)) {w : Int} (hw : ¬ (0 ≤ w ∧ w ≤ (N : Int))) : am_call am_B am_M (d + 11) 257 [(.inr (.inr (some 208))), (.inl w)] (G, I, P) = some (some (.inl (-1)), (G, am_u2 I 208 0 0, P)) := by
  have h06 := RW_n0 hM.2.1
  have h15 := RW_n1 hM.2.1
  have hM0 : ME (am_u2 I 208 0 0) ρ n cl := ⟨(u2_qf (by decide)).trans hM.1, hM.2.1, hM.2.2.1, (u2_k (by decide)).trans hM.2.2.2⟩
  refine am_doL (L := [some (.inr (.inr (some 208))), some (.inl w), none, none, none]) (Nat.le_of_ble_eq_true rfl) rfl ?_
  refine (ex_6_0 (ex_0 (ix_42i (sh_208 hS) (ex_4_1 (ex_19 (ex_1 (ex_6_0 (ix_41r (sh_208 hS) (pt_208_3 hS) (ex_0 (ix_30 (j := 0) (v := (N : Int)) (sh_210 hS) (by decide) (by decide) rfl ((u2_q (by decide)).trans ((congrFun hM.1 _).trans hN)) (ex_19 ?_)))))))))))
  have hb15 : ¬ (((0 : Int) ≤ w ∧ (w : Int) ≤ (N : Int))) := by omega
  refine (ix_45 (S' := [(.inl 0)]) rfl (c_in_f hb15) rfl rfl (ex_if1 (fun hc => by exfalso; revert hc; decide) (fun _ => ?_)))
  refine (ex_0 ?_)
  exact ex_53 rfl
theorem m_answered_0 {d : Nat} {G : am_G} {I : Nat → Nat → Int} {P : Nat → Nat → Option Nat} (hS : ST G P) {ρ : Nat → Int} {n : Nat} {cl : Nat → Cl} (hM : ME I ρ n cl) {N : Nat} (hN : ρ 0 = (N : Int)) : ∃ I1, am_call am_B am_M (d + 11) 257 [(.inr (.inr (some 208))), (.inl 0)] (G, I, P) = some (some (.inl (BS (gn ρ n cl) N N 0)), (G, I1, P)) ∧ (ME I1 ρ n cl ∧ AFn I I1) := by
  have h06 := RW_n0 hM.2.1
  have h15 := RW_n1 hM.2.1
  have hM0 : ME (am_u2 I 208 0 0) ρ n cl := ⟨(u2_qf (by decide)).trans hM.1, hM.2.1, hM.2.2.1, (u2_k (by decide)).trans hM.2.2.2⟩
  have w : am_ex (am_call am_B am_M (d + 10)) (am_B 257) (am_B 257 0) [some (.inr (.inr (some 208))), some (.inl 0), none, none, none] [] (G, I, P) (fun o => ∃ I1, o = (some (.inl (BS (gn ρ n cl) N N 0)), (G, I1, P)) ∧ (ME I1 ρ n cl ∧ AFn I I1)) := by
    refine (ex_6_0 (ex_0 (ix_42i (sh_208 hS) (ex_4_1 (ex_19 (ex_1 (ex_6_0 (ix_41r (sh_208 hS) (pt_208_3 hS) (ex_0 (ix_30 (j := 0) (v := (N : Int)) (sh_210 hS) (by decide) (by decide) rfl ((u2_q (by decide)).trans ((congrFun hM.1 _).trans hN)) (ex_19 ?_)))))))))))
    have hb15 : ((0 : Int) ≤ 0 ∧ (0 : Int) ≤ (N : Int)) := by omega
    refine (ix_45 (S' := [(.inl 1)]) rfl (c_in_t hb15) rfl rfl (ex_if1 (fun _ => ?_) (fun hc => by exfalso; revert hc; decide)))
    refine (ex_6_0 ?_)
    obtain ⟨JM, eM, hEM, hgM, htM, hfM⟩ := c_layAns (d := d) hS hM0 hN
    have hr0 : JM 231 0 = BS (gn ρ n cl) N N 0 := by have z := htM N 0 (Nat.le_refl _) (by decide); rw [show 32 * (N - N) + 0 = 0 by omega] at z; exact z
    refine (ix_46 (S' := []) rfl (sh_208 hS) eM rfl rfl (ex_4_1 (ex_if1 (fun hc => by exfalso; revert hc; decide) (fun _ => ?_))))
    refine (ex_6_0 (ix_41r (sh_208 hS) (pt_208_43 hS) (ex_0 (ix_30 (j := 0) (v := (BS (gn ρ n cl) N N 0)) (sh_231 hS) (by decide) (by decide) rfl hr0 ?_))))
    exact ex_53 ⟨_, rfl, hEM, (fun q k h1 h2 h3 h4 h5 h6 => (hfM q k h1 h2 h3 h4 h6).trans (u2_o h5))⟩
  obtain ⟨o, e, I1, rfl, h⟩ := am_doQ (as := [(.inr (.inr (some 208))), (.inl 0)]) (Nat.le_of_ble_eq_true rfl) rfl w
  exact ⟨I1, e, h⟩
theorem m_answered_c {d : Nat} {G : am_G} {I : Nat → Nat → Int} {P : Nat → Nat → Option Nat} (hS : ST G P) {ρ : Nat → Int} {n : Nat} {cl : Nat → Cl} (hM : ME I ρ n cl) {N : Nat} (hN : ρ 0 = (N : Int)) {a : Nat} (ha : a < N) : ∃ I1, am_call am_B am_M (d + 11) 257 [(.inr (.inr (some 208))), (.inl ((a + 1 : Nat) : Int))] (G, I, P) = some (some (.inl ((lq (gn ρ n cl) N a (tkn (gn ρ n cl) N a) : Nat) : Int)), (G, I1, P)) ∧ (ME I1 ρ n cl ∧ AFn I I1) := by
  have h06 := RW_n0 hM.2.1
  have h15 := RW_n1 hM.2.1
  have hM0 : ME (am_u2 I 208 0 0) ρ n cl := ⟨(u2_qf (by decide)).trans hM.1, hM.2.1, hM.2.2.1, (u2_k (by decide)).trans hM.2.2.2⟩
  have w : am_ex (am_call am_B am_M (d + 10)) (am_B 257) (am_B 257 0) [some (.inr (.inr (some 208))), some (.inl ((a + 1 : Nat) : Int)), none, none, none] [] (G, I, P) (fun o => ∃ I1, o = (some (.inl ((lq (gn ρ n cl) N a (tkn (gn ρ n cl) N a) : Nat) : Int)), (G, I1, P)) ∧ (ME I1 ρ n cl ∧ AFn I I1)) := by
    refine (ex_6_0 (ex_0 (ix_42i (sh_208 hS) (ex_4_1 (ex_19 (ex_1 (ex_6_0 (ix_41r (sh_208 hS) (pt_208_3 hS) (ex_0 (ix_30 (j := 0) (v := (N : Int)) (sh_210 hS) (by decide) (by decide) rfl ((u2_q (by decide)).trans ((congrFun hM.1 _).trans hN)) (ex_19 ?_)))))))))))
    have hb15 : ((0 : Int) ≤ ((a + 1 : Nat) : Int) ∧ (((a + 1 : Nat) : Int) : Int) ≤ (N : Int)) := by omega
    refine (ix_45 (S' := [(.inl 1)]) rfl (c_in_t hb15) rfl rfl (ex_if1 (fun _ => ?_) (fun hc => by exfalso; revert hc; decide)))
    refine (ex_6_0 ?_)
    obtain ⟨JM, eM, hEM, hgM, htM, hfM⟩ := c_layAns (d := d) hS hM0 hN
    refine (ix_46 (S' := []) rfl (sh_208 hS) eM rfl rfl (ex_4_1 ?_))
    refine ex_if1 (fun hc28 => ?_) (fun hc28 => by exfalso; omega)
    refine (ex_0 (ex_7_2 rfl (ex_0 (ex_7_3 rfl (ex_0 (ex_7_4 rfl (ex_58 ?_)))))))
    refine ex_forH (b := 5) (σ := Nat × Nat) ((a + 1)) (fun i s => (tks (gn ρ n cl) N i s.1, lq (gn ρ n cl) N i s.1)) (fun i s => s.1 < 32) (fun i s e_i => [some (.inr (.inr (some 208))), some (.inl ((a + 1 : Nat) : Int)), some (.inl ((s.1 : Nat) : Int)), some (.inl (s.2 : Int)), some (.inl (i : Int))]) (fun i s => (G, JM, P)) ?_ ?_ ((a + 1)) (0) ((0, 0)) (fun k_ => ([some (.inr (.inr (some 208))), some (.inl ((a + 1 : Nat) : Int)), some (.inl 0), some (.inl 0), some (.inl 0)] : am_L).getD k_ none) (by omega) (by decide) rfl (rfl) ?_
    · intro i s hii hvi
      exact tks_lt hvi
    · intro i s e_i hii hvi s' hsi hki
      have hts := hvi
      refine (ex_4_4 (ex_4_1 ?_))
      refine ex_ic3 (fun hc48 => by exfalso; omega) (fun hc48 => ?_)
      refine (ex_0 (ex_7_3 rfl (ex_58 ?_)))
      refine ex_whR (b := 7) (fun x => decide (mw (gn ρ n cl) (BS (gn ρ n cl) N (N - 1 - i)) i s.1 x = BS (gn ρ n cl) N (N - i) s.1)) (5) ((lq (gn ρ n cl) N i s.1)) (fun x J => J = JM) (fun x e_x => [some (.inr (.inr (some 208))), some (.inl ((a + 1 : Nat) : Int)), some (.inl ((s.1 : Nat) : Int)), some (.inl (x : Int)), some (.inl (i : Int))]) ?_ ?_ (5) (0) (fun k_ => ([some (.inr (.inr (some 208))), some (.inl ((a + 1 : Nat) : Int)), some (.inl ((s.1 : Nat) : Int)), some (.inl 0), some (.inl (i : Int))] : am_L).getD k_ none) (JM) (by omega) (rfl) (rfl) rfl
      · intro x e_x J hix hpx hvx hkx
        subst hvx
        have hbest : J 231 (32 * i + s.1) = BS (gn ρ n cl) N (N - i) s.1 := by have z := htM (N - i) s.1 (by omega) hts; rw [show N - (N - i) = i by omega] at z; exact z
        have hab := ad_b (g := (gn ρ n cl)) (c := i) (t := s.1) (f := x) (fun c f => gn_b (ρ := ρ) (n := n) (cl := cl) (c := c) (f := f))
        have hbb := bh_b (bn := BS (gn ρ n cl) N (N - 1 - i)) (t := s.1) (f := x) (fun t => BS_b (N := N) (fun c f => gn_b (ρ := ρ) (n := n) (cl := cl) (c := c) (f := f)) (N - 1 - i) t)
        have hbs := BS_b (N := N) (fun c f => gn_b (ρ := ρ) (n := n) (cl := cl) (c := c) (f := f)) (N - i) s.1
        refine (ex_6_0 (ex_4_4 (ex_4_3 (ex_4_2 (ix_46 (S' := [(.inl (ad (gn ρ n cl) i s.1 x))]) rfl (sh_208 hS) (c_adds (g := (gn ρ n cl)) (c := i) (t := s.1) (f := x) hS (by omega) hts (by omega) (fun f hf => hgM _ f (by omega) hf)) rfl rfl (ex_0 ?_))))))
        refine ex_ic0 (fun hc62 => ?_) (fun hc62 => ?_)
        · refine (ex_10_3 ⟨by omega, by omega⟩ rfl (ex_28 ?_))
          exact hkx (fun k_ => ([some (.inr (.inr (some 208))), some (.inl ((a + 1 : Nat) : Int)), some (.inl ((s.1 : Nat) : Int)), some (.inl ((x : Int) + 1)), some (.inl (i : Int))] : am_L).getD k_ none) _ (rfl)
        · refine (ex_6_0 (ex_4_4 (ex_4_3 (ex_4_2 (ix_46 (S' := [(.inl (ad (gn ρ n cl) i s.1 x))]) rfl (sh_208 hS) (c_adds (g := (gn ρ n cl)) (c := i) (t := s.1) (f := x) hS (by omega) hts (by omega) (fun f hf => hgM _ f (by omega) hf)) rfl rfl (ex_6_0 (ex_4_4 (ex_4_3 (ex_4_2 (ix_46 (S' := [(.inl (bh (BS (gn ρ n cl) N (N - 1 - i)) s.1 x)), (.inl (ad (gn ρ n cl) i s.1 x))]) rfl (sh_208 hS) (c_behind (bn := BS (gn ρ n cl) N (N - 1 - i)) (c := i) (t := s.1) (f := x) hS (by omega) hts (by omega) (fun t ht => by have z := htM (N - 1 - i) t (by omega) ht; rw [show N - (N - 1 - i) = i + 1 by omega] at z; exact z)) rfl rfl (ex_add ⟨by omega, by omega⟩ (ex_6_0 (ix_41r (sh_208 hS) (pt_208_43 hS) (ex_0 (ex_4_4 (ex_mul ⟨by omega, by omega⟩ (ex_4_2 (ex_add ⟨by omega, by omega⟩ (ix_30 (j := ((32 * i) + s.1)) (v := (BS (gn ρ n cl) N (N - i) s.1)) (sh_231 hS) (by omega) (by omega) (by omega) hbest ?_)))))))))))))))))))
          refine ex_ic0 (fun hc94 => by exact absurd (decide_eq_true (by rw [mw_a, if_neg hc62]; exact hc94)) hpx) (fun hc94 => ?_)
          refine (ex_10_3 ⟨by omega, by omega⟩ rfl (ex_28 ?_))
          exact hkx (fun k_ => ([some (.inr (.inr (some 208))), some (.inl ((a + 1 : Nat) : Int)), some (.inl ((s.1 : Nat) : Int)), some (.inl ((x : Int) + 1)), some (.inl (i : Int))] : am_L).getD k_ none) _ (rfl)
      · intro e_x J hzx hpx hvx
        subst hvx
        have hbest : J 231 (32 * i + s.1) = BS (gn ρ n cl) N (N - i) s.1 := by have z := htM (N - i) s.1 (by omega) hts; rw [show N - (N - i) = i by omega] at z; exact z
        have hlq := lq_le (g := (gn ρ n cl)) (N := N) (c := i) (t := s.1)
        have hmw := lq_ok (t := s.1) (fun c f => gn_b (ρ := ρ) (n := n) (cl := cl) (c := c) (f := f)) (show i < N by omega)
        have hab := ad_b (g := (gn ρ n cl)) (c := i) (t := s.1) (f := (lq (gn ρ n cl) N i s.1)) (fun c f => gn_b (ρ := ρ) (n := n) (cl := cl) (c := c) (f := f))
        have hbb := bh_b (bn := BS (gn ρ n cl) N (N - 1 - i)) (t := s.1) (f := (lq (gn ρ n cl) N i s.1)) (fun t => BS_b (N := N) (fun c f => gn_b (ρ := ρ) (n := n) (cl := cl) (c := c) (f := f)) (N - 1 - i) t)
        have hbs := BS_b (N := N) (fun c f => gn_b (ρ := ρ) (n := n) (cl := cl) (c := c) (f := f)) (N - i) s.1
        rw [mw_a] at hmw
        have hne : ¬ ad (gn ρ n cl) i s.1 (lq (gn ρ n cl) N i s.1) = -1 := fun z => by rw [if_pos z] at hmw; omega
        rw [if_neg hne] at hmw
        refine (ex_6_0 (ex_4_4 (ex_4_3 (ex_4_2 (ix_46 (S' := [(.inl (ad (gn ρ n cl) i s.1 (lq (gn ρ n cl) N i s.1)))]) rfl (sh_208 hS) (c_adds (g := (gn ρ n cl)) (c := i) (t := s.1) (f := (lq (gn ρ n cl) N i s.1)) hS (by omega) hts (by omega) (fun f hf => hgM _ f (by omega) hf)) rfl rfl (ex_0 ?_))))))
        refine ex_ic0 (fun hc62 => by exact absurd hc62 hne) (fun hc62 => ?_)
        refine (ex_6_0 (ex_4_4 (ex_4_3 (ex_4_2 (ix_46 (S' := [(.inl (ad (gn ρ n cl) i s.1 (lq (gn ρ n cl) N i s.1)))]) rfl (sh_208 hS) (c_adds (g := (gn ρ n cl)) (c := i) (t := s.1) (f := (lq (gn ρ n cl) N i s.1)) hS (by omega) hts (by omega) (fun f hf => hgM _ f (by omega) hf)) rfl rfl (ex_6_0 (ex_4_4 (ex_4_3 (ex_4_2 (ix_46 (S' := [(.inl (bh (BS (gn ρ n cl) N (N - 1 - i)) s.1 (lq (gn ρ n cl) N i s.1))), (.inl (ad (gn ρ n cl) i s.1 (lq (gn ρ n cl) N i s.1)))]) rfl (sh_208 hS) (c_behind (bn := BS (gn ρ n cl) N (N - 1 - i)) (c := i) (t := s.1) (f := (lq (gn ρ n cl) N i s.1)) hS (by omega) hts (by omega) (fun t ht => by have z := htM (N - 1 - i) t (by omega) ht; rw [show N - (N - 1 - i) = i + 1 by omega] at z; exact z)) rfl rfl (ex_add ⟨by omega, by omega⟩ (ex_6_0 (ix_41r (sh_208 hS) (pt_208_43 hS) (ex_0 (ex_4_4 (ex_mul ⟨by omega, by omega⟩ (ex_4_2 (ex_add ⟨by omega, by omega⟩ (ix_30 (j := ((32 * i) + s.1)) (v := (BS (gn ρ n cl) N (N - i) s.1)) (sh_231 hS) (by omega) (by omega) (by omega) hbest ?_)))))))))))))))))))
        refine ex_ic0 (fun hc94 => ?_) (fun hc94 => by exact absurd hmw hc94)
        refine (ex_4_2 (ex_4_3 (ex_0 ?_)))
        refine ex_ic1 (fun hc106 => ?_) (fun hc106 => ?_)
        · refine (ex_0 (ex_4_3 (ex_11e (am_shl1 (k := (lq (gn ρ n cl) N i s.1)) (by omega)) (ex_58 (ex_11e (am_or (a := s.1) (b := (2 ^ (lq (gn ρ n cl) N i s.1))) (Nat.lt_trans hts (by decide)) (Nat.pow_lt_pow_right (by decide) (by omega))) (ex_7_2 rfl (ex_10_4 ⟨by omega, by omega⟩ rfl (ex_28 ?_))))))))
          have ht_ : s' = ((s.1 ||| (2 ^ (lq (gn ρ n cl) N i s.1))), (lq (gn ρ n cl) N i s.1)) := by rw [hsi]; unfold tks; first | (rw [if_pos (by omega)]; exact congrArg (fun x => (x, (lq (gn ρ n cl) N i s.1))) (Nat.or_zero _).symm) | rw [if_neg (by omega)]
          rw [ht_] at hki
          exact hki (fun k_ => ([some (.inr (.inr (some 208))), some (.inl ((a + 1 : Nat) : Int)), some (.inl (((s.1 ||| (2 ^ (lq (gn ρ n cl) N i s.1))) : Nat) : Int)), some (.inl ((lq (gn ρ n cl) N i s.1) : Int)), some (.inl ((i : Int) + 1))] : am_L).getD k_ none)
        · refine (ex_0 (ex_28 (ex_11e (am_or (a := s.1) (b := 0) (Nat.lt_trans hts (by decide)) (by decide)) (ex_7_2 rfl (ex_10_4 ⟨by omega, by omega⟩ rfl (ex_28 ?_))))))
          have ht_ : s' = ((s.1 ||| 0), (lq (gn ρ n cl) N i s.1)) := by rw [hsi]; unfold tks; first | (rw [if_pos (by omega)]; exact congrArg (fun x => (x, (lq (gn ρ n cl) N i s.1))) (Nat.or_zero _).symm) | rw [if_neg (by omega)]
          rw [ht_] at hki
          exact hki (fun k_ => ([some (.inr (.inr (some 208))), some (.inl ((a + 1 : Nat) : Int)), some (.inl (((s.1 ||| 0) : Nat) : Int)), some (.inl ((lq (gn ρ n cl) N i s.1) : Int)), some (.inl ((i : Int) + 1))] : am_L).getD k_ none)
    · intro s e_i hsi hvi
      refine (ex_4_4 (ex_4_1 ?_))
      refine ex_ic3 (fun hc48 => ?_) (fun hc48 => by exfalso; omega)
      refine (ex_4_3 ?_)
      exact ex_53 ⟨_, by rw [hsi, tk2_it], hEM, (fun q k h1 h2 h3 h4 h5 h6 => (hfM q k h1 h2 h3 h4 h6).trans (u2_o h5))⟩
  obtain ⟨o, e, I1, rfl, h⟩ := am_doQ (as := [(.inr (.inr (some 208))), (.inl ((a + 1 : Nat) : Int))]) (Nat.le_of_ble_eq_true rfl) rfl w
  exact ⟨I1, e, h⟩
