/-! ===== the base: the relation holds ===== -/
def b_R : Nat → Nat → Int := b_fI (b_IW.take 56)
def b_ρ : Nat → Int := b_R 210
theorem b_ρ2 : b_ρ 2 = 0 := by decide +kernel
theorem b_ρ3 : b_ρ 3 = 0 := by decide +kernel
theorem b_rw : RW b_ρ := by
  unfold RW
  refine ⟨?_, ?_, ?_, ?_, ?_, ?_, ?_, ?_, ?_, ?_, ?_, ?_, ?_, ?_, ?_, ?_, ?_, ?_, ?_, ?_, ?_, ?_⟩
  · decide +kernel
  · decide +kernel
  · decide +kernel
  · decide +kernel
  · decide +kernel
  · decide +kernel
  · decide +kernel
  · decide +kernel
  · decide +kernel
  · decide +kernel
  · decide +kernel
  · decide +kernel
  · decide +kernel
  · decide +kernel
  · decide +kernel
  · decide +kernel
  · decide +kernel
  · decide +kernel
  · intro b o hb ho; exact (by decide +kernel : ∀ b, b < 6 → ∀ o, o < 6 → b_ρ (52 + 6 * b + o) = b_ρ (52 + 6 * o + b)) b hb o ho
  · decide +kernel
  · decide +kernel
  · intro k hk; rw [b_ρ2] at hk; omega
theorem b_c65 : CC b_R 65 b_ρ := by unfold CC; decide +kernel
theorem b_c139 : CC b_R 139 b_ρ := by unfold CC; decide +kernel
theorem fI_out2 : ∀ (l : List (Nat × Nat × Int)) (a : Int) (q k : Nat), (∀ w ∈ l, ¬ (w.1 = q ∧ w.2.1 = k)) → l.foldl (fun acc w => if w.1 = q ∧ w.2.1 = k then w.2.2 else acc) a = a
  | [], a, q, k, h => rfl
  | x :: l, a, q, k, h => by
    rw [List.foldl_cons, if_neg (h x List.mem_cons_self)]
    exact fI_out2 l a q k (fun w hw => h w (List.mem_cons_of_mem _ hw))
theorem b_zt : ZT b_ρ := fun j hj => fI_out2 _ 0 210 j (fun w hw z => by
  have : ∀ w ∈ b_IW.take 56, w.1 = 210 → w.2.1 < 100 := by decide +kernel
  have := this w hw z.1
  omega)
theorem b_km : KM b_R := by unfold KM; decide +kernel
theorem b_s0 : ∀ j, j < 20 → st_s0[j]? = some ((am_x0 0 (fun _ => 0)).1.2.2 (1 + j)) := by decide +kernel
theorem b_pt0 : ∀ w ∈ st_pt, 64 ≤ w.1 ∧ w.1 < 64 + 176 ∧ b_fP (b_PW.take 182) w.1 w.2.1 = some w.2.2 := by decide +kernel
theorem b_tx0 : ∀ c, c < 18 → ∀ i, i < (st_tx.getD c []).length → ((am_sb.getD c []).getD i 0).toInt = (st_tx.getD c []).getD i 0 := by decide +kernel
theorem b_st {L : Nat} {xs : Nat → Int32} {G : am_G} {I : Nat → Nat → Int} {P : Nat → Nat → Option Nat} (h : AS L xs 176 182 56 22742 G I P) : ST G P := by
  refine ⟨fun j s e => ?_, fun j s e => ?_, fun w hw => ?_⟩
  · have h1 := (List.getElem?_eq_some_iff.mp e).1
    have h2 : st_sh.length = 176 := rfl
    exact h.2.2.2.1 j s (by omega) e
  · have h1 := (List.getElem?_eq_some_iff.mp e).1
    have h2 : st_s0.length = 20 := rfl
    have h3 := b_s0 j (by omega)
    rw [h3] at e
    rw [h.2.2.1 (1 + j) (by omega), ← Option.some.inj e]
    show (if 1 + j = 0 then _ else _) = (if 1 + j = 0 then _ else _)
    rw [if_neg (show ¬ 1 + j = 0 by omega), if_neg (show ¬ 1 + j = 0 by omega)]
  · obtain ⟨a, b, c⟩ := b_pt0 w hw
    exact (h.2.2.2.2.2.2.1 _ _ a b).trans c
theorem b_ks {L : Nat} {xs : Nat → Int32} {G : am_G} {I : Nat → Nat → Int} {P : Nat → Nat → Option Nat} (h : AS L xs 176 182 56 22742 G I P) : KS I := by
  have hi := h.2.2.2.2.1
  refine ⟨fun c w e i hw => ?_, ⟨(hi 1 0 (by decide)).trans rfl, (hi 1 1 (by decide)).trans rfl, (hi 1 2 (by decide)).trans rfl⟩, (hi 2 0 (by decide)).trans rfl, (hi 2 1 (by decide)).trans rfl, (hi 2 2 (by decide)).trans rfl, (hi 2 3 (by decide)).trans rfl, (hi 2 4 (by decide)).trans rfl⟩
  have h1 := (List.getElem?_eq_some_iff.mp e).1
  have h2 : st_tx.length = 18 := rfl
  have ew : st_tx.getD c [] = w := by rw [List.getD_eq_getElem?_getD, e]; rfl
  have h3 := b_tx0 c (by omega) i (by rw [ew]; exact hw)
  rw [ew] at h3
  rw [hi (3 + c) i (by omega), ← h3]
  show (if 3 + c = 0 then _ else if 3 + c = 1 then _ else if 3 + c = 2 then _ else if 3 + c < 21 then _ else _) = _
  rw [if_neg (by omega), if_neg (by omega), if_neg (by omega), if_pos (by omega), show 3 + c - 3 = c by omega]
def b_ll : Lw := fun _ => (0, fun _ => (0, none, none))
theorem b_rel {L : Nat} {xs : Nat → Int32} {G : am_G} {I : Nat → Nat → Int} {P : Nat → Nat → Option Nat} (h : AS L xs 176 182 56 22742 G I P) : REL L xs 0 G I P := by
  have hi : ∀ q k, 64 ≤ q → q < 240 → I q k = b_R q k := fun q k a b => h.2.2.2.2.2.1 q k a b
  have hp : ∀ q k, 64 ≤ q → q < 240 → P q k = b_fP (b_PW.take 182) q k := fun q k a b => h.2.2.2.2.2.2.1 q k a b
  have tn : ∀ c, c = 65 ∨ c = 174 ∨ c = 191 → TNs G P c := fun c hc k hk => Or.inl ((hp _ _ (by omega) (by omega)).trans (by
    have t1 : ∀ k, k < 6 → b_fP (b_PW.take 182) (65 + 16) k = none := by decide +kernel
    have t2 : ∀ k, k < 6 → b_fP (b_PW.take 182) (174 + 16) k = none := by decide +kernel
    have t3 : ∀ k, k < 6 → b_fP (b_PW.take 182) (191 + 16) k = none := by decide +kernel
    rcases hc with rfl | rfl | rfl
    · exact t1 k hk
    · exact t2 k hk
    · exact t3 k hk))
  have v : ∀ q k x, 64 ≤ q → q < 240 → b_R q k = x → I q k = x := fun q k x a b e => (hi q k a b).trans e
  have rk : ∀ k, RKk k → b_R 173 k = 0 ∧ b_R 209 k = 0 := fun k hk => (by decide +kernel : ∀ k, k < 7 → b_R 173 k = 0 ∧ b_R 209 k = 0) k (by unfold RKk at hk; omega)
  refine ⟨b_ρ, [], b_ll, 0, fun _ => 0, -1, 0, 0, -1, fun _ => 0, 0, fun _ => 0, b_ll, 0, fun _ => 0, b_ll, 0, b_ρ, ?_, ?_, ?_⟩
  · exact ⟨WR_clr b_rw (by decide +kernel), fun i hi => absurd hi (by rw [b_ρ3]; omega), b_zt, ⟨by decide, fun k hk => absurd hk (by omega)⟩, fun k _ => (show (0 : Int) ≤ 0 ∧ (0 : Int) ≤ ((0 : Nat) : Int) from ⟨by decide, by decide⟩), Or.inl rfl, Or.inl rfl, by decide +kernel, by decide +kernel, fun _ => by decide +kernel⟩
  · refine ⟨b_st h, b_ks h, ⟨CC_fr b_c65 (fun q k a b _ => hi q k (by omega) (by omega)), ⟨by decide, v 84 4 _ (by decide) (by decide) (by decide +kernel), 0, by decide, v 84 3 _ (by decide) (by decide) (by decide +kernel), fun i hi => absurd hi (by show ¬ i < 0; omega)⟩, fun i hi => absurd hi (by rw [b_ρ3]; omega), tn 65 (Or.inl rfl)⟩, ⟨v 64 13 _ (by decide) (by decide) (by decide +kernel), fun k hk => absurd hk (by omega)⟩, ⟨v 64 14 _ (by decide) (by decide) (by decide +kernel), v 64 15 _ (by decide) (by decide) (by decide +kernel), v 64 16 _ (by decide) (by decide) (by decide +kernel), v 92 7 _ (by decide) (by decide) (by decide +kernel)⟩, fun k hk => v 173 k _ (by decide) (by decide) (rk k hk).1, ⟨v 83 0 _ (by decide) (by decide) (by decide +kernel), tn 174 (Or.inr (Or.inl rfl)), fun e => absurd e (by decide)⟩, ⟨v 83 1 _ (by decide) (by decide) (by decide +kernel), tn 191 (Or.inr (Or.inr rfl)), fun e => absurd e (by decide)⟩, ⟨CC_fr b_c139 (fun q k a b _ => hi q k (by omega) (by omega)), ⟨0, 0, by decide, by decide, v 157 3 _ (by decide) (by decide) (by decide +kernel), v 157 4 _ (by decide) (by decide) (by decide +kernel)⟩⟩, ⟨by rw [h.1]; decide, by rw [h.1]; decide, by rw [h.2.1]; decide⟩, ⟨h.2.2.1 0 (by decide), fun j hj => (h.2.2.2.2.1 0 j (by decide)).trans (if_pos hj)⟩⟩
  · exact ⟨⟨funext fun k => hi 210 k (by decide) (by decide), MLg_nil (v 208 8 _ (by decide) (by decide) (by decide +kernel)), v 208 20 _ (by decide) (by decide) (by decide +kernel)⟩, KM_fr b_km (fun q k hq => hi q k (by omega) (by omega)), ⟨v 208 13 _ (by decide) (by decide) (by decide +kernel), fun k hk => absurd hk (by omega)⟩, ⟨v 208 18 _ (by decide) (by decide) (by decide +kernel), v 208 11 _ (by decide) (by decide) (by decide +kernel), v 208 1 _ (by decide) (by decide) (by decide +kernel), v 208 53 _ (by decide) (by decide) (by decide +kernel)⟩, fun k hk => v 209 k _ (by decide) (by decide) (rk k hk).2, ⟨v 212 0 _ (by decide) (by decide) (by decide +kernel), fun e => absurd e (by decide)⟩, ⟨v 212 1 _ (by decide) (by decide) (by decide +kernel), fun e => absurd e (by decide)⟩, Or.inl ⟨rfl, v 208 57 _ (by decide) (by decide) (by decide +kernel), v 208 58 _ (by decide) (by decide) (by decide +kernel)⟩⟩
