/-! ===== the loop of the law ===== -/
theorem REL_x {L : Nat} {xs : Nat → Int32} {c : Nat} {G : am_G} {I : Nat → Nat → Int} {P : Nat → Nat → Option Nat} (h : REL L xs c G I P) : ST G P ∧ SCR L xs G I ∧ CGs c G := by
  obtain ⟨_, _, _, _, _, _, _, _, _, _, _, _, _, _, _, _, _, _, _, hC, _⟩ := h
  exact ⟨hC.1, hC.2.2.2.2.2.2.2.2.2.2, hC.2.2.2.2.2.2.2.2.2.1⟩
theorem REL_s {L : Nat} {xs : Nat → Int32} {c : Nat} {G : am_G} {I : Nat → Nat → Int} {P : Nat → Nat → Option Nat} (h : REL L xs c G I P) : REL L xs (c + 1) G I P := by
  obtain ⟨ρ, lg, ll, tn, tb, fa, wr, st, sp, rf, ik0, ir0, il0, ik1, ir1, il1, dk, dr, hW, hC, hM⟩ := h
  exact ⟨ρ, lg, ll, tn, tb, fa, wr, st, sp, rf, ik0, ir0, il0, ik1, ir1, il1, dk, dr, WF_s hW, CI_s hC, hM⟩
theorem l_0 {L : Nat} {xs : Nat → Int32} {c : Nat} {G : am_G} {I : Nat → Nat → Int} {P : Nat → Nat → Option Nat} {Q : am_O → Prop} (hR : REL L xs c G I P) (hc : c ≤ 600) (hL : 6 * c + 6 ≤ L) (hk : ∀ G1 I2 P1, REL L xs (c + 1) G1 I2 P1 → am_ex (am_call am_B am_M 100) (am_B 288) (am_B 288 91) [some (.inr (.inr (some 0))), some (.inr (.inr (some 64))), some (.inr (.inr (some 208))), some (.inl ((6 * c : Nat) : Int))] [] (G1, I2, P1) Q) : am_ex (am_call am_B am_M 100) (am_B 288) (am_B 288 3) [some (.inr (.inr (some 0))), some (.inr (.inr (some 64))), some (.inr (.inr (some 208))), some (.inl ((6 * c : Nat) : Int))] [] (G, I, P) Q := by
  obtain ⟨hS, hX, hG⟩ := REL_x hR
  refine (ex_6_1 (ex_6_0 (ex_4_3 (ex_0 (ex_add ⟨by omega, by omega⟩ (ix_30x (j := ((6 * c) + 1)) (v := (xs (6 * c + 1)).toInt) hX.1 (by omega) (by omega) (by omega) (hX.2 _ (by omega)) (ex_6_0 (ex_4_3 (ex_0 (ex_add ⟨by omega, by omega⟩ (ix_30x (j := ((6 * c) + 2)) (v := (xs (6 * c + 2)).toInt) hX.1 (by omega) (by omega) (by omega) (hX.2 _ (by omega)) (ex_6_0 (ex_4_3 (ex_0 (ex_add ⟨by omega, by omega⟩ (ix_30x (j := ((6 * c) + 3)) (v := (xs (6 * c + 3)).toInt) hX.1 (by omega) (by omega) (by omega) (hX.2 _ (by omega)) ?_))))))))))))))))
  obtain ⟨x, G1, I1, P1, I2, e1, hS1, e2, hX1, hR1⟩ := P_cloud hR hc (a := (xs (6 * c + 1)).toInt) (b := (xs (6 * c + 2)).toInt) (w := (xs (6 * c + 3)).toInt)
  refine (ix_46 (S' := [(.inl x)]) rfl (sh_64 hS) e1 rfl rfl (ex_6_2 (ex_6_0 (ex_4_3 (ex_0 (ex_add ⟨by omega, by omega⟩ (ix_30x (j := ((6 * c) + 1)) (v := (xs (6 * c + 1)).toInt) hX1.1 (by omega) (by omega) (by omega) (hX1.2 _ (by omega)) (ex_6_0 (ex_4_3 (ex_0 (ex_add ⟨by omega, by omega⟩ (ix_30x (j := ((6 * c) + 2)) (v := (xs (6 * c + 2)).toInt) hX1.1 (by omega) (by omega) (by omega) (hX1.2 _ (by omega)) (ex_6_0 (ex_4_3 (ex_0 (ex_add ⟨by omega, by omega⟩ (ix_30x (j := ((6 * c) + 3)) (v := (xs (6 * c + 3)).toInt) hX1.1 (by omega) (by omega) (by omega) (hX1.2 _ (by omega)) (ix_46 (S' := [(.inl x), (.inl x)]) rfl (sh_208 hS1) e2 rfl rfl ?_))))))))))))))))))
  refine ex_ic0 (fun hc262 => ?_) (fun hc262 => by exact absurd rfl hc262)
  exact hk _ _ _ hR1
theorem l_1 {L : Nat} {xs : Nat → Int32} {c : Nat} {G : am_G} {I : Nat → Nat → Int} {P : Nat → Nat → Option Nat} {Q : am_O → Prop} (hR : REL L xs c G I P) (hc : c ≤ 600) (hL : 6 * c + 6 ≤ L) (hk : ∀ G1 I2 P1, REL L xs (c + 1) G1 I2 P1 → am_ex (am_call am_B am_M 100) (am_B 288) (am_B 288 91) [some (.inr (.inr (some 0))), some (.inr (.inr (some 64))), some (.inr (.inr (some 208))), some (.inl ((6 * c : Nat) : Int))] [] (G1, I2, P1) Q) : am_ex (am_call am_B am_M 100) (am_B 288) (am_B 288 5) [some (.inr (.inr (some 0))), some (.inr (.inr (some 64))), some (.inr (.inr (some 208))), some (.inl ((6 * c : Nat) : Int))] [] (G, I, P) Q := by
  obtain ⟨hS, hX, hG⟩ := REL_x hR
  refine (ex_6_1 (ex_6_0 (ex_4_3 (ex_0 (ex_add ⟨by omega, by omega⟩ (ix_30x (j := ((6 * c) + 1)) (v := (xs (6 * c + 1)).toInt) hX.1 (by omega) (by omega) (by omega) (hX.2 _ (by omega)) (ex_6_0 (ex_4_3 (ex_0 (ex_add ⟨by omega, by omega⟩ (ix_30x (j := ((6 * c) + 2)) (v := (xs (6 * c + 2)).toInt) hX.1 (by omega) (by omega) (by omega) (hX.2 _ (by omega)) ?_)))))))))))
  obtain ⟨x, G1, I1, P1, I2, e1, hS1, e2, hX1, hR1⟩ := P_of hR hc (a := (xs (6 * c + 1)).toInt) (b := (xs (6 * c + 2)).toInt)
  refine (ix_46 (S' := [(.inl x)]) rfl (sh_64 hS) e1 rfl rfl (ex_6_2 (ex_6_0 (ex_4_3 (ex_0 (ex_add ⟨by omega, by omega⟩ (ix_30x (j := ((6 * c) + 1)) (v := (xs (6 * c + 1)).toInt) hX1.1 (by omega) (by omega) (by omega) (hX1.2 _ (by omega)) (ex_6_0 (ex_4_3 (ex_0 (ex_add ⟨by omega, by omega⟩ (ix_30x (j := ((6 * c) + 2)) (v := (xs (6 * c + 2)).toInt) hX1.1 (by omega) (by omega) (by omega) (hX1.2 _ (by omega)) (ix_46 (S' := [(.inl x), (.inl x)]) rfl (sh_208 hS1) e2 rfl rfl ?_)))))))))))))
  refine ex_ic0 (fun hc295 => ?_) (fun hc295 => by exact absurd rfl hc295)
  exact hk _ _ _ hR1
theorem l_2 {L : Nat} {xs : Nat → Int32} {c : Nat} {G : am_G} {I : Nat → Nat → Int} {P : Nat → Nat → Option Nat} {Q : am_O → Prop} (hR : REL L xs c G I P) (hc : c ≤ 600) (hL : 6 * c + 6 ≤ L) (hk : ∀ G1 I2 P1, REL L xs (c + 1) G1 I2 P1 → am_ex (am_call am_B am_M 100) (am_B 288) (am_B 288 91) [some (.inr (.inr (some 0))), some (.inr (.inr (some 64))), some (.inr (.inr (some 208))), some (.inl ((6 * c : Nat) : Int))] [] (G1, I2, P1) Q) : am_ex (am_call am_B am_M 100) (am_B 288) (am_B 288 7) [some (.inr (.inr (some 0))), some (.inr (.inr (some 64))), some (.inr (.inr (some 208))), some (.inl ((6 * c : Nat) : Int))] [] (G, I, P) Q := by
  obtain ⟨hS, hX, hG⟩ := REL_x hR
  refine (ex_6_1 (ex_6_0 (ex_4_3 (ex_0 (ex_add ⟨by omega, by omega⟩ (ix_30x (j := ((6 * c) + 1)) (v := (xs (6 * c + 1)).toInt) hX.1 (by omega) (by omega) (by omega) (hX.2 _ (by omega)) (ex_6_0 (ex_4_3 (ex_0 (ex_add ⟨by omega, by omega⟩ (ix_30x (j := ((6 * c) + 2)) (v := (xs (6 * c + 2)).toInt) hX.1 (by omega) (by omega) (by omega) (hX.2 _ (by omega)) ?_)))))))))))
  obtain ⟨x, G1, I1, P1, I2, e1, hS1, e2, hX1, hR1⟩ := P_folk hR hc (a := (xs (6 * c + 1)).toInt) (b := (xs (6 * c + 2)).toInt)
  refine (ix_46 (S' := [(.inl x)]) rfl (sh_64 hS) e1 rfl rfl (ex_6_2 (ex_6_0 (ex_4_3 (ex_0 (ex_add ⟨by omega, by omega⟩ (ix_30x (j := ((6 * c) + 1)) (v := (xs (6 * c + 1)).toInt) hX1.1 (by omega) (by omega) (by omega) (hX1.2 _ (by omega)) (ex_6_0 (ex_4_3 (ex_0 (ex_add ⟨by omega, by omega⟩ (ix_30x (j := ((6 * c) + 2)) (v := (xs (6 * c + 2)).toInt) hX1.1 (by omega) (by omega) (by omega) (hX1.2 _ (by omega)) (ix_46 (S' := [(.inl x), (.inl x)]) rfl (sh_208 hS1) e2 rfl rfl ?_)))))))))))))
  refine ex_ic0 (fun hc328 => ?_) (fun hc328 => by exact absurd rfl hc328)
  exact hk _ _ _ hR1
theorem l_3 {L : Nat} {xs : Nat → Int32} {c : Nat} {G : am_G} {I : Nat → Nat → Int} {P : Nat → Nat → Option Nat} {Q : am_O → Prop} (hR : REL L xs c G I P) (hc : c ≤ 600) (hL : 6 * c + 6 ≤ L) (hk : ∀ G1 I2 P1, REL L xs (c + 1) G1 I2 P1 → am_ex (am_call am_B am_M 100) (am_B 288) (am_B 288 91) [some (.inr (.inr (some 0))), some (.inr (.inr (some 64))), some (.inr (.inr (some 208))), some (.inl ((6 * c : Nat) : Int))] [] (G1, I2, P1) Q) : am_ex (am_call am_B am_M 100) (am_B 288) (am_B 288 9) [some (.inr (.inr (some 0))), some (.inr (.inr (some 64))), some (.inr (.inr (some 208))), some (.inl ((6 * c : Nat) : Int))] [] (G, I, P) Q := by
  obtain ⟨hS, hX, hG⟩ := REL_x hR
  refine (ex_6_1 (ex_6_0 (ex_4_3 (ex_0 (ex_add ⟨by omega, by omega⟩ (ix_30x (j := ((6 * c) + 1)) (v := (xs (6 * c + 1)).toInt) hX.1 (by omega) (by omega) (by omega) (hX.2 _ (by omega)) (ex_6_0 (ex_4_3 (ex_0 (ex_add ⟨by omega, by omega⟩ (ix_30x (j := ((6 * c) + 2)) (v := (xs (6 * c + 2)).toInt) hX.1 (by omega) (by omega) (by omega) (hX.2 _ (by omega)) ?_)))))))))))
  obtain ⟨x, G1, I1, P1, I2, e1, hS1, e2, hX1, hR1⟩ := P_at hR hc (a := (xs (6 * c + 1)).toInt) (b := (xs (6 * c + 2)).toInt)
  refine (ix_46 (S' := [(.inl x)]) rfl (sh_64 hS) e1 rfl rfl (ex_6_2 (ex_6_0 (ex_4_3 (ex_0 (ex_add ⟨by omega, by omega⟩ (ix_30x (j := ((6 * c) + 1)) (v := (xs (6 * c + 1)).toInt) hX1.1 (by omega) (by omega) (by omega) (hX1.2 _ (by omega)) (ex_6_0 (ex_4_3 (ex_0 (ex_add ⟨by omega, by omega⟩ (ix_30x (j := ((6 * c) + 2)) (v := (xs (6 * c + 2)).toInt) hX1.1 (by omega) (by omega) (by omega) (hX1.2 _ (by omega)) (ix_46 (S' := [(.inl x), (.inl x)]) rfl (sh_208 hS1) e2 rfl rfl ?_)))))))))))))
  refine ex_ic0 (fun hc361 => ?_) (fun hc361 => by exact absurd rfl hc361)
  exact hk _ _ _ hR1
theorem l_4 {L : Nat} {xs : Nat → Int32} {c : Nat} {G : am_G} {I : Nat → Nat → Int} {P : Nat → Nat → Option Nat} {Q : am_O → Prop} (hR : REL L xs c G I P) (hc : c ≤ 600) (hL : 6 * c + 6 ≤ L) (hk : ∀ G1 I2 P1, REL L xs (c + 1) G1 I2 P1 → am_ex (am_call am_B am_M 100) (am_B 288) (am_B 288 91) [some (.inr (.inr (some 0))), some (.inr (.inr (some 64))), some (.inr (.inr (some 208))), some (.inl ((6 * c : Nat) : Int))] [] (G1, I2, P1) Q) : am_ex (am_call am_B am_M 100) (am_B 288) (am_B 288 11) [some (.inr (.inr (some 0))), some (.inr (.inr (some 64))), some (.inr (.inr (some 208))), some (.inl ((6 * c : Nat) : Int))] [] (G, I, P) Q := by
  obtain ⟨hS, hX, hG⟩ := REL_x hR
  refine (ex_6_1 (ex_6_0 (ex_4_3 (ex_0 (ex_add ⟨by omega, by omega⟩ (ix_30x (j := ((6 * c) + 1)) (v := (xs (6 * c + 1)).toInt) hX.1 (by omega) (by omega) (by omega) (hX.2 _ (by omega)) (ex_6_0 (ex_4_3 (ex_0 (ex_add ⟨by omega, by omega⟩ (ix_30x (j := ((6 * c) + 2)) (v := (xs (6 * c + 2)).toInt) hX.1 (by omega) (by omega) (by omega) (hX.2 _ (by omega)) (ex_6_0 (ex_4_3 (ex_0 (ex_add ⟨by omega, by omega⟩ (ix_30x (j := ((6 * c) + 3)) (v := (xs (6 * c + 3)).toInt) hX.1 (by omega) (by omega) (by omega) (hX.2 _ (by omega)) ?_))))))))))))))))
  obtain ⟨x, G1, I1, P1, I2, e1, hS1, e2, hX1, hR1⟩ := P_asks hR hc (a := (xs (6 * c + 1)).toInt) (b := (xs (6 * c + 2)).toInt) (w := (xs (6 * c + 3)).toInt)
  refine (ix_46 (S' := [(.inl x)]) rfl (sh_64 hS) e1 rfl rfl (ex_6_2 (ex_6_0 (ex_4_3 (ex_0 (ex_add ⟨by omega, by omega⟩ (ix_30x (j := ((6 * c) + 1)) (v := (xs (6 * c + 1)).toInt) hX1.1 (by omega) (by omega) (by omega) (hX1.2 _ (by omega)) (ex_6_0 (ex_4_3 (ex_0 (ex_add ⟨by omega, by omega⟩ (ix_30x (j := ((6 * c) + 2)) (v := (xs (6 * c + 2)).toInt) hX1.1 (by omega) (by omega) (by omega) (hX1.2 _ (by omega)) (ex_6_0 (ex_4_3 (ex_0 (ex_add ⟨by omega, by omega⟩ (ix_30x (j := ((6 * c) + 3)) (v := (xs (6 * c + 3)).toInt) hX1.1 (by omega) (by omega) (by omega) (hX1.2 _ (by omega)) (ix_46 (S' := [(.inl x), (.inl x)]) rfl (sh_208 hS1) e2 rfl rfl ?_))))))))))))))))))
  refine ex_ic0 (fun hc404 => ?_) (fun hc404 => by exact absurd rfl hc404)
  exact hk _ _ _ hR1
theorem l_5 {L : Nat} {xs : Nat → Int32} {c : Nat} {G : am_G} {I : Nat → Nat → Int} {P : Nat → Nat → Option Nat} {Q : am_O → Prop} (hR : REL L xs c G I P) (hc : c ≤ 600) (hL : 6 * c + 6 ≤ L) (hk : ∀ G1 I2 P1, REL L xs (c + 1) G1 I2 P1 → am_ex (am_call am_B am_M 100) (am_B 288) (am_B 288 91) [some (.inr (.inr (some 0))), some (.inr (.inr (some 64))), some (.inr (.inr (some 208))), some (.inl ((6 * c : Nat) : Int))] [] (G1, I2, P1) Q) : am_ex (am_call am_B am_M 100) (am_B 288) (am_B 288 13) [some (.inr (.inr (some 0))), some (.inr (.inr (some 64))), some (.inr (.inr (some 208))), some (.inl ((6 * c : Nat) : Int))] [] (G, I, P) Q := by
  obtain ⟨hS, hX, hG⟩ := REL_x hR
  refine (ex_6_1 (ex_6_0 (ex_4_3 (ex_0 (ex_add ⟨by omega, by omega⟩ (ix_30x (j := ((6 * c) + 1)) (v := (xs (6 * c + 1)).toInt) hX.1 (by omega) (by omega) (by omega) (hX.2 _ (by omega)) (ex_6_0 (ex_4_3 (ex_0 (ex_add ⟨by omega, by omega⟩ (ix_30x (j := ((6 * c) + 2)) (v := (xs (6 * c + 2)).toInt) hX.1 (by omega) (by omega) (by omega) (hX.2 _ (by omega)) (ex_6_0 (ex_4_3 (ex_0 (ex_add ⟨by omega, by omega⟩ (ix_30x (j := ((6 * c) + 3)) (v := (xs (6 * c + 3)).toInt) hX.1 (by omega) (by omega) (by omega) (hX.2 _ (by omega)) ?_))))))))))))))))
  obtain ⟨x, G1, I1, P1, I2, e1, hS1, e2, hX1, hR1⟩ := P_road hR hc (a := (xs (6 * c + 1)).toInt) (b := (xs (6 * c + 2)).toInt) (w := (xs (6 * c + 3)).toInt)
  refine (ix_46 (S' := [(.inl x)]) rfl (sh_64 hS) e1 rfl rfl (ex_6_2 (ex_6_0 (ex_4_3 (ex_0 (ex_add ⟨by omega, by omega⟩ (ix_30x (j := ((6 * c) + 1)) (v := (xs (6 * c + 1)).toInt) hX1.1 (by omega) (by omega) (by omega) (hX1.2 _ (by omega)) (ex_6_0 (ex_4_3 (ex_0 (ex_add ⟨by omega, by omega⟩ (ix_30x (j := ((6 * c) + 2)) (v := (xs (6 * c + 2)).toInt) hX1.1 (by omega) (by omega) (by omega) (hX1.2 _ (by omega)) (ex_6_0 (ex_4_3 (ex_0 (ex_add ⟨by omega, by omega⟩ (ix_30x (j := ((6 * c) + 3)) (v := (xs (6 * c + 3)).toInt) hX1.1 (by omega) (by omega) (by omega) (hX1.2 _ (by omega)) (ix_46 (S' := [(.inl x), (.inl x)]) rfl (sh_208 hS1) e2 rfl rfl ?_))))))))))))))))))
  refine ex_ic0 (fun hc447 => ?_) (fun hc447 => by exact absurd rfl hc447)
  exact hk _ _ _ hR1
theorem l_6 {L : Nat} {xs : Nat → Int32} {c : Nat} {G : am_G} {I : Nat → Nat → Int} {P : Nat → Nat → Option Nat} {Q : am_O → Prop} (hR : REL L xs c G I P) (hc : c ≤ 600) (hL : 6 * c + 6 ≤ L) (hk : ∀ G1 I2 P1, REL L xs (c + 1) G1 I2 P1 → am_ex (am_call am_B am_M 100) (am_B 288) (am_B 288 91) [some (.inr (.inr (some 0))), some (.inr (.inr (some 64))), some (.inr (.inr (some 208))), some (.inl ((6 * c : Nat) : Int))] [] (G1, I2, P1) Q) : am_ex (am_call am_B am_M 100) (am_B 288) (am_B 288 15) [some (.inr (.inr (some 0))), some (.inr (.inr (some 64))), some (.inr (.inr (some 208))), some (.inl ((6 * c : Nat) : Int))] [] (G, I, P) Q := by
  obtain ⟨hS, hX, hG⟩ := REL_x hR
  refine (ex_6_1 (ex_6_0 (ex_4_3 (ex_0 (ex_add ⟨by omega, by omega⟩ (ix_30x (j := ((6 * c) + 1)) (v := (xs (6 * c + 1)).toInt) hX.1 (by omega) (by omega) (by omega) (hX.2 _ (by omega)) (ex_6_0 (ex_4_3 (ex_0 (ex_add ⟨by omega, by omega⟩ (ix_30x (j := ((6 * c) + 2)) (v := (xs (6 * c + 2)).toInt) hX.1 (by omega) (by omega) (by omega) (hX.2 _ (by omega)) ?_)))))))))))
  obtain ⟨x, G1, I1, P1, I2, e1, hS1, e2, hX1, hR1⟩ := P_box hR hc (a := (xs (6 * c + 1)).toInt) (b := (xs (6 * c + 2)).toInt)
  refine (ix_46 (S' := [(.inl x)]) rfl (sh_64 hS) e1 rfl rfl (ex_6_2 (ex_6_0 (ex_4_3 (ex_0 (ex_add ⟨by omega, by omega⟩ (ix_30x (j := ((6 * c) + 1)) (v := (xs (6 * c + 1)).toInt) hX1.1 (by omega) (by omega) (by omega) (hX1.2 _ (by omega)) (ex_6_0 (ex_4_3 (ex_0 (ex_add ⟨by omega, by omega⟩ (ix_30x (j := ((6 * c) + 2)) (v := (xs (6 * c + 2)).toInt) hX1.1 (by omega) (by omega) (by omega) (hX1.2 _ (by omega)) (ix_46 (S' := [(.inl x), (.inl x)]) rfl (sh_208 hS1) e2 rfl rfl ?_)))))))))))))
  refine ex_ic0 (fun hc480 => ?_) (fun hc480 => by exact absurd rfl hc480)
  exact hk _ _ _ hR1
theorem l_7 {L : Nat} {xs : Nat → Int32} {c : Nat} {G : am_G} {I : Nat → Nat → Int} {P : Nat → Nat → Option Nat} {Q : am_O → Prop} (hR : REL L xs c G I P) (hc : c ≤ 600) (hL : 6 * c + 6 ≤ L) (hk : ∀ G1 I2 P1, REL L xs (c + 1) G1 I2 P1 → am_ex (am_call am_B am_M 100) (am_B 288) (am_B 288 91) [some (.inr (.inr (some 0))), some (.inr (.inr (some 64))), some (.inr (.inr (some 208))), some (.inl ((6 * c : Nat) : Int))] [] (G1, I2, P1) Q) : am_ex (am_call am_B am_M 100) (am_B 288) (am_B 288 17) [some (.inr (.inr (some 0))), some (.inr (.inr (some 64))), some (.inr (.inr (some 208))), some (.inl ((6 * c : Nat) : Int))] [] (G, I, P) Q := by
  obtain ⟨hS, hX, hG⟩ := REL_x hR
  refine (ex_6_1 (ex_6_0 (ex_4_3 (ex_0 (ex_add ⟨by omega, by omega⟩ (ix_30x (j := ((6 * c) + 1)) (v := (xs (6 * c + 1)).toInt) hX.1 (by omega) (by omega) (by omega) (hX.2 _ (by omega)) (ex_6_0 (ex_4_3 (ex_0 (ex_add ⟨by omega, by omega⟩ (ix_30x (j := ((6 * c) + 2)) (v := (xs (6 * c + 2)).toInt) hX.1 (by omega) (by omega) (by omega) (hX.2 _ (by omega)) ?_)))))))))))
  obtain ⟨x, G1, I1, P1, I2, e1, hS1, e2, hX1, hR1⟩ := P_terms hR hc (a := (xs (6 * c + 1)).toInt) (b := (xs (6 * c + 2)).toInt)
  refine (ix_46 (S' := [(.inl x)]) rfl (sh_64 hS) e1 rfl rfl (ex_6_2 (ex_6_0 (ex_4_3 (ex_0 (ex_add ⟨by omega, by omega⟩ (ix_30x (j := ((6 * c) + 1)) (v := (xs (6 * c + 1)).toInt) hX1.1 (by omega) (by omega) (by omega) (hX1.2 _ (by omega)) (ex_6_0 (ex_4_3 (ex_0 (ex_add ⟨by omega, by omega⟩ (ix_30x (j := ((6 * c) + 2)) (v := (xs (6 * c + 2)).toInt) hX1.1 (by omega) (by omega) (by omega) (hX1.2 _ (by omega)) (ix_46 (S' := [(.inl x), (.inl x)]) rfl (sh_208 hS1) e2 rfl rfl ?_)))))))))))))
  refine ex_ic0 (fun hc513 => ?_) (fun hc513 => by exact absurd rfl hc513)
  exact hk _ _ _ hR1
theorem l_8 {L : Nat} {xs : Nat → Int32} {c : Nat} {G : am_G} {I : Nat → Nat → Int} {P : Nat → Nat → Option Nat} {Q : am_O → Prop} (hR : REL L xs c G I P) (hc : c ≤ 600) (hL : 6 * c + 6 ≤ L) (hk : ∀ G1 I2 P1, REL L xs (c + 1) G1 I2 P1 → am_ex (am_call am_B am_M 100) (am_B 288) (am_B 288 91) [some (.inr (.inr (some 0))), some (.inr (.inr (some 64))), some (.inr (.inr (some 208))), some (.inl ((6 * c : Nat) : Int))] [] (G1, I2, P1) Q) : am_ex (am_call am_B am_M 100) (am_B 288) (am_B 288 19) [some (.inr (.inr (some 0))), some (.inr (.inr (some 64))), some (.inr (.inr (some 208))), some (.inl ((6 * c : Nat) : Int))] [] (G, I, P) Q := by
  obtain ⟨hS, hX, hG⟩ := REL_x hR
  refine (ex_6_1 (ex_6_0 (ex_4_3 (ex_0 (ex_add ⟨by omega, by omega⟩ (ix_30x (j := ((6 * c) + 1)) (v := (xs (6 * c + 1)).toInt) hX.1 (by omega) (by omega) (by omega) (hX.2 _ (by omega)) (ex_6_0 (ex_4_3 (ex_0 (ex_add ⟨by omega, by omega⟩ (ix_30x (j := ((6 * c) + 2)) (v := (xs (6 * c + 2)).toInt) hX.1 (by omega) (by omega) (by omega) (hX.2 _ (by omega)) (ex_6_0 (ex_4_3 (ex_0 (ex_add ⟨by omega, by omega⟩ (ix_30x (j := ((6 * c) + 3)) (v := (xs (6 * c + 3)).toInt) hX.1 (by omega) (by omega) (by omega) (hX.2 _ (by omega)) (ex_6_0 (ex_4_3 (ex_0 (ex_add ⟨by omega, by omega⟩ (ix_30x (j := ((6 * c) + 4)) (v := (xs (6 * c + 4)).toInt) hX.1 (by omega) (by omega) (by omega) (hX.2 _ (by omega)) (ex_6_0 (ex_4_3 (ex_0 (ex_add ⟨by omega, by omega⟩ (ix_30x (j := ((6 * c) + 5)) (v := (xs (6 * c + 5)).toInt) hX.1 (by omega) (by omega) (by omega) (hX.2 _ (by omega)) ?_))))))))))))))))))))))))))
  obtain ⟨x, G1, I1, P1, I2, e1, hS1, e2, hX1, hR1⟩ := P_feed hR hc (a := (xs (6 * c + 1)).toInt) (b := (xs (6 * c + 2)).toInt) (w := (xs (6 * c + 3)).toInt) (e := (xs (6 * c + 4)).toInt) (f := (xs (6 * c + 5)).toInt)
  refine (ix_46 (S' := [(.inl x)]) rfl (sh_64 hS) e1 rfl rfl (ex_6_2 (ex_6_0 (ex_4_3 (ex_0 (ex_add ⟨by omega, by omega⟩ (ix_30x (j := ((6 * c) + 1)) (v := (xs (6 * c + 1)).toInt) hX1.1 (by omega) (by omega) (by omega) (hX1.2 _ (by omega)) (ex_6_0 (ex_4_3 (ex_0 (ex_add ⟨by omega, by omega⟩ (ix_30x (j := ((6 * c) + 2)) (v := (xs (6 * c + 2)).toInt) hX1.1 (by omega) (by omega) (by omega) (hX1.2 _ (by omega)) (ex_6_0 (ex_4_3 (ex_0 (ex_add ⟨by omega, by omega⟩ (ix_30x (j := ((6 * c) + 3)) (v := (xs (6 * c + 3)).toInt) hX1.1 (by omega) (by omega) (by omega) (hX1.2 _ (by omega)) (ex_6_0 (ex_4_3 (ex_0 (ex_add ⟨by omega, by omega⟩ (ix_30x (j := ((6 * c) + 4)) (v := (xs (6 * c + 4)).toInt) hX1.1 (by omega) (by omega) (by omega) (hX1.2 _ (by omega)) (ex_6_0 (ex_4_3 (ex_0 (ex_add ⟨by omega, by omega⟩ (ix_30x (j := ((6 * c) + 5)) (v := (xs (6 * c + 5)).toInt) hX1.1 (by omega) (by omega) (by omega) (hX1.2 _ (by omega)) (ix_46 (S' := [(.inl x), (.inl x)]) rfl (sh_208 hS1) e2 rfl rfl ?_))))))))))))))))))))))))))))
  refine ex_ic0 (fun hc576 => ?_) (fun hc576 => by exact absurd rfl hc576)
  exact hk _ _ _ hR1
theorem l_9 {L : Nat} {xs : Nat → Int32} {c : Nat} {G : am_G} {I : Nat → Nat → Int} {P : Nat → Nat → Option Nat} {Q : am_O → Prop} (hR : REL L xs c G I P) (hc : c ≤ 600) (hL : 6 * c + 6 ≤ L) (hk : ∀ G1 I2 P1, REL L xs (c + 1) G1 I2 P1 → am_ex (am_call am_B am_M 100) (am_B 288) (am_B 288 91) [some (.inr (.inr (some 0))), some (.inr (.inr (some 64))), some (.inr (.inr (some 208))), some (.inl ((6 * c : Nat) : Int))] [] (G1, I2, P1) Q) : am_ex (am_call am_B am_M 100) (am_B 288) (am_B 288 21) [some (.inr (.inr (some 0))), some (.inr (.inr (some 64))), some (.inr (.inr (some 208))), some (.inl ((6 * c : Nat) : Int))] [] (G, I, P) Q := by
  obtain ⟨hS, hX, hG⟩ := REL_x hR
  refine (ex_6_1 (ex_6_0 (ex_4_3 (ex_0 (ex_add ⟨by omega, by omega⟩ (ix_30x (j := ((6 * c) + 1)) (v := (xs (6 * c + 1)).toInt) hX.1 (by omega) (by omega) (by omega) (hX.2 _ (by omega)) ?_))))))
  obtain ⟨x, G1, I1, P1, I2, e1, hS1, e2, hX1, hR1⟩ := P_end hR hc (a := (xs (6 * c + 1)).toInt)
  refine (ix_46 (S' := [(.inl x)]) rfl (sh_64 hS) e1 rfl rfl (ex_6_2 (ex_6_0 (ex_4_3 (ex_0 (ex_add ⟨by omega, by omega⟩ (ix_30x (j := ((6 * c) + 1)) (v := (xs (6 * c + 1)).toInt) hX1.1 (by omega) (by omega) (by omega) (hX1.2 _ (by omega)) (ix_46 (S' := [(.inl x), (.inl x)]) rfl (sh_208 hS1) e2 rfl rfl ?_))))))))
  refine ex_ic0 (fun hc599 => ?_) (fun hc599 => by exact absurd rfl hc599)
  exact hk _ _ _ hR1
theorem l_10 {L : Nat} {xs : Nat → Int32} {c : Nat} {G : am_G} {I : Nat → Nat → Int} {P : Nat → Nat → Option Nat} {Q : am_O → Prop} (hR : REL L xs c G I P) (hc : c ≤ 600) (hL : 6 * c + 6 ≤ L) (hk : ∀ G1 I2 P1, REL L xs (c + 1) G1 I2 P1 → am_ex (am_call am_B am_M 100) (am_B 288) (am_B 288 91) [some (.inr (.inr (some 0))), some (.inr (.inr (some 64))), some (.inr (.inr (some 208))), some (.inl ((6 * c : Nat) : Int))] [] (G1, I2, P1) Q) : am_ex (am_call am_B am_M 100) (am_B 288) (am_B 288 23) [some (.inr (.inr (some 0))), some (.inr (.inr (some 64))), some (.inr (.inr (some 208))), some (.inl ((6 * c : Nat) : Int))] [] (G, I, P) Q := by
  obtain ⟨hS, hX, hG⟩ := REL_x hR
  refine (ex_6_1 ?_)
  obtain ⟨x, G1, I1, P1, I2, e1, hS1, e2, hX1, hR1⟩ := P_row hR hc 
  refine (ix_46 (S' := [(.inl x)]) rfl (sh_64 hS) e1 rfl rfl (ex_6_2 (ix_46 (S' := [(.inl x), (.inl x)]) rfl (sh_208 hS1) e2 rfl rfl ?_)))
  refine ex_ic0 (fun hc612 => ?_) (fun hc612 => by exact absurd rfl hc612)
  exact hk _ _ _ hR1
theorem l_11 {L : Nat} {xs : Nat → Int32} {c : Nat} {G : am_G} {I : Nat → Nat → Int} {P : Nat → Nat → Option Nat} {Q : am_O → Prop} (hR : REL L xs c G I P) (hc : c ≤ 600) (hL : 6 * c + 6 ≤ L) (hk : ∀ G1 I2 P1, REL L xs (c + 1) G1 I2 P1 → am_ex (am_call am_B am_M 100) (am_B 288) (am_B 288 91) [some (.inr (.inr (some 0))), some (.inr (.inr (some 64))), some (.inr (.inr (some 208))), some (.inl ((6 * c : Nat) : Int))] [] (G1, I2, P1) Q) : am_ex (am_call am_B am_M 100) (am_B 288) (am_B 288 25) [some (.inr (.inr (some 0))), some (.inr (.inr (some 64))), some (.inr (.inr (some 208))), some (.inl ((6 * c : Nat) : Int))] [] (G, I, P) Q := by
  obtain ⟨hS, hX, hG⟩ := REL_x hR
  refine (ex_6_1 ?_)
  obtain ⟨x, G1, I1, P1, I2, e1, hS1, e2, hX1, hR1⟩ := P_wrong hR hc 
  refine (ix_46 (S' := [(.inl x)]) rfl (sh_64 hS) e1 rfl rfl (ex_6_2 (ix_46 (S' := [(.inl x), (.inl x)]) rfl (sh_208 hS1) e2 rfl rfl ?_)))
  refine ex_ic0 (fun hc625 => ?_) (fun hc625 => by exact absurd rfl hc625)
  exact hk _ _ _ hR1
theorem l_12 {L : Nat} {xs : Nat → Int32} {c : Nat} {G : am_G} {I : Nat → Nat → Int} {P : Nat → Nat → Option Nat} {Q : am_O → Prop} (hR : REL L xs c G I P) (hc : c ≤ 600) (hL : 6 * c + 6 ≤ L) (hk : ∀ G1 I2 P1, REL L xs (c + 1) G1 I2 P1 → am_ex (am_call am_B am_M 100) (am_B 288) (am_B 288 91) [some (.inr (.inr (some 0))), some (.inr (.inr (some 64))), some (.inr (.inr (some 208))), some (.inl ((6 * c : Nat) : Int))] [] (G1, I2, P1) Q) : am_ex (am_call am_B am_M 100) (am_B 288) (am_B 288 27) [some (.inr (.inr (some 0))), some (.inr (.inr (some 64))), some (.inr (.inr (some 208))), some (.inl ((6 * c : Nat) : Int))] [] (G, I, P) Q := by
  obtain ⟨hS, hX, hG⟩ := REL_x hR
  refine (ex_6_1 ?_)
  obtain ⟨x, G1, I1, P1, I2, e1, hS1, e2, hX1, hR1⟩ := P_law hR hc 
  refine (ix_46 (S' := [(.inl x)]) rfl (sh_64 hS) e1 rfl rfl (ex_6_2 (ix_46 (S' := [(.inl x), (.inl x)]) rfl (sh_208 hS1) e2 rfl rfl ?_)))
  refine ex_ic0 (fun hc638 => ?_) (fun hc638 => by exact absurd rfl hc638)
  exact hk _ _ _ hR1
theorem l_13 {L : Nat} {xs : Nat → Int32} {c : Nat} {G : am_G} {I : Nat → Nat → Int} {P : Nat → Nat → Option Nat} {Q : am_O → Prop} (hR : REL L xs c G I P) (hc : c ≤ 600) (hL : 6 * c + 6 ≤ L) (hk : ∀ G1 I2 P1, REL L xs (c + 1) G1 I2 P1 → am_ex (am_call am_B am_M 100) (am_B 288) (am_B 288 91) [some (.inr (.inr (some 0))), some (.inr (.inr (some 64))), some (.inr (.inr (some 208))), some (.inl ((6 * c : Nat) : Int))] [] (G1, I2, P1) Q) : am_ex (am_call am_B am_M 100) (am_B 288) (am_B 288 29) [some (.inr (.inr (some 0))), some (.inr (.inr (some 64))), some (.inr (.inr (some 208))), some (.inl ((6 * c : Nat) : Int))] [] (G, I, P) Q := by
  obtain ⟨hS, hX, hG⟩ := REL_x hR
  refine (ex_6_1 ?_)
  obtain ⟨x, G1, I1, P1, I2, e1, hS1, e2, hX1, hR1⟩ := P_orders hR hc 
  refine (ix_46 (S' := [(.inl x)]) rfl (sh_64 hS) e1 rfl rfl (ex_6_2 (ix_46 (S' := [(.inl x), (.inl x)]) rfl (sh_208 hS1) e2 rfl rfl ?_)))
  refine ex_ic0 (fun hc651 => ?_) (fun hc651 => by exact absurd rfl hc651)
  exact hk _ _ _ hR1
theorem l_14 {L : Nat} {xs : Nat → Int32} {c : Nat} {G : am_G} {I : Nat → Nat → Int} {P : Nat → Nat → Option Nat} {Q : am_O → Prop} (hR : REL L xs c G I P) (hc : c ≤ 600) (hL : 6 * c + 6 ≤ L) (hk : ∀ G1 I2 P1, REL L xs (c + 1) G1 I2 P1 → am_ex (am_call am_B am_M 100) (am_B 288) (am_B 288 91) [some (.inr (.inr (some 0))), some (.inr (.inr (some 64))), some (.inr (.inr (some 208))), some (.inl ((6 * c : Nat) : Int))] [] (G1, I2, P1) Q) : am_ex (am_call am_B am_M 100) (am_B 288) (am_B 288 31) [some (.inr (.inr (some 0))), some (.inr (.inr (some 64))), some (.inr (.inr (some 208))), some (.inl ((6 * c : Nat) : Int))] [] (G, I, P) Q := by
  obtain ⟨hS, hX, hG⟩ := REL_x hR
  refine (ex_6_1 ?_)
  obtain ⟨x, G1, I1, P1, I2, e1, hS1, e2, hX1, hR1⟩ := P_fault hR hc 
  refine (ix_46 (S' := [(.inl x)]) rfl (sh_64 hS) e1 rfl rfl (ex_6_2 (ix_46 (S' := [(.inl x), (.inl x)]) rfl (sh_208 hS1) e2 rfl rfl ?_)))
  refine ex_ic0 (fun hc664 => ?_) (fun hc664 => by exact absurd rfl hc664)
  exact hk _ _ _ hR1
theorem l_15 {L : Nat} {xs : Nat → Int32} {c : Nat} {G : am_G} {I : Nat → Nat → Int} {P : Nat → Nat → Option Nat} {Q : am_O → Prop} (hR : REL L xs c G I P) (hc : c ≤ 600) (hL : 6 * c + 6 ≤ L) (hk : ∀ G1 I2 P1, REL L xs (c + 1) G1 I2 P1 → am_ex (am_call am_B am_M 100) (am_B 288) (am_B 288 91) [some (.inr (.inr (some 0))), some (.inr (.inr (some 64))), some (.inr (.inr (some 208))), some (.inl ((6 * c : Nat) : Int))] [] (G1, I2, P1) Q) : am_ex (am_call am_B am_M 100) (am_B 288) (am_B 288 33) [some (.inr (.inr (some 0))), some (.inr (.inr (some 64))), some (.inr (.inr (some 208))), some (.inl ((6 * c : Nat) : Int))] [] (G, I, P) Q := by
  obtain ⟨hS, hX, hG⟩ := REL_x hR
  refine (ex_6_1 ?_)
  obtain ⟨x, G1, I1, P1, I2, e1, hS1, e2, hX1, hR1⟩ := P_stopped hR hc 
  refine (ix_46 (S' := [(.inl x)]) rfl (sh_64 hS) e1 rfl rfl (ex_6_2 (ix_46 (S' := [(.inl x), (.inl x)]) rfl (sh_208 hS1) e2 rfl rfl ?_)))
  refine ex_ic0 (fun hc677 => ?_) (fun hc677 => by exact absurd rfl hc677)
  exact hk _ _ _ hR1
theorem l_16 {L : Nat} {xs : Nat → Int32} {c : Nat} {G : am_G} {I : Nat → Nat → Int} {P : Nat → Nat → Option Nat} {Q : am_O → Prop} (hR : REL L xs c G I P) (hc : c ≤ 600) (hL : 6 * c + 6 ≤ L) (hk : ∀ G1 I2 P1, REL L xs (c + 1) G1 I2 P1 → am_ex (am_call am_B am_M 100) (am_B 288) (am_B 288 91) [some (.inr (.inr (some 0))), some (.inr (.inr (some 64))), some (.inr (.inr (some 208))), some (.inl ((6 * c : Nat) : Int))] [] (G1, I2, P1) Q) : am_ex (am_call am_B am_M 100) (am_B 288) (am_B 288 35) [some (.inr (.inr (some 0))), some (.inr (.inr (some 64))), some (.inr (.inr (some 208))), some (.inl ((6 * c : Nat) : Int))] [] (G, I, P) Q := by
  obtain ⟨hS, hX, hG⟩ := REL_x hR
  refine (ex_6_1 (ex_6_0 (ex_4_3 (ex_0 (ex_add ⟨by omega, by omega⟩ (ix_30x (j := ((6 * c) + 1)) (v := (xs (6 * c + 1)).toInt) hX.1 (by omega) (by omega) (by omega) (hX.2 _ (by omega)) ?_))))))
  obtain ⟨x, G1, I1, P1, I2, e1, hS1, e2, hX1, hR1⟩ := P_force hR hc (a := (xs (6 * c + 1)).toInt)
  refine (ix_46 (S' := [(.inl x)]) rfl (sh_64 hS) e1 rfl rfl (ex_6_2 (ex_6_0 (ex_4_3 (ex_0 (ex_add ⟨by omega, by omega⟩ (ix_30x (j := ((6 * c) + 1)) (v := (xs (6 * c + 1)).toInt) hX1.1 (by omega) (by omega) (by omega) (hX1.2 _ (by omega)) (ix_46 (S' := [(.inl x), (.inl x)]) rfl (sh_208 hS1) e2 rfl rfl ?_))))))))
  refine ex_ic0 (fun hc700 => ?_) (fun hc700 => by exact absurd rfl hc700)
  exact hk _ _ _ hR1
theorem l_17 {L : Nat} {xs : Nat → Int32} {c : Nat} {G : am_G} {I : Nat → Nat → Int} {P : Nat → Nat → Option Nat} {Q : am_O → Prop} (hR : REL L xs c G I P) (hc : c ≤ 600) (hL : 6 * c + 6 ≤ L) (hk : ∀ G1 I2 P1, REL L xs (c + 1) G1 I2 P1 → am_ex (am_call am_B am_M 100) (am_B 288) (am_B 288 91) [some (.inr (.inr (some 0))), some (.inr (.inr (some 64))), some (.inr (.inr (some 208))), some (.inl ((6 * c : Nat) : Int))] [] (G1, I2, P1) Q) : am_ex (am_call am_B am_M 100) (am_B 288) (am_B 288 37) [some (.inr (.inr (some 0))), some (.inr (.inr (some 64))), some (.inr (.inr (some 208))), some (.inl ((6 * c : Nat) : Int))] [] (G, I, P) Q := by
  obtain ⟨hS, hX, hG⟩ := REL_x hR
  refine (ex_6_1 (ex_6_0 (ex_4_3 (ex_0 (ex_add ⟨by omega, by omega⟩ (ix_30x (j := ((6 * c) + 1)) (v := (xs (6 * c + 1)).toInt) hX.1 (by omega) (by omega) (by omega) (hX.2 _ (by omega)) (ex_6_0 (ex_4_3 (ex_0 (ex_add ⟨by omega, by omega⟩ (ix_30x (j := ((6 * c) + 2)) (v := (xs (6 * c + 2)).toInt) hX.1 (by omega) (by omega) (by omega) (hX.2 _ (by omega)) ?_)))))))))))
  obtain ⟨x, G1, I1, P1, I2, e1, hS1, e2, hX1, hR1⟩ := P_ring hR hc (a := (xs (6 * c + 1)).toInt) (b := (xs (6 * c + 2)).toInt)
  refine (ix_46 (S' := [(.inl x)]) rfl (sh_64 hS) e1 rfl rfl (ex_6_2 (ex_6_0 (ex_4_3 (ex_0 (ex_add ⟨by omega, by omega⟩ (ix_30x (j := ((6 * c) + 1)) (v := (xs (6 * c + 1)).toInt) hX1.1 (by omega) (by omega) (by omega) (hX1.2 _ (by omega)) (ex_6_0 (ex_4_3 (ex_0 (ex_add ⟨by omega, by omega⟩ (ix_30x (j := ((6 * c) + 2)) (v := (xs (6 * c + 2)).toInt) hX1.1 (by omega) (by omega) (by omega) (hX1.2 _ (by omega)) (ix_46 (S' := [(.inl x), (.inl x)]) rfl (sh_208 hS1) e2 rfl rfl ?_)))))))))))))
  refine ex_ic0 (fun hc733 => ?_) (fun hc733 => by exact absurd rfl hc733)
  exact hk _ _ _ hR1
theorem l_18 {L : Nat} {xs : Nat → Int32} {c : Nat} {G : am_G} {I : Nat → Nat → Int} {P : Nat → Nat → Option Nat} {Q : am_O → Prop} (hR : REL L xs c G I P) (hc : c ≤ 600) (hL : 6 * c + 6 ≤ L) (hk : ∀ G1 I2 P1, REL L xs (c + 1) G1 I2 P1 → am_ex (am_call am_B am_M 100) (am_B 288) (am_B 288 91) [some (.inr (.inr (some 0))), some (.inr (.inr (some 64))), some (.inr (.inr (some 208))), some (.inl ((6 * c : Nat) : Int))] [] (G1, I2, P1) Q) : am_ex (am_call am_B am_M 100) (am_B 288) (am_B 288 39) [some (.inr (.inr (some 0))), some (.inr (.inr (some 64))), some (.inr (.inr (some 208))), some (.inl ((6 * c : Nat) : Int))] [] (G, I, P) Q := by
  obtain ⟨hS, hX, hG⟩ := REL_x hR
  refine (ex_6_1 (ex_6_0 (ex_4_3 (ex_0 (ex_add ⟨by omega, by omega⟩ (ix_30x (j := ((6 * c) + 1)) (v := (xs (6 * c + 1)).toInt) hX.1 (by omega) (by omega) (by omega) (hX.2 _ (by omega)) ?_))))))
  obtain ⟨x, G1, I1, P1, I2, e1, hS1, e2, hX1, hR1⟩ := P_engage hR hc (a := (xs (6 * c + 1)).toInt)
  refine (ix_46 (S' := [(.inl x)]) rfl (sh_64 hS) e1 rfl rfl (ex_6_2 (ex_6_0 (ex_4_3 (ex_0 (ex_add ⟨by omega, by omega⟩ (ix_30x (j := ((6 * c) + 1)) (v := (xs (6 * c + 1)).toInt) hX1.1 (by omega) (by omega) (by omega) (hX1.2 _ (by omega)) (ix_46 (S' := [(.inl x), (.inl x)]) rfl (sh_208 hS1) e2 rfl rfl ?_))))))))
  refine ex_ic0 (fun hc756 => ?_) (fun hc756 => by exact absurd rfl hc756)
  exact hk _ _ _ hR1
theorem l_19 {L : Nat} {xs : Nat → Int32} {c : Nat} {G : am_G} {I : Nat → Nat → Int} {P : Nat → Nat → Option Nat} {Q : am_O → Prop} (hR : REL L xs c G I P) (hc : c ≤ 600) (hL : 6 * c + 6 ≤ L) (hk : ∀ G1 I2 P1, REL L xs (c + 1) G1 I2 P1 → am_ex (am_call am_B am_M 100) (am_B 288) (am_B 288 91) [some (.inr (.inr (some 0))), some (.inr (.inr (some 64))), some (.inr (.inr (some 208))), some (.inl ((6 * c : Nat) : Int))] [] (G1, I2, P1) Q) : am_ex (am_call am_B am_M 100) (am_B 288) (am_B 288 41) [some (.inr (.inr (some 0))), some (.inr (.inr (some 64))), some (.inr (.inr (some 208))), some (.inl ((6 * c : Nat) : Int))] [] (G, I, P) Q := by
  obtain ⟨hS, hX, hG⟩ := REL_x hR
  refine (ex_6_1 (ex_6_0 (ex_4_3 (ex_0 (ex_add ⟨by omega, by omega⟩ (ix_30x (j := ((6 * c) + 1)) (v := (xs (6 * c + 1)).toInt) hX.1 (by omega) (by omega) (by omega) (hX.2 _ (by omega)) ?_))))))
  obtain ⟨x, G1, I1, P1, I2, e1, hS1, e2, hX1, hR1⟩ := P_smash hR hc (a := (xs (6 * c + 1)).toInt)
  refine (ix_46 (S' := [(.inl x)]) rfl (sh_64 hS) e1 rfl rfl (ex_6_2 (ex_6_0 (ex_4_3 (ex_0 (ex_add ⟨by omega, by omega⟩ (ix_30x (j := ((6 * c) + 1)) (v := (xs (6 * c + 1)).toInt) hX1.1 (by omega) (by omega) (by omega) (hX1.2 _ (by omega)) (ix_46 (S' := [(.inl x), (.inl x)]) rfl (sh_208 hS1) e2 rfl rfl ?_))))))))
  refine ex_ic0 (fun hc779 => ?_) (fun hc779 => by exact absurd rfl hc779)
  exact hk _ _ _ hR1
theorem l_20 {L : Nat} {xs : Nat → Int32} {c : Nat} {G : am_G} {I : Nat → Nat → Int} {P : Nat → Nat → Option Nat} {Q : am_O → Prop} (hR : REL L xs c G I P) (hc : c ≤ 600) (hL : 6 * c + 6 ≤ L) (hk : ∀ G1 I2 P1, REL L xs (c + 1) G1 I2 P1 → am_ex (am_call am_B am_M 100) (am_B 288) (am_B 288 91) [some (.inr (.inr (some 0))), some (.inr (.inr (some 64))), some (.inr (.inr (some 208))), some (.inl ((6 * c : Nat) : Int))] [] (G1, I2, P1) Q) : am_ex (am_call am_B am_M 100) (am_B 288) (am_B 288 43) [some (.inr (.inr (some 0))), some (.inr (.inr (some 64))), some (.inr (.inr (some 208))), some (.inl ((6 * c : Nat) : Int))] [] (G, I, P) Q := by
  obtain ⟨hS, hX, hG⟩ := REL_x hR
  refine (ex_6_1 ?_)
  obtain ⟨x, G1, I1, P1, I2, e1, hS1, e2, hX1, hR1⟩ := P_pass hR hc 
  refine (ix_46 (S' := [(.inl x)]) rfl (sh_64 hS) e1 rfl rfl (ex_6_2 (ix_46 (S' := [(.inl x), (.inl x)]) rfl (sh_208 hS1) e2 rfl rfl ?_)))
  refine ex_ic0 (fun hc792 => ?_) (fun hc792 => by exact absurd rfl hc792)
  exact hk _ _ _ hR1
theorem l_21 {L : Nat} {xs : Nat → Int32} {c : Nat} {G : am_G} {I : Nat → Nat → Int} {P : Nat → Nat → Option Nat} {Q : am_O → Prop} (hR : REL L xs c G I P) (hc : c ≤ 600) (hL : 6 * c + 6 ≤ L) (hk : ∀ G1 I2 P1, REL L xs (c + 1) G1 I2 P1 → am_ex (am_call am_B am_M 100) (am_B 288) (am_B 288 91) [some (.inr (.inr (some 0))), some (.inr (.inr (some 64))), some (.inr (.inr (some 208))), some (.inl ((6 * c : Nat) : Int))] [] (G1, I2, P1) Q) : am_ex (am_call am_B am_M 100) (am_B 288) (am_B 288 45) [some (.inr (.inr (some 0))), some (.inr (.inr (some 64))), some (.inr (.inr (some 208))), some (.inl ((6 * c : Nat) : Int))] [] (G, I, P) Q := by
  obtain ⟨hS, hX, hG⟩ := REL_x hR
  refine (ex_6_1 ?_)
  obtain ⟨x, G1, I1, P1, I2, e1, hS1, e2, hX1, hR1⟩ := P_undo hR hc 
  refine (ix_46 (S' := [(.inl x)]) rfl (sh_64 hS) e1 rfl rfl (ex_6_2 (ix_46 (S' := [(.inl x), (.inl x)]) rfl (sh_208 hS1) e2 rfl rfl ?_)))
  refine ex_ic0 (fun hc805 => ?_) (fun hc805 => by exact absurd rfl hc805)
  exact hk _ _ _ hR1
theorem l_22 {L : Nat} {xs : Nat → Int32} {c : Nat} {G : am_G} {I : Nat → Nat → Int} {P : Nat → Nat → Option Nat} {Q : am_O → Prop} (hR : REL L xs c G I P) (hc : c ≤ 600) (hL : 6 * c + 6 ≤ L) (hk : ∀ G1 I2 P1, REL L xs (c + 1) G1 I2 P1 → am_ex (am_call am_B am_M 100) (am_B 288) (am_B 288 91) [some (.inr (.inr (some 0))), some (.inr (.inr (some 64))), some (.inr (.inr (some 208))), some (.inl ((6 * c : Nat) : Int))] [] (G1, I2, P1) Q) : am_ex (am_call am_B am_M 100) (am_B 288) (am_B 288 47) [some (.inr (.inr (some 0))), some (.inr (.inr (some 64))), some (.inr (.inr (some 208))), some (.inl ((6 * c : Nat) : Int))] [] (G, I, P) Q := by
  obtain ⟨hS, hX, hG⟩ := REL_x hR
  refine (ex_6_1 (ex_6_0 (ex_4_3 (ex_0 (ex_add ⟨by omega, by omega⟩ (ix_30x (j := ((6 * c) + 1)) (v := (xs (6 * c + 1)).toInt) hX.1 (by omega) (by omega) (by omega) (hX.2 _ (by omega)) (ex_6_0 (ex_4_3 (ex_0 (ex_add ⟨by omega, by omega⟩ (ix_30x (j := ((6 * c) + 2)) (v := (xs (6 * c + 2)).toInt) hX.1 (by omega) (by omega) (by omega) (hX.2 _ (by omega)) ?_)))))))))))
  obtain ⟨x, G1, I1, P1, I2, e1, hS1, e2, hX1, hR1⟩ := P_where hR hc (a := (xs (6 * c + 1)).toInt) (b := (xs (6 * c + 2)).toInt)
  refine (ix_46 (S' := [(.inl x)]) rfl (sh_64 hS) e1 rfl rfl (ex_6_2 (ex_6_0 (ex_4_3 (ex_0 (ex_add ⟨by omega, by omega⟩ (ix_30x (j := ((6 * c) + 1)) (v := (xs (6 * c + 1)).toInt) hX1.1 (by omega) (by omega) (by omega) (hX1.2 _ (by omega)) (ex_6_0 (ex_4_3 (ex_0 (ex_add ⟨by omega, by omega⟩ (ix_30x (j := ((6 * c) + 2)) (v := (xs (6 * c + 2)).toInt) hX1.1 (by omega) (by omega) (by omega) (hX1.2 _ (by omega)) (ix_46 (S' := [(.inl x), (.inl x)]) rfl (sh_208 hS1) e2 rfl rfl ?_)))))))))))))
  refine ex_ic0 (fun hc838 => ?_) (fun hc838 => by exact absurd rfl hc838)
  exact hk _ _ _ hR1
theorem l_23 {L : Nat} {xs : Nat → Int32} {c : Nat} {G : am_G} {I : Nat → Nat → Int} {P : Nat → Nat → Option Nat} {Q : am_O → Prop} (hR : REL L xs c G I P) (hc : c ≤ 600) (hL : 6 * c + 6 ≤ L) (hk : ∀ G1 I2 P1, REL L xs (c + 1) G1 I2 P1 → am_ex (am_call am_B am_M 100) (am_B 288) (am_B 288 91) [some (.inr (.inr (some 0))), some (.inr (.inr (some 64))), some (.inr (.inr (some 208))), some (.inl ((6 * c : Nat) : Int))] [] (G1, I2, P1) Q) : am_ex (am_call am_B am_M 100) (am_B 288) (am_B 288 49) [some (.inr (.inr (some 0))), some (.inr (.inr (some 64))), some (.inr (.inr (some 208))), some (.inl ((6 * c : Nat) : Int))] [] (G, I, P) Q := by
  obtain ⟨hS, hX, hG⟩ := REL_x hR
  refine (ex_6_1 (ex_6_0 (ex_4_3 (ex_0 (ex_add ⟨by omega, by omega⟩ (ix_30x (j := ((6 * c) + 1)) (v := (xs (6 * c + 1)).toInt) hX.1 (by omega) (by omega) (by omega) (hX.2 _ (by omega)) (ex_6_0 (ex_4_3 (ex_0 (ex_add ⟨by omega, by omega⟩ (ix_30x (j := ((6 * c) + 2)) (v := (xs (6 * c + 2)).toInt) hX.1 (by omega) (by omega) (by omega) (hX.2 _ (by omega)) ?_)))))))))))
  obtain ⟨x, G1, I1, P1, I2, e1, hS1, e2, hX1, hR1⟩ := P_first hR hc (a := (xs (6 * c + 1)).toInt) (b := (xs (6 * c + 2)).toInt)
  refine (ix_46 (S' := [(.inl x)]) rfl (sh_64 hS) e1 rfl rfl (ex_6_2 (ex_6_0 (ex_4_3 (ex_0 (ex_add ⟨by omega, by omega⟩ (ix_30x (j := ((6 * c) + 1)) (v := (xs (6 * c + 1)).toInt) hX1.1 (by omega) (by omega) (by omega) (hX1.2 _ (by omega)) (ex_6_0 (ex_4_3 (ex_0 (ex_add ⟨by omega, by omega⟩ (ix_30x (j := ((6 * c) + 2)) (v := (xs (6 * c + 2)).toInt) hX1.1 (by omega) (by omega) (by omega) (hX1.2 _ (by omega)) (ix_46 (S' := [(.inl x), (.inl x)]) rfl (sh_208 hS1) e2 rfl rfl ?_)))))))))))))
  refine ex_ic0 (fun hc871 => ?_) (fun hc871 => by exact absurd rfl hc871)
  exact hk _ _ _ hR1
theorem l_24 {L : Nat} {xs : Nat → Int32} {c : Nat} {G : am_G} {I : Nat → Nat → Int} {P : Nat → Nat → Option Nat} {Q : am_O → Prop} (hR : REL L xs c G I P) (hc : c ≤ 600) (hL : 6 * c + 6 ≤ L) (hk : ∀ G1 I2 P1, REL L xs (c + 1) G1 I2 P1 → am_ex (am_call am_B am_M 100) (am_B 288) (am_B 288 91) [some (.inr (.inr (some 0))), some (.inr (.inr (some 64))), some (.inr (.inr (some 208))), some (.inl ((6 * c : Nat) : Int))] [] (G1, I2, P1) Q) : am_ex (am_call am_B am_M 100) (am_B 288) (am_B 288 51) [some (.inr (.inr (some 0))), some (.inr (.inr (some 64))), some (.inr (.inr (some 208))), some (.inl ((6 * c : Nat) : Int))] [] (G, I, P) Q := by
  obtain ⟨hS, hX, hG⟩ := REL_x hR
  refine (ex_6_1 (ex_6_0 (ex_4_3 (ex_0 (ex_add ⟨by omega, by omega⟩ (ix_30x (j := ((6 * c) + 1)) (v := (xs (6 * c + 1)).toInt) hX.1 (by omega) (by omega) (by omega) (hX.2 _ (by omega)) (ex_6_0 (ex_4_3 (ex_0 (ex_add ⟨by omega, by omega⟩ (ix_30x (j := ((6 * c) + 2)) (v := (xs (6 * c + 2)).toInt) hX.1 (by omega) (by omega) (by omega) (hX.2 _ (by omega)) ?_)))))))))))
  obtain ⟨x, G1, I1, P1, I2, e1, hS1, e2, hX1, hR1⟩ := P_meeting hR hc (a := (xs (6 * c + 1)).toInt) (b := (xs (6 * c + 2)).toInt)
  refine (ix_46 (S' := [(.inl x)]) rfl (sh_64 hS) e1 rfl rfl (ex_6_2 (ex_6_0 (ex_4_3 (ex_0 (ex_add ⟨by omega, by omega⟩ (ix_30x (j := ((6 * c) + 1)) (v := (xs (6 * c + 1)).toInt) hX1.1 (by omega) (by omega) (by omega) (hX1.2 _ (by omega)) (ex_6_0 (ex_4_3 (ex_0 (ex_add ⟨by omega, by omega⟩ (ix_30x (j := ((6 * c) + 2)) (v := (xs (6 * c + 2)).toInt) hX1.1 (by omega) (by omega) (by omega) (hX1.2 _ (by omega)) (ix_46 (S' := [(.inl x), (.inl x)]) rfl (sh_208 hS1) e2 rfl rfl ?_)))))))))))))
  refine ex_ic0 (fun hc904 => ?_) (fun hc904 => by exact absurd rfl hc904)
  exact hk _ _ _ hR1
theorem l_25 {L : Nat} {xs : Nat → Int32} {c : Nat} {G : am_G} {I : Nat → Nat → Int} {P : Nat → Nat → Option Nat} {Q : am_O → Prop} (hR : REL L xs c G I P) (hc : c ≤ 600) (hL : 6 * c + 6 ≤ L) (hk : ∀ G1 I2 P1, REL L xs (c + 1) G1 I2 P1 → am_ex (am_call am_B am_M 100) (am_B 288) (am_B 288 91) [some (.inr (.inr (some 0))), some (.inr (.inr (some 64))), some (.inr (.inr (some 208))), some (.inl ((6 * c : Nat) : Int))] [] (G1, I2, P1) Q) : am_ex (am_call am_B am_M 100) (am_B 288) (am_B 288 53) [some (.inr (.inr (some 0))), some (.inr (.inr (some 64))), some (.inr (.inr (some 208))), some (.inl ((6 * c : Nat) : Int))] [] (G, I, P) Q := by
  obtain ⟨hS, hX, hG⟩ := REL_x hR
  refine (ex_6_1 ?_)
  obtain ⟨x, G1, I1, P1, I2, e1, hS1, e2, hX1, hR1⟩ := P_again hR hc 
  refine (ix_46 (S' := [(.inl x)]) rfl (sh_64 hS) e1 rfl rfl (ex_6_2 (ix_46 (S' := [(.inl x), (.inl x)]) rfl (sh_208 hS1) e2 rfl rfl ?_)))
  refine ex_ic0 (fun hc917 => ?_) (fun hc917 => by exact absurd rfl hc917)
  exact hk _ _ _ hR1
theorem l_26 {L : Nat} {xs : Nat → Int32} {c : Nat} {G : am_G} {I : Nat → Nat → Int} {P : Nat → Nat → Option Nat} {Q : am_O → Prop} (hR : REL L xs c G I P) (hc : c ≤ 600) (hL : 6 * c + 6 ≤ L) (hk : ∀ G1 I2 P1, REL L xs (c + 1) G1 I2 P1 → am_ex (am_call am_B am_M 100) (am_B 288) (am_B 288 91) [some (.inr (.inr (some 0))), some (.inr (.inr (some 64))), some (.inr (.inr (some 208))), some (.inl ((6 * c : Nat) : Int))] [] (G1, I2, P1) Q) : am_ex (am_call am_B am_M 100) (am_B 288) (am_B 288 55) [some (.inr (.inr (some 0))), some (.inr (.inr (some 64))), some (.inr (.inr (some 208))), some (.inl ((6 * c : Nat) : Int))] [] (G, I, P) Q := by
  obtain ⟨hS, hX, hG⟩ := REL_x hR
  refine (ex_6_1 (ex_6_0 (ex_4_3 (ex_0 (ex_add ⟨by omega, by omega⟩ (ix_30x (j := ((6 * c) + 1)) (v := (xs (6 * c + 1)).toInt) hX.1 (by omega) (by omega) (by omega) (hX.2 _ (by omega)) ?_))))))
  obtain ⟨x, G1, I1, P1, I2, e1, hS1, e2, hX1, hR1⟩ := P_answered hR hc (a := (xs (6 * c + 1)).toInt) (ha := by have := Int32.toInt_lt (xs (6 * c + 1)); omega)
  refine (ix_46 (S' := [(.inl x)]) rfl (sh_64 hS) e1 rfl rfl (ex_6_2 (ex_6_0 (ex_4_3 (ex_0 (ex_add ⟨by omega, by omega⟩ (ix_30x (j := ((6 * c) + 1)) (v := (xs (6 * c + 1)).toInt) hX1.1 (by omega) (by omega) (by omega) (hX1.2 _ (by omega)) (ix_46 (S' := [(.inl x), (.inl x)]) rfl (sh_208 hS1) e2 rfl rfl ?_))))))))
  refine ex_ic0 (fun hc940 => ?_) (fun hc940 => by exact absurd rfl hc940)
  exact hk _ _ _ hR1
theorem l_27 {L : Nat} {xs : Nat → Int32} {c : Nat} {G : am_G} {I : Nat → Nat → Int} {P : Nat → Nat → Option Nat} {Q : am_O → Prop} (hR : REL L xs c G I P) (hc : c ≤ 600) (hL : 6 * c + 6 ≤ L) (hk : ∀ G1 I2 P1, REL L xs (c + 1) G1 I2 P1 → am_ex (am_call am_B am_M 100) (am_B 288) (am_B 288 91) [some (.inr (.inr (some 0))), some (.inr (.inr (some 64))), some (.inr (.inr (some 208))), some (.inl ((6 * c : Nat) : Int))] [] (G1, I2, P1) Q) : am_ex (am_call am_B am_M 100) (am_B 288) (am_B 288 57) [some (.inr (.inr (some 0))), some (.inr (.inr (some 64))), some (.inr (.inr (some 208))), some (.inl ((6 * c : Nat) : Int))] [] (G, I, P) Q := by
  obtain ⟨hS, hX, hG⟩ := REL_x hR
  refine (ex_6_1 (ex_6_0 (ex_4_3 (ex_0 (ex_add ⟨by omega, by omega⟩ (ix_30x (j := ((6 * c) + 1)) (v := (xs (6 * c + 1)).toInt) hX.1 (by omega) (by omega) (by omega) (hX.2 _ (by omega)) (ex_6_0 (ex_4_3 (ex_0 (ex_add ⟨by omega, by omega⟩ (ix_30x (j := ((6 * c) + 2)) (v := (xs (6 * c + 2)).toInt) hX.1 (by omega) (by omega) (by omega) (hX.2 _ (by omega)) ?_)))))))))))
  obtain ⟨x, G1, I1, P1, I2, e1, hS1, e2, hX1, hR1⟩ := P_heard hR hc (a := (xs (6 * c + 1)).toInt) (b := (xs (6 * c + 2)).toInt)
  refine (ix_46 (S' := [(.inl x)]) rfl (sh_64 hS) e1 rfl rfl (ex_6_2 (ex_6_0 (ex_4_3 (ex_0 (ex_add ⟨by omega, by omega⟩ (ix_30x (j := ((6 * c) + 1)) (v := (xs (6 * c + 1)).toInt) hX1.1 (by omega) (by omega) (by omega) (hX1.2 _ (by omega)) (ex_6_0 (ex_4_3 (ex_0 (ex_add ⟨by omega, by omega⟩ (ix_30x (j := ((6 * c) + 2)) (v := (xs (6 * c + 2)).toInt) hX1.1 (by omega) (by omega) (by omega) (hX1.2 _ (by omega)) (ix_46 (S' := [(.inl x), (.inl x)]) rfl (sh_208 hS1) e2 rfl rfl ?_)))))))))))))
  refine ex_ic0 (fun hc973 => ?_) (fun hc973 => by exact absurd rfl hc973)
  exact hk _ _ _ hR1
theorem l_28 {L : Nat} {xs : Nat → Int32} {c : Nat} {G : am_G} {I : Nat → Nat → Int} {P : Nat → Nat → Option Nat} {Q : am_O → Prop} (hR : REL L xs c G I P) (hc : c ≤ 600) (hL : 6 * c + 6 ≤ L) (hk : ∀ G1 I2 P1, REL L xs (c + 1) G1 I2 P1 → am_ex (am_call am_B am_M 100) (am_B 288) (am_B 288 91) [some (.inr (.inr (some 0))), some (.inr (.inr (some 64))), some (.inr (.inr (some 208))), some (.inl ((6 * c : Nat) : Int))] [] (G1, I2, P1) Q) : am_ex (am_call am_B am_M 100) (am_B 288) (am_B 288 59) [some (.inr (.inr (some 0))), some (.inr (.inr (some 64))), some (.inr (.inr (some 208))), some (.inl ((6 * c : Nat) : Int))] [] (G, I, P) Q := by
  obtain ⟨hS, hX, hG⟩ := REL_x hR
  refine (ex_6_1 ?_)
  obtain ⟨x, G1, I1, P1, I2, e1, hS1, e2, hX1, hR1⟩ := P_forget hR hc 
  refine (ix_46 (S' := [(.inl x)]) rfl (sh_64 hS) e1 rfl rfl (ex_6_2 (ix_46 (S' := [(.inl x), (.inl x)]) rfl (sh_208 hS1) e2 rfl rfl ?_)))
  refine ex_ic0 (fun hc986 => ?_) (fun hc986 => by exact absurd rfl hc986)
  exact hk _ _ _ hR1
theorem l_29 {L : Nat} {xs : Nat → Int32} {c : Nat} {G : am_G} {I : Nat → Nat → Int} {P : Nat → Nat → Option Nat} {Q : am_O → Prop} (hR : REL L xs c G I P) (hc : c ≤ 600) (hL : 6 * c + 6 ≤ L) (hk : ∀ G1 I2 P1, REL L xs (c + 1) G1 I2 P1 → am_ex (am_call am_B am_M 100) (am_B 288) (am_B 288 91) [some (.inr (.inr (some 0))), some (.inr (.inr (some 64))), some (.inr (.inr (some 208))), some (.inl ((6 * c : Nat) : Int))] [] (G1, I2, P1) Q) : am_ex (am_call am_B am_M 100) (am_B 288) (am_B 288 61) [some (.inr (.inr (some 0))), some (.inr (.inr (some 64))), some (.inr (.inr (some 208))), some (.inl ((6 * c : Nat) : Int))] [] (G, I, P) Q := by
  obtain ⟨hS, hX, hG⟩ := REL_x hR
  refine (ex_6_1 ?_)
  obtain ⟨x, G1, I1, P1, I2, e1, hS1, e2, hX1, hR1⟩ := P_canBe hR hc 
  refine (ix_46 (S' := [(.inl x)]) rfl (sh_64 hS) e1 rfl rfl (ex_6_2 (ix_46 (S' := [(.inl x), (.inl x)]) rfl (sh_208 hS1) e2 rfl rfl ?_)))
  refine ex_ic0 (fun hc999 => ?_) (fun hc999 => by exact absurd rfl hc999)
  exact hk _ _ _ hR1
theorem l_30 {L : Nat} {xs : Nat → Int32} {c : Nat} {G : am_G} {I : Nat → Nat → Int} {P : Nat → Nat → Option Nat} {Q : am_O → Prop} (hR : REL L xs c G I P) (hc : c ≤ 600) (hL : 6 * c + 6 ≤ L) (hk : ∀ G1 I2 P1, REL L xs (c + 1) G1 I2 P1 → am_ex (am_call am_B am_M 100) (am_B 288) (am_B 288 91) [some (.inr (.inr (some 0))), some (.inr (.inr (some 64))), some (.inr (.inr (some 208))), some (.inl ((6 * c : Nat) : Int))] [] (G1, I2, P1) Q) : am_ex (am_call am_B am_M 100) (am_B 288) (am_B 288 63) [some (.inr (.inr (some 0))), some (.inr (.inr (some 64))), some (.inr (.inr (some 208))), some (.inl ((6 * c : Nat) : Int))] [] (G, I, P) Q := by
  obtain ⟨hS, hX, hG⟩ := REL_x hR
  refine (ex_6_1 (ex_6_0 (ex_4_3 (ex_0 (ex_add ⟨by omega, by omega⟩ (ix_30x (j := ((6 * c) + 1)) (v := (xs (6 * c + 1)).toInt) hX.1 (by omega) (by omega) (by omega) (hX.2 _ (by omega)) ?_))))))
  obtain ⟨x, G1, I1, P1, I2, e1, hS1, e2, hX1, hR1⟩ := P_ask hR hc (a := (xs (6 * c + 1)).toInt)
  refine (ix_46 (S' := [(.inl x)]) rfl (sh_64 hS) e1 rfl rfl (ex_6_2 (ex_6_0 (ex_4_3 (ex_0 (ex_add ⟨by omega, by omega⟩ (ix_30x (j := ((6 * c) + 1)) (v := (xs (6 * c + 1)).toInt) hX1.1 (by omega) (by omega) (by omega) (hX1.2 _ (by omega)) (ix_46 (S' := [(.inl x), (.inl x)]) rfl (sh_208 hS1) e2 rfl rfl ?_))))))))
  refine ex_ic0 (fun hc1022 => ?_) (fun hc1022 => by exact absurd rfl hc1022)
  exact hk _ _ _ hR1
theorem l_31 {L : Nat} {xs : Nat → Int32} {c : Nat} {G : am_G} {I : Nat → Nat → Int} {P : Nat → Nat → Option Nat} {Q : am_O → Prop} (hR : REL L xs c G I P) (hc : c ≤ 600) (hL : 6 * c + 6 ≤ L) (hk : ∀ G1 I2 P1, REL L xs (c + 1) G1 I2 P1 → am_ex (am_call am_B am_M 100) (am_B 288) (am_B 288 91) [some (.inr (.inr (some 0))), some (.inr (.inr (some 64))), some (.inr (.inr (some 208))), some (.inl ((6 * c : Nat) : Int))] [] (G1, I2, P1) Q) : am_ex (am_call am_B am_M 100) (am_B 288) (am_B 288 65) [some (.inr (.inr (some 0))), some (.inr (.inr (some 64))), some (.inr (.inr (some 208))), some (.inl ((6 * c : Nat) : Int))] [] (G, I, P) Q := by
  obtain ⟨hS, hX, hG⟩ := REL_x hR
  refine (ex_6_1 (ex_6_0 (ex_4_3 (ex_0 (ex_add ⟨by omega, by omega⟩ (ix_30x (j := ((6 * c) + 1)) (v := (xs (6 * c + 1)).toInt) hX.1 (by omega) (by omega) (by omega) (hX.2 _ (by omega)) (ex_6_0 (ex_4_3 (ex_0 (ex_add ⟨by omega, by omega⟩ (ix_30x (j := ((6 * c) + 2)) (v := (xs (6 * c + 2)).toInt) hX.1 (by omega) (by omega) (by omega) (hX.2 _ (by omega)) (ex_6_0 (ex_4_3 (ex_0 (ex_add ⟨by omega, by omega⟩ (ix_30x (j := ((6 * c) + 3)) (v := (xs (6 * c + 3)).toInt) hX.1 (by omega) (by omega) (by omega) (hX.2 _ (by omega)) ?_))))))))))))))))
  obtain ⟨x, G1, I1, P1, I2, e1, hS1, e2, hX1, hR1⟩ := P_way hR hc (a := (xs (6 * c + 1)).toInt) (b := (xs (6 * c + 2)).toInt) (w := (xs (6 * c + 3)).toInt)
  refine (ix_46 (S' := [(.inl x)]) rfl (sh_64 hS) e1 rfl rfl (ex_6_2 (ex_6_0 (ex_4_3 (ex_0 (ex_add ⟨by omega, by omega⟩ (ix_30x (j := ((6 * c) + 1)) (v := (xs (6 * c + 1)).toInt) hX1.1 (by omega) (by omega) (by omega) (hX1.2 _ (by omega)) (ex_6_0 (ex_4_3 (ex_0 (ex_add ⟨by omega, by omega⟩ (ix_30x (j := ((6 * c) + 2)) (v := (xs (6 * c + 2)).toInt) hX1.1 (by omega) (by omega) (by omega) (hX1.2 _ (by omega)) (ex_6_0 (ex_4_3 (ex_0 (ex_add ⟨by omega, by omega⟩ (ix_30x (j := ((6 * c) + 3)) (v := (xs (6 * c + 3)).toInt) hX1.1 (by omega) (by omega) (by omega) (hX1.2 _ (by omega)) (ix_46 (S' := [(.inl x), (.inl x)]) rfl (sh_208 hS1) e2 rfl rfl ?_))))))))))))))))))
  refine ex_ic0 (fun hc1065 => ?_) (fun hc1065 => by exact absurd rfl hc1065)
  exact hk _ _ _ hR1
theorem l_32 {L : Nat} {xs : Nat → Int32} {c : Nat} {G : am_G} {I : Nat → Nat → Int} {P : Nat → Nat → Option Nat} {Q : am_O → Prop} (hR : REL L xs c G I P) (hc : c ≤ 600) (hL : 6 * c + 6 ≤ L) (hk : ∀ G1 I2 P1, REL L xs (c + 1) G1 I2 P1 → am_ex (am_call am_B am_M 100) (am_B 288) (am_B 288 91) [some (.inr (.inr (some 0))), some (.inr (.inr (some 64))), some (.inr (.inr (some 208))), some (.inl ((6 * c : Nat) : Int))] [] (G1, I2, P1) Q) : am_ex (am_call am_B am_M 100) (am_B 288) (am_B 288 67) [some (.inr (.inr (some 0))), some (.inr (.inr (some 64))), some (.inr (.inr (some 208))), some (.inl ((6 * c : Nat) : Int))] [] (G, I, P) Q := by
  obtain ⟨hS, hX, hG⟩ := REL_x hR
  refine (ex_6_1 (ex_6_0 (ex_4_3 (ex_0 (ex_add ⟨by omega, by omega⟩ (ix_30x (j := ((6 * c) + 1)) (v := (xs (6 * c + 1)).toInt) hX.1 (by omega) (by omega) (by omega) (hX.2 _ (by omega)) (ex_6_0 (ex_4_3 (ex_0 (ex_add ⟨by omega, by omega⟩ (ix_30x (j := ((6 * c) + 2)) (v := (xs (6 * c + 2)).toInt) hX.1 (by omega) (by omega) (by omega) (hX.2 _ (by omega)) (ex_6_0 (ex_4_3 (ex_0 (ex_add ⟨by omega, by omega⟩ (ix_30x (j := ((6 * c) + 3)) (v := (xs (6 * c + 3)).toInt) hX.1 (by omega) (by omega) (by omega) (hX.2 _ (by omega)) ?_))))))))))))))))
  obtain ⟨x, G1, I1, P1, I2, e1, hS1, e2, hX1, hR1⟩ := P_part hR hc (a := (xs (6 * c + 1)).toInt) (b := (xs (6 * c + 2)).toInt) (w := (xs (6 * c + 3)).toInt)
  refine (ix_46 (S' := [(.inl x)]) rfl (sh_64 hS) e1 rfl rfl (ex_6_2 (ex_6_0 (ex_4_3 (ex_0 (ex_add ⟨by omega, by omega⟩ (ix_30x (j := ((6 * c) + 1)) (v := (xs (6 * c + 1)).toInt) hX1.1 (by omega) (by omega) (by omega) (hX1.2 _ (by omega)) (ex_6_0 (ex_4_3 (ex_0 (ex_add ⟨by omega, by omega⟩ (ix_30x (j := ((6 * c) + 2)) (v := (xs (6 * c + 2)).toInt) hX1.1 (by omega) (by omega) (by omega) (hX1.2 _ (by omega)) (ex_6_0 (ex_4_3 (ex_0 (ex_add ⟨by omega, by omega⟩ (ix_30x (j := ((6 * c) + 3)) (v := (xs (6 * c + 3)).toInt) hX1.1 (by omega) (by omega) (by omega) (hX1.2 _ (by omega)) (ix_46 (S' := [(.inl x), (.inl x)]) rfl (sh_208 hS1) e2 rfl rfl ?_))))))))))))))))))
  refine ex_ic0 (fun hc1108 => ?_) (fun hc1108 => by exact absurd rfl hc1108)
  exact hk _ _ _ hR1
theorem l_33 {L : Nat} {xs : Nat → Int32} {c : Nat} {G : am_G} {I : Nat → Nat → Int} {P : Nat → Nat → Option Nat} {Q : am_O → Prop} (hR : REL L xs c G I P) (hc : c ≤ 600) (hL : 6 * c + 6 ≤ L) (hk : ∀ G1 I2 P1, REL L xs (c + 1) G1 I2 P1 → am_ex (am_call am_B am_M 100) (am_B 288) (am_B 288 91) [some (.inr (.inr (some 0))), some (.inr (.inr (some 64))), some (.inr (.inr (some 208))), some (.inl ((6 * c : Nat) : Int))] [] (G1, I2, P1) Q) : am_ex (am_call am_B am_M 100) (am_B 288) (am_B 288 69) [some (.inr (.inr (some 0))), some (.inr (.inr (some 64))), some (.inr (.inr (some 208))), some (.inl ((6 * c : Nat) : Int))] [] (G, I, P) Q := by
  obtain ⟨hS, hX, hG⟩ := REL_x hR
  refine (ex_6_1 (ex_6_0 (ex_4_3 (ex_0 (ex_add ⟨by omega, by omega⟩ (ix_30x (j := ((6 * c) + 1)) (v := (xs (6 * c + 1)).toInt) hX.1 (by omega) (by omega) (by omega) (hX.2 _ (by omega)) ?_))))))
  obtain ⟨x, G1, I1, P1, I2, e1, hS1, e2, hX1, hR1⟩ := P_leave hR hc (w := (xs (6 * c + 1)).toInt)
  refine (ix_46 (S' := [(.inl x)]) rfl (sh_64 hS) e1 rfl rfl (ex_6_2 (ex_6_0 (ex_4_3 (ex_0 (ex_add ⟨by omega, by omega⟩ (ix_30x (j := ((6 * c) + 1)) (v := (xs (6 * c + 1)).toInt) hX1.1 (by omega) (by omega) (by omega) (hX1.2 _ (by omega)) (ix_46 (S' := [(.inl x), (.inl x)]) rfl (sh_208 hS1) e2 rfl rfl ?_))))))))
  refine ex_ic0 (fun hc1131 => ?_) (fun hc1131 => by exact absurd rfl hc1131)
  exact hk _ _ _ hR1
theorem l_34 {L : Nat} {xs : Nat → Int32} {c : Nat} {G : am_G} {I : Nat → Nat → Int} {P : Nat → Nat → Option Nat} {Q : am_O → Prop} (hR : REL L xs c G I P) (hc : c ≤ 600) (hL : 6 * c + 6 ≤ L) (hk : ∀ G1 I2 P1, REL L xs (c + 1) G1 I2 P1 → am_ex (am_call am_B am_M 100) (am_B 288) (am_B 288 91) [some (.inr (.inr (some 0))), some (.inr (.inr (some 64))), some (.inr (.inr (some 208))), some (.inl ((6 * c : Nat) : Int))] [] (G1, I2, P1) Q) : am_ex (am_call am_B am_M 100) (am_B 288) (am_B 288 71) [some (.inr (.inr (some 0))), some (.inr (.inr (some 64))), some (.inr (.inr (some 208))), some (.inl ((6 * c : Nat) : Int))] [] (G, I, P) Q := by
  obtain ⟨hS, hX, hG⟩ := REL_x hR
  refine (ex_6_1 ?_)
  obtain ⟨x, G1, I1, P1, I2, e1, hS1, e2, hX1, hR1⟩ := P_needed hR hc 
  refine (ix_46 (S' := [(.inl x)]) rfl (sh_64 hS) e1 rfl rfl (ex_6_2 (ix_46 (S' := [(.inl x), (.inl x)]) rfl (sh_208 hS1) e2 rfl rfl ?_)))
  refine ex_ic0 (fun hc1144 => ?_) (fun hc1144 => by exact absurd rfl hc1144)
  exact hk _ _ _ hR1
theorem l_35 {L : Nat} {xs : Nat → Int32} {c : Nat} {G : am_G} {I : Nat → Nat → Int} {P : Nat → Nat → Option Nat} {Q : am_O → Prop} (hR : REL L xs c G I P) (hc : c ≤ 600) (hL : 6 * c + 6 ≤ L) (hk : ∀ G1 I2 P1, REL L xs (c + 1) G1 I2 P1 → am_ex (am_call am_B am_M 100) (am_B 288) (am_B 288 91) [some (.inr (.inr (some 0))), some (.inr (.inr (some 64))), some (.inr (.inr (some 208))), some (.inl ((6 * c : Nat) : Int))] [] (G1, I2, P1) Q) : am_ex (am_call am_B am_M 100) (am_B 288) (am_B 288 73) [some (.inr (.inr (some 0))), some (.inr (.inr (some 64))), some (.inr (.inr (some 208))), some (.inl ((6 * c : Nat) : Int))] [] (G, I, P) Q := by
  obtain ⟨hS, hX, hG⟩ := REL_x hR
  refine (ex_6_1 (ex_6_0 (ex_4_3 (ex_0 (ex_add ⟨by omega, by omega⟩ (ix_30x (j := ((6 * c) + 1)) (v := (xs (6 * c + 1)).toInt) hX.1 (by omega) (by omega) (by omega) (hX.2 _ (by omega)) ?_))))))
  obtain ⟨x, G1, I1, P1, I2, e1, hS1, e2, hX1, hR1⟩ := P_fair hR hc (a := (xs (6 * c + 1)).toInt)
  refine (ix_46 (S' := [(.inl x)]) rfl (sh_64 hS) e1 rfl rfl (ex_6_2 (ex_6_0 (ex_4_3 (ex_0 (ex_add ⟨by omega, by omega⟩ (ix_30x (j := ((6 * c) + 1)) (v := (xs (6 * c + 1)).toInt) hX1.1 (by omega) (by omega) (by omega) (hX1.2 _ (by omega)) (ix_46 (S' := [(.inl x), (.inl x)]) rfl (sh_208 hS1) e2 rfl rfl ?_))))))))
  refine ex_ic0 (fun hc1167 => ?_) (fun hc1167 => by exact absurd rfl hc1167)
  exact hk _ _ _ hR1
theorem l_36 {L : Nat} {xs : Nat → Int32} {c : Nat} {G : am_G} {I : Nat → Nat → Int} {P : Nat → Nat → Option Nat} {Q : am_O → Prop} (hR : REL L xs c G I P) (hc : c ≤ 600) (hL : 6 * c + 6 ≤ L) (hk : ∀ G1 I2 P1, REL L xs (c + 1) G1 I2 P1 → am_ex (am_call am_B am_M 100) (am_B 288) (am_B 288 91) [some (.inr (.inr (some 0))), some (.inr (.inr (some 64))), some (.inr (.inr (some 208))), some (.inl ((6 * c : Nat) : Int))] [] (G1, I2, P1) Q) : am_ex (am_call am_B am_M 100) (am_B 288) (am_B 288 75) [some (.inr (.inr (some 0))), some (.inr (.inr (some 64))), some (.inr (.inr (some 208))), some (.inl ((6 * c : Nat) : Int))] [] (G, I, P) Q := by
  obtain ⟨hS, hX, hG⟩ := REL_x hR
  refine (ex_6_1 (ex_6_0 (ex_4_3 (ex_0 (ex_add ⟨by omega, by omega⟩ (ix_30x (j := ((6 * c) + 1)) (v := (xs (6 * c + 1)).toInt) hX.1 (by omega) (by omega) (by omega) (hX.2 _ (by omega)) (ex_6_0 (ex_4_3 (ex_0 (ex_add ⟨by omega, by omega⟩ (ix_30x (j := ((6 * c) + 2)) (v := (xs (6 * c + 2)).toInt) hX.1 (by omega) (by omega) (by omega) (hX.2 _ (by omega)) ?_)))))))))))
  obtain ⟨x, G1, I1, P1, I2, e1, hS1, e2, hX1, hR1⟩ := P_few hR hc (a := (xs (6 * c + 1)).toInt) (b := (xs (6 * c + 2)).toInt)
  refine (ix_46 (S' := [(.inr (.inl x))]) rfl (sh_64 hS) e1 rfl rfl (ex_6_2 (ex_6_0 (ex_4_3 (ex_0 (ex_add ⟨by omega, by omega⟩ (ix_30x (j := ((6 * c) + 1)) (v := (xs (6 * c + 1)).toInt) hX1.1 (by omega) (by omega) (by omega) (hX1.2 _ (by omega)) (ex_6_0 (ex_4_3 (ex_0 (ex_add ⟨by omega, by omega⟩ (ix_30x (j := ((6 * c) + 2)) (v := (xs (6 * c + 2)).toInt) hX1.1 (by omega) (by omega) (by omega) (hX1.2 _ (by omega)) (ix_46 (S' := [(.inr (.inl x)), (.inr (.inl x))]) rfl (sh_208 hS1) e2 rfl rfl ?_)))))))))))))
  refine ex_lc0 (fun hc1201 => ?_) (fun hc1201 => by exact absurd rfl hc1201)
  exact hk _ _ _ hR1
theorem l_37 {L : Nat} {xs : Nat → Int32} {c : Nat} {G : am_G} {I : Nat → Nat → Int} {P : Nat → Nat → Option Nat} {Q : am_O → Prop} (hR : REL L xs c G I P) (hc : c ≤ 600) (hL : 6 * c + 6 ≤ L) (hk : ∀ G1 I2 P1, REL L xs (c + 1) G1 I2 P1 → am_ex (am_call am_B am_M 100) (am_B 288) (am_B 288 91) [some (.inr (.inr (some 0))), some (.inr (.inr (some 64))), some (.inr (.inr (some 208))), some (.inl ((6 * c : Nat) : Int))] [] (G1, I2, P1) Q) : am_ex (am_call am_B am_M 100) (am_B 288) (am_B 288 77) [some (.inr (.inr (some 0))), some (.inr (.inr (some 64))), some (.inr (.inr (some 208))), some (.inl ((6 * c : Nat) : Int))] [] (G, I, P) Q := by
  obtain ⟨hS, hX, hG⟩ := REL_x hR
  refine (ex_6_1 (ex_6_0 (ex_4_3 (ex_0 (ex_add ⟨by omega, by omega⟩ (ix_30x (j := ((6 * c) + 1)) (v := (xs (6 * c + 1)).toInt) hX.1 (by omega) (by omega) (by omega) (hX.2 _ (by omega)) ?_))))))
  obtain ⟨x, G1, I1, P1, I2, e1, hS1, e2, hX1, hR1⟩ := P_compare hR hc (a := (xs (6 * c + 1)).toInt)
  refine (ix_46 (S' := [(.inl x)]) rfl (sh_64 hS) e1 rfl rfl (ex_6_2 (ex_6_0 (ex_4_3 (ex_0 (ex_add ⟨by omega, by omega⟩ (ix_30x (j := ((6 * c) + 1)) (v := (xs (6 * c + 1)).toInt) hX1.1 (by omega) (by omega) (by omega) (hX1.2 _ (by omega)) (ix_46 (S' := [(.inl x), (.inl x)]) rfl (sh_208 hS1) e2 rfl rfl ?_))))))))
  refine ex_ic0 (fun hc1224 => ?_) (fun hc1224 => by exact absurd rfl hc1224)
  exact hk _ _ _ hR1
theorem l_38 {L : Nat} {xs : Nat → Int32} {c : Nat} {G : am_G} {I : Nat → Nat → Int} {P : Nat → Nat → Option Nat} {Q : am_O → Prop} (hR : REL L xs c G I P) (hc : c ≤ 600) (hL : 6 * c + 6 ≤ L) (hk : ∀ G1 I2 P1, REL L xs (c + 1) G1 I2 P1 → am_ex (am_call am_B am_M 100) (am_B 288) (am_B 288 91) [some (.inr (.inr (some 0))), some (.inr (.inr (some 64))), some (.inr (.inr (some 208))), some (.inl ((6 * c : Nat) : Int))] [] (G1, I2, P1) Q) : am_ex (am_call am_B am_M 100) (am_B 288) (am_B 288 79) [some (.inr (.inr (some 0))), some (.inr (.inr (some 64))), some (.inr (.inr (some 208))), some (.inl ((6 * c : Nat) : Int))] [] (G, I, P) Q := by
  obtain ⟨hS, hX, hG⟩ := REL_x hR
  refine (ex_6_1 (ex_6_0 (ex_4_3 (ex_0 (ex_add ⟨by omega, by omega⟩ (ix_30x (j := ((6 * c) + 1)) (v := (xs (6 * c + 1)).toInt) hX.1 (by omega) (by omega) (by omega) (hX.2 _ (by omega)) (ex_6_0 (ex_4_3 (ex_0 (ex_add ⟨by omega, by omega⟩ (ix_30x (j := ((6 * c) + 2)) (v := (xs (6 * c + 2)).toInt) hX.1 (by omega) (by omega) (by omega) (hX.2 _ (by omega)) ?_)))))))))))
  obtain ⟨x, G1, I1, P1, I2, e1, hS1, e2, hX1, hR1⟩ := P_seasons hR hc (a := (xs (6 * c + 1)).toInt) (b := (xs (6 * c + 2)).toInt)
  refine (ix_46 (S' := [(.inl x)]) rfl (sh_64 hS) e1 rfl rfl (ex_6_2 (ex_6_0 (ex_4_3 (ex_0 (ex_add ⟨by omega, by omega⟩ (ix_30x (j := ((6 * c) + 1)) (v := (xs (6 * c + 1)).toInt) hX1.1 (by omega) (by omega) (by omega) (hX1.2 _ (by omega)) (ex_6_0 (ex_4_3 (ex_0 (ex_add ⟨by omega, by omega⟩ (ix_30x (j := ((6 * c) + 2)) (v := (xs (6 * c + 2)).toInt) hX1.1 (by omega) (by omega) (by omega) (hX1.2 _ (by omega)) (ix_46 (S' := [(.inl x), (.inl x)]) rfl (sh_208 hS1) e2 rfl rfl ?_)))))))))))))
  refine ex_ic0 (fun hc1257 => ?_) (fun hc1257 => by exact absurd rfl hc1257)
  exact hk _ _ _ hR1
theorem l_39 {L : Nat} {xs : Nat → Int32} {c : Nat} {G : am_G} {I : Nat → Nat → Int} {P : Nat → Nat → Option Nat} {Q : am_O → Prop} (hR : REL L xs c G I P) (hc : c ≤ 600) (hL : 6 * c + 6 ≤ L) (hk : ∀ G1 I2 P1, REL L xs (c + 1) G1 I2 P1 → am_ex (am_call am_B am_M 100) (am_B 288) (am_B 288 91) [some (.inr (.inr (some 0))), some (.inr (.inr (some 64))), some (.inr (.inr (some 208))), some (.inl ((6 * c : Nat) : Int))] [] (G1, I2, P1) Q) : am_ex (am_call am_B am_M 100) (am_B 288) (am_B 288 81) [some (.inr (.inr (some 0))), some (.inr (.inr (some 64))), some (.inr (.inr (some 208))), some (.inl ((6 * c : Nat) : Int))] [] (G, I, P) Q := by
  obtain ⟨hS, hX, hG⟩ := REL_x hR
  refine (ex_6_1 (ex_6_0 (ex_4_3 (ex_0 (ex_add ⟨by omega, by omega⟩ (ix_30x (j := ((6 * c) + 1)) (v := (xs (6 * c + 1)).toInt) hX.1 (by omega) (by omega) (by omega) (hX.2 _ (by omega)) (ex_6_0 (ex_4_3 (ex_0 (ex_add ⟨by omega, by omega⟩ (ix_30x (j := ((6 * c) + 2)) (v := (xs (6 * c + 2)).toInt) hX.1 (by omega) (by omega) (by omega) (hX.2 _ (by omega)) ?_)))))))))))
  obtain ⟨x, G1, I1, P1, I2, e1, hS1, e2, hX1, hR1⟩ := P_drawn hR hc (a := (xs (6 * c + 1)).toInt) (b := (xs (6 * c + 2)).toInt)
  refine (ix_46 (S' := [(.inl x)]) rfl (sh_64 hS) e1 rfl rfl (ex_6_2 (ex_6_0 (ex_4_3 (ex_0 (ex_add ⟨by omega, by omega⟩ (ix_30x (j := ((6 * c) + 1)) (v := (xs (6 * c + 1)).toInt) hX1.1 (by omega) (by omega) (by omega) (hX1.2 _ (by omega)) (ex_6_0 (ex_4_3 (ex_0 (ex_add ⟨by omega, by omega⟩ (ix_30x (j := ((6 * c) + 2)) (v := (xs (6 * c + 2)).toInt) hX1.1 (by omega) (by omega) (by omega) (hX1.2 _ (by omega)) (ix_46 (S' := [(.inl x), (.inl x)]) rfl (sh_208 hS1) e2 rfl rfl ?_)))))))))))))
  refine ex_ic0 (fun hc1290 => ?_) (fun hc1290 => by exact absurd rfl hc1290)
  exact hk _ _ _ hR1
theorem l_40 {L : Nat} {xs : Nat → Int32} {c : Nat} {G : am_G} {I : Nat → Nat → Int} {P : Nat → Nat → Option Nat} {Q : am_O → Prop} (hR : REL L xs c G I P) (hc : c ≤ 600) (hL : 6 * c + 6 ≤ L) (hk : ∀ G1 I2 P1, REL L xs (c + 1) G1 I2 P1 → am_ex (am_call am_B am_M 100) (am_B 288) (am_B 288 91) [some (.inr (.inr (some 0))), some (.inr (.inr (some 64))), some (.inr (.inr (some 208))), some (.inl ((6 * c : Nat) : Int))] [] (G1, I2, P1) Q) : am_ex (am_call am_B am_M 100) (am_B 288) (am_B 288 83) [some (.inr (.inr (some 0))), some (.inr (.inr (some 64))), some (.inr (.inr (some 208))), some (.inl ((6 * c : Nat) : Int))] [] (G, I, P) Q := by
  obtain ⟨hS, hX, hG⟩ := REL_x hR
  refine (ex_6_1 (ex_6_0 (ex_4_3 (ex_0 (ex_add ⟨by omega, by omega⟩ (ix_30x (j := ((6 * c) + 1)) (v := (xs (6 * c + 1)).toInt) hX.1 (by omega) (by omega) (by omega) (hX.2 _ (by omega)) ?_))))))
  obtain ⟨x, G1, I1, P1, I2, e1, hS1, e2, hX1, hR1⟩ := P_image hR hc (a := (xs (6 * c + 1)).toInt)
  refine (ix_46 (S' := [(.inl x)]) rfl (sh_64 hS) e1 rfl rfl (ex_6_2 (ex_6_0 (ex_4_3 (ex_0 (ex_add ⟨by omega, by omega⟩ (ix_30x (j := ((6 * c) + 1)) (v := (xs (6 * c + 1)).toInt) hX1.1 (by omega) (by omega) (by omega) (hX1.2 _ (by omega)) (ix_46 (S' := [(.inl x), (.inl x)]) rfl (sh_208 hS1) e2 rfl rfl ?_))))))))
  refine ex_ic0 (fun hc1313 => ?_) (fun hc1313 => by exact absurd rfl hc1313)
  exact hk _ _ _ hR1
theorem l_41 {L : Nat} {xs : Nat → Int32} {c : Nat} {G : am_G} {I : Nat → Nat → Int} {P : Nat → Nat → Option Nat} {Q : am_O → Prop} (hR : REL L xs c G I P) (hc : c ≤ 600) (hL : 6 * c + 6 ≤ L) (hk : ∀ G1 I2 P1, REL L xs (c + 1) G1 I2 P1 → am_ex (am_call am_B am_M 100) (am_B 288) (am_B 288 91) [some (.inr (.inr (some 0))), some (.inr (.inr (some 64))), some (.inr (.inr (some 208))), some (.inl ((6 * c : Nat) : Int))] [] (G1, I2, P1) Q) : am_ex (am_call am_B am_M 100) (am_B 288) (am_B 288 85) [some (.inr (.inr (some 0))), some (.inr (.inr (some 64))), some (.inr (.inr (some 208))), some (.inl ((6 * c : Nat) : Int))] [] (G, I, P) Q := by
  obtain ⟨hS, hX, hG⟩ := REL_x hR
  refine (ex_6_1 (ex_6_0 (ex_4_3 (ex_0 (ex_add ⟨by omega, by omega⟩ (ix_30x (j := ((6 * c) + 1)) (v := (xs (6 * c + 1)).toInt) hX.1 (by omega) (by omega) (by omega) (hX.2 _ (by omega)) ?_))))))
  obtain ⟨x, G1, I1, P1, I2, e1, hS1, e2, hX1, hR1⟩ := P_back hR hc (a := (xs (6 * c + 1)).toInt)
  refine (ix_46 (S' := [(.inl x)]) rfl (sh_64 hS) e1 rfl rfl (ex_6_2 (ex_6_0 (ex_4_3 (ex_0 (ex_add ⟨by omega, by omega⟩ (ix_30x (j := ((6 * c) + 1)) (v := (xs (6 * c + 1)).toInt) hX1.1 (by omega) (by omega) (by omega) (hX1.2 _ (by omega)) (ix_46 (S' := [(.inl x), (.inl x)]) rfl (sh_208 hS1) e2 rfl rfl ?_))))))))
  refine ex_ic0 (fun hc1336 => ?_) (fun hc1336 => by exact absurd rfl hc1336)
  exact hk _ _ _ hR1
theorem l_42 {L : Nat} {xs : Nat → Int32} {c : Nat} {G : am_G} {I : Nat → Nat → Int} {P : Nat → Nat → Option Nat} {Q : am_O → Prop} (hR : REL L xs c G I P) (hc : c ≤ 600) (hL : 6 * c + 6 ≤ L) (hk : ∀ G1 I2 P1, REL L xs (c + 1) G1 I2 P1 → am_ex (am_call am_B am_M 100) (am_B 288) (am_B 288 91) [some (.inr (.inr (some 0))), some (.inr (.inr (some 64))), some (.inr (.inr (some 208))), some (.inl ((6 * c : Nat) : Int))] [] (G1, I2, P1) Q) : am_ex (am_call am_B am_M 100) (am_B 288) (am_B 288 87) [some (.inr (.inr (some 0))), some (.inr (.inr (some 64))), some (.inr (.inr (some 208))), some (.inl ((6 * c : Nat) : Int))] [] (G, I, P) Q := by
  obtain ⟨hS, hX, hG⟩ := REL_x hR
  refine (ex_6_1 (ex_6_0 (ex_4_3 (ex_0 (ex_add ⟨by omega, by omega⟩ (ix_30x (j := ((6 * c) + 1)) (v := (xs (6 * c + 1)).toInt) hX.1 (by omega) (by omega) (by omega) (hX.2 _ (by omega)) ?_))))))
  obtain ⟨x, G1, I1, P1, I2, e1, hS1, e2, hX1, hR1⟩ := P_count hR hc (w := (xs (6 * c + 1)).toInt)
  refine (ix_46 (S' := [(.inl x)]) rfl (sh_64 hS) e1 rfl rfl (ex_6_2 (ex_6_0 (ex_4_3 (ex_0 (ex_add ⟨by omega, by omega⟩ (ix_30x (j := ((6 * c) + 1)) (v := (xs (6 * c + 1)).toInt) hX1.1 (by omega) (by omega) (by omega) (hX1.2 _ (by omega)) (ix_46 (S' := [(.inl x), (.inl x)]) rfl (sh_208 hS1) e2 rfl rfl ?_))))))))
  refine ex_ic0 (fun hc1359 => ?_) (fun hc1359 => by exact absurd rfl hc1359)
  exact hk _ _ _ hR1
theorem l_43 {L : Nat} {xs : Nat → Int32} {c : Nat} {G : am_G} {I : Nat → Nat → Int} {P : Nat → Nat → Option Nat} {Q : am_O → Prop} (hR : REL L xs c G I P) (hc : c ≤ 600) (hL : 6 * c + 6 ≤ L) (hk : ∀ G1 I2 P1, REL L xs (c + 1) G1 I2 P1 → am_ex (am_call am_B am_M 100) (am_B 288) (am_B 288 91) [some (.inr (.inr (some 0))), some (.inr (.inr (some 64))), some (.inr (.inr (some 208))), some (.inl ((6 * c : Nat) : Int))] [] (G1, I2, P1) Q) : am_ex (am_call am_B am_M 100) (am_B 288) (am_B 288 89) [some (.inr (.inr (some 0))), some (.inr (.inr (some 64))), some (.inr (.inr (some 208))), some (.inl ((6 * c : Nat) : Int))] [] (G, I, P) Q := by
  obtain ⟨hS, hX, hG⟩ := REL_x hR
  refine (ex_6_1 ?_)
  obtain ⟨x, G1, I1, P1, I2, e1, hS1, e2, hX1, hR1⟩ := P_status hR hc 
  refine (ix_46 (S' := [(.inl x)]) rfl (sh_64 hS) e1 rfl rfl (ex_6_2 (ix_46 (S' := [(.inl x), (.inl x)]) rfl (sh_208 hS1) e2 rfl rfl ?_)))
  refine ex_ic0 (fun hc1372 => ?_) (fun hc1372 => by exact absurd rfl hc1372)
  exact hk _ _ _ hR1
theorem l_body {L : Nat} {xs : Nat → Int32} {c : Nat} {G : am_G} {I : Nat → Nat → Int} {P : Nat → Nat → Option Nat} {Q : am_O → Prop} (hR : REL L xs c G I P) (hc : c ≤ 600) (hL : 6 * c + 6 ≤ L) (hk : ∀ G1 I2 P1, REL L xs (c + 1) G1 I2 P1 → am_ex (am_call am_B am_M 100) (am_B 288) (am_B 288 91) [some (.inr (.inr (some 0))), some (.inr (.inr (some 64))), some (.inr (.inr (some 208))), some (.inl ((6 * c : Nat) : Int))] [] (G1, I2, P1) Q) : am_ex (am_call am_B am_M 100) (am_B 288) (am_B 288 2) [some (.inr (.inr (some 0))), some (.inr (.inr (some 64))), some (.inr (.inr (some 208))), some (.inl ((6 * c : Nat) : Int))] [] (G, I, P) Q := by
  obtain ⟨hS, hX, hG⟩ := REL_x hR
  refine (ex_6_0 (ex_4_3 (ix_30x (j := 6 * c) (v := (xs (6 * c)).toInt) hX.1 (by omega) (by omega) (by omega) (hX.2 _ (by omega)) (ex_0 (ex_11e rfl ?_)))))
  generalize am_b2 3 (xs (6 * c)).toInt 63 = s
  by_cases e0 : s = 0
  · exact ex_29i 0 (by rw [e0]; rfl) rfl (l_0 hR hc hL hk)
  by_cases e1 : s = 1
  · exact ex_29i 1 (by rw [e1]; rfl) rfl (l_1 hR hc hL hk)
  by_cases e2 : s = 2
  · exact ex_29i 2 (by rw [e2]; rfl) rfl (l_2 hR hc hL hk)
  by_cases e3 : s = 3
  · exact ex_29i 3 (by rw [e3]; rfl) rfl (l_3 hR hc hL hk)
  by_cases e4 : s = 4
  · exact ex_29i 4 (by rw [e4]; rfl) rfl (l_4 hR hc hL hk)
  by_cases e5 : s = 5
  · exact ex_29i 5 (by rw [e5]; rfl) rfl (l_5 hR hc hL hk)
  by_cases e6 : s = 6
  · exact ex_29i 6 (by rw [e6]; rfl) rfl (l_6 hR hc hL hk)
  by_cases e7 : s = 7
  · exact ex_29i 7 (by rw [e7]; rfl) rfl (l_7 hR hc hL hk)
  by_cases e8 : s = 8
  · exact ex_29i 8 (by rw [e8]; rfl) rfl (l_8 hR hc hL hk)
  by_cases e9 : s = 9
  · exact ex_29i 9 (by rw [e9]; rfl) rfl (l_9 hR hc hL hk)
  by_cases e10 : s = 10
  · exact ex_29i 10 (by rw [e10]; rfl) rfl (l_10 hR hc hL hk)
  by_cases e11 : s = 11
  · exact ex_29i 11 (by rw [e11]; rfl) rfl (l_11 hR hc hL hk)
  by_cases e12 : s = 12
  · exact ex_29i 12 (by rw [e12]; rfl) rfl (l_12 hR hc hL hk)
  by_cases e13 : s = 13
  · exact ex_29i 13 (by rw [e13]; rfl) rfl (l_13 hR hc hL hk)
  by_cases e14 : s = 14
  · exact ex_29i 14 (by rw [e14]; rfl) rfl (l_14 hR hc hL hk)
  by_cases e15 : s = 15
  · exact ex_29i 15 (by rw [e15]; rfl) rfl (l_15 hR hc hL hk)
  by_cases e16 : s = 16
  · exact ex_29i 16 (by rw [e16]; rfl) rfl (l_16 hR hc hL hk)
  by_cases e17 : s = 17
  · exact ex_29i 17 (by rw [e17]; rfl) rfl (l_17 hR hc hL hk)
  by_cases e18 : s = 18
  · exact ex_29i 18 (by rw [e18]; rfl) rfl (l_18 hR hc hL hk)
  by_cases e19 : s = 19
  · exact ex_29i 19 (by rw [e19]; rfl) rfl (l_19 hR hc hL hk)
  by_cases e20 : s = 20
  · exact ex_29i 20 (by rw [e20]; rfl) rfl (l_20 hR hc hL hk)
  by_cases e21 : s = 21
  · exact ex_29i 21 (by rw [e21]; rfl) rfl (l_21 hR hc hL hk)
  by_cases e22 : s = 22
  · exact ex_29i 22 (by rw [e22]; rfl) rfl (l_22 hR hc hL hk)
  by_cases e23 : s = 23
  · exact ex_29i 23 (by rw [e23]; rfl) rfl (l_23 hR hc hL hk)
  by_cases e24 : s = 24
  · exact ex_29i 24 (by rw [e24]; rfl) rfl (l_24 hR hc hL hk)
  by_cases e25 : s = 25
  · exact ex_29i 25 (by rw [e25]; rfl) rfl (l_25 hR hc hL hk)
  by_cases e26 : s = 26
  · exact ex_29i 26 (by rw [e26]; rfl) rfl (l_26 hR hc hL hk)
  by_cases e27 : s = 27
  · exact ex_29i 27 (by rw [e27]; rfl) rfl (l_27 hR hc hL hk)
  by_cases e28 : s = 28
  · exact ex_29i 28 (by rw [e28]; rfl) rfl (l_28 hR hc hL hk)
  by_cases e29 : s = 29
  · exact ex_29i 29 (by rw [e29]; rfl) rfl (l_29 hR hc hL hk)
  by_cases e30 : s = 30
  · exact ex_29i 30 (by rw [e30]; rfl) rfl (l_30 hR hc hL hk)
  by_cases e31 : s = 31
  · exact ex_29i 31 (by rw [e31]; rfl) rfl (l_31 hR hc hL hk)
  by_cases e32 : s = 32
  · exact ex_29i 32 (by rw [e32]; rfl) rfl (l_32 hR hc hL hk)
  by_cases e33 : s = 33
  · exact ex_29i 33 (by rw [e33]; rfl) rfl (l_33 hR hc hL hk)
  by_cases e34 : s = 34
  · exact ex_29i 34 (by rw [e34]; rfl) rfl (l_34 hR hc hL hk)
  by_cases e35 : s = 35
  · exact ex_29i 35 (by rw [e35]; rfl) rfl (l_35 hR hc hL hk)
  by_cases e36 : s = 36
  · exact ex_29i 36 (by rw [e36]; rfl) rfl (l_36 hR hc hL hk)
  by_cases e37 : s = 37
  · exact ex_29i 37 (by rw [e37]; rfl) rfl (l_37 hR hc hL hk)
  by_cases e38 : s = 38
  · exact ex_29i 38 (by rw [e38]; rfl) rfl (l_38 hR hc hL hk)
  by_cases e39 : s = 39
  · exact ex_29i 39 (by rw [e39]; rfl) rfl (l_39 hR hc hL hk)
  by_cases e40 : s = 40
  · exact ex_29i 40 (by rw [e40]; rfl) rfl (l_40 hR hc hL hk)
  by_cases e41 : s = 41
  · exact ex_29i 41 (by rw [e41]; rfl) rfl (l_41 hR hc hL hk)
  by_cases e42 : s = 42
  · exact ex_29i 42 (by rw [e42]; rfl) rfl (l_42 hR hc hL hk)
  by_cases e43 : s = 43
  · exact ex_29i 43 (by rw [e43]; rfl) rfl (l_43 hR hc hL hk)
  refine ex_29o (by simp only [List.length_cons, List.length_nil]; omega) ?_
  exact hk _ _ _ (REL_s hR)
theorem l_loop {L : Nat} {xs : Nat → Int32} (hL : L ≤ 3072) : ∀ (k c : Nat) (G : am_G) (I : Nat → Nat → Int) (P : Nat → Nat → Option Nat), c + k = L / 6 → REL L xs c G I P → am_ex (am_call am_B am_M 100) (am_B 288) (am_B 288 1) [some (.inr (.inr (some 0))), some (.inr (.inr (some 64))), some (.inr (.inr (some 208))), some (.inl ((6 * c : Nat) : Int))] [] (G, I, P) (fun o => ∃ h' : am_H, o = (some (.inl 1), h') ∧ h'.1.1 ≤ 600000 ∧ h'.1.2.1 ≤ 7302250) := by
  intro k
  induction k with
  | zero =>
    intro c G I P hk hR
    obtain ⟨hS, hX, hG⟩ := REL_x hR
    obtain ⟨g0, g1, g2⟩ := hG
    have c512 : c ≤ 512 := by omega
    have e7 : G.2.1 ≤ 7302250 := Nat.le_trans g2 (Nat.le_trans (Nat.add_le_add_left (Nat.mul_le_mul_left 504 c512) 22742) (by decide))
    refine (ex_4_3 (ex_6_0 (ix_38 hX.1 (by decide) (ex_0 (ex_sub ⟨by omega, by omega⟩ ?_)))))
    refine ex_ic4 (fun hc => ?_) (fun hc => by exfalso; omega)
    exact ex_0 (ex_57 (by decide) ⟨_, rfl, by show G.1 ≤ 600000; omega, e7⟩)
  | succ k ih =>
    intro c G I P hk hR
    obtain ⟨hS, hX, hG⟩ := REL_x hR
    have h6 : 6 * c + 6 ≤ L := by omega
    refine (ex_4_3 (ex_6_0 (ix_38 hX.1 (by decide) (ex_0 (ex_sub ⟨by omega, by omega⟩ ?_)))))
    refine ex_ic4 (fun hc => by exfalso; omega) (fun hc => ?_)
    refine l_body hR (by omega) h6 (fun G1 I2 P1 hR1 => ?_)
    refine (ex_10_3 ⟨by omega, by omega⟩ rfl (ex_28 ?_))
    have := ih (c + 1) G1 I2 P1 (by omega) hR1
    rw [show ((6 * (c + 1) : Nat) : Int) = ((6 * c : Nat) : Int) + 6 by omega] at this
    exact this
theorem am_goal_holds : am_goal := by
  intro L xs hL
  have h := b_start (L := L) (xs := xs) (Q := fun o => ∃ h' : am_H, o = (some (.inl 1), h') ∧ h'.1.1 ≤ 600000 ∧ h'.1.2.1 ≤ 7302250) (fun G I P hA => l_loop hL (L / 6) 0 G I P (by omega) (b_rel hA))
  obtain ⟨n, o, e, h', rfl, r1, r2⟩ := h
  exact ⟨n, h', e, r1, r2⟩
