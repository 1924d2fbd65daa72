/-! ===== the class: the words of orders ===== -/
def oww (ρ : Nat → Int) (F : Nat) (dn lt : Int) (j : Nat) : Int := if j = 0 then ρ 5 else if j = 1 then dn else if j = 2 then lt else if j = 3 then m_sum ρ 25 F else if j = 4 then m_sum ρ 20 F else if j < 11 then (if ((j - 5 : Nat) : Int) < ρ 0 then ρ (9 + (j - 5)) else -1) else (if ((j - 11 : Nat) : Int) < ρ 1 then ρ (15 + (j - 11)) else -1)
theorem k_setWords {d : Nat} {G : am_G} {I : Nat → Nat → Int} {P : Nat → Nat → Option Nat} (hS : ST G P) {ρ : Nat → Int} {n : Nat} {cl : Nat → Cl} (hE : CE G I P 65 ρ n cl) {F : Nat} (hF : ρ 1 = (F : Int)) : ∃ I1, am_call am_B am_M (d + 2) 52 [(.inr (.inr (some 92)))] (G, I, P) = some (none, (G, I1, P)) ∧ ((∀ j, j < 16 → I1 114 j = oww ρ F (I 92 5) (I 92 6) j) ∧ (∀ q k, ¬ q = 114 → I1 q k = I q k)) := by
  have h0 := RW_n0 hE.2.1
  have h1 := RW_n1 hE.2.1
  have h3 := RW_n3 hE.2.1
  have h8 := RW_sm hE.2.1
  have w : am_ex (am_call am_B am_M (d + 1)) (am_B 52) (am_B 52 0) [some (.inr (.inr (some 92))), none, none] [] (G, I, P) (fun o => ∃ I1, o = (none, (G, I1, P)) ∧ ((∀ j, j < 16 → I1 114 j = oww ρ F (I 92 5) (I 92 6) j) ∧ (∀ q k, ¬ q = 114 → I1 q k = I q k))) := by
    refine (ex_6_0 (ix_41r (sh_92 hS) (pt_92_0 hS) (ix_41r (sh_91 hS) (pt_91_0 hS) (ex_9_1 rfl (ex_6_0 (ix_41r (sh_92 hS) (pt_92_3 hS) (ex_0 (ex_6_1 (ix_41r (sh_65 hS) (pt_65_14 hS) (ex_0 (ix_30 (j := 0) (v := (ρ 5)) (sh_80 hS) (by decide) (by decide) rfl (CC_te hE.1 0 (by decide)) (ix_34 (j := 0) (sh_114 hS) (by decide) (by decide) rfl (ex_6_0 (ix_41r (sh_92 hS) (pt_92_3 hS) (ex_0 (ex_6_0 (ix_41i (v := (I 92 5)) (sh_92 hS) (u2_q (by decide)) (ix_34 (j := 1) (sh_114 hS) (by decide) (by decide) rfl (ex_6_0 (ix_41r (sh_92 hS) (pt_92_3 hS) (ex_0 (ex_6_0 (ix_41i (v := (I 92 6)) (sh_92 hS) ((u2_q (by decide)).trans (u2_q (by decide))) (ix_34 (j := 2) (sh_114 hS) (by decide) (by decide) rfl (ex_6_0 (ix_41r (sh_92 hS) (pt_92_3 hS) (ex_0 (ex_6_1 (ex_6_1 (ix_41r (sh_65 hS) (pt_65_9 hS) (ix_46 (S' := [(.inl (m_sum ρ 25 F)), (.inl 3), (.inr (.inr (some 114)))]) rfl (sh_65 hS) (k_sumOf_kn hS cq65 (CC_w65 (CC_w65 (CC_w65 hE.1 (by decide)) (by decide)) (by decide)) hF (by omega) (fun i hi => RW_kn hE.2.1 i (by omega))) rfl rfl (ix_34 (j := 3) (sh_114 hS) (by decide) (by decide) rfl (ex_6_0 (ix_41r (sh_92 hS) (pt_92_3 hS) (ex_0 (ex_6_1 (ex_6_1 (ix_41r (sh_65 hS) (pt_65_8 hS) (ix_46 (S' := [(.inl (m_sum ρ 20 F)), (.inl 4), (.inr (.inr (some 114)))]) rfl (sh_65 hS) (k_sumOf_we hS cq65 (CC_w65 (CC_w65 (CC_w65 (CC_w65 hE.1 (by decide)) (by decide)) (by decide)) (by decide)) hF (by omega) (fun i hi => RW_we hE.2.1 i (by omega))) rfl rfl (ix_34 (j := 4) (sh_114 hS) (by decide) (by decide) rfl (ex_0 (ex_7_2 rfl (ex_58 ?_)))))))))))))))))))))))))))))))))))))))))))
    refine ex_forR (b := 1) (σ := Unit) (6) (fun x s => s) (fun x s J => CC J 65 ρ ∧ (∀ j, j < 5 + x → J 114 j = oww ρ F (I 92 5) (I 92 6) j) ∧ (∀ q k, ¬ q = 114 → J q k = I q k)) (fun x s e_x => [some (.inr (.inr (some 92))), some (.inr (.inr (some 65))), some (.inl (x : Int))]) ?_ (6) (0) (()) (fun k_ => ([some (.inr (.inr (some 92))), some (.inr (.inr (some 65))), some (.inl 0)] : am_L).getD k_ none) ((am_u2 (am_u2 (am_u2 (am_u2 (am_u2 I 114 0 (ρ 5)) 114 1 (I 92 5)) 114 2 (I 92 6)) 114 3 (m_sum ρ 25 F)) 114 4 (m_sum ρ 20 F))) (by omega) (⟨CC_w65 (CC_w65 (CC_w65 (CC_w65 (CC_w65 hE.1 (by decide)) (by decide)) (by decide)) (by decide)) (by decide), fun j hj => (by rw [u2_at, u2_at, u2_at, u2_at, u2_at]; unfold oww; (repeat' split) <;> first | rfl | (exfalso; omega)), fun q k a => (u2_q a).trans ((u2_q a).trans ((u2_q a).trans ((u2_q a).trans (u2_q a))))⟩) rfl ?_
    · intro x s e_x J hix hvx hkx
      obtain ⟨hC, hw, hf⟩ := hvx
      refine (ex_4_2 (ex_0 ?_))
      refine ex_ic3 (fun hc73 => by exfalso; omega) (fun hc73 => ?_)
      refine (ex_6_0 (ix_41r (sh_92 hS) (pt_92_3 hS) (ex_0 (ex_4_2 (ex_add ⟨by omega, by omega⟩ (ex_6_1 (ex_4_2 ?_)))))))
      by_cases hb85 : ((0 : Int) ≤ (x : Int) ∧ ((x : Int) : Int) < ρ 0)
      · refine (ix_46 (S' := [(.inl 1), (.inl (5 + (x : Int))), (.inr (.inr (some 114)))]) rfl (sh_65 hS) (k_hasCloud_t hS cq65 hC hb85) rfl rfl (ex_if0 (fun hc => by exfalso; revert hc; decide) (fun _ => ?_)))
        refine (ex_6_1 (ix_41r (sh_65 hS) (pt_65_3 hS) (ex_4_2 (ix_30 (j := x) (v := (ρ (9 + x))) (sh_72 hS) (by omega) (by omega) (by omega) (CC_at hC x (by omega)) (ex_28 (ix_34 (j := (5 + x)) (sh_114 hS) (by omega) (by omega) (by omega) (ex_10_2 ⟨by omega, by omega⟩ rfl (ex_28 ?_))))))))
        exact hkx (()) (fun k_ => ([some (.inr (.inr (some 92))), some (.inr (.inr (some 65))), some (.inl ((x : Int) + 1))] : am_L).getD k_ none) _ (rfl) (⟨CC_w65 hC (by decide), fun j hj => (by rw [u2_at]; by_cases e : j = 5 + x; (rw [if_pos e]; subst e; exact (by unfold oww; rw [if_neg (by omega), if_neg (by omega), if_neg (by omega), if_neg (by omega), if_neg (by omega), if_pos (by omega), if_pos (by omega)]; exact congrArg ρ (by omega))); (rw [if_neg e]; exact hw j (by omega))), fun q k a => (u2_q a).trans (hf q k a)⟩)
      · refine (ix_46 (S' := [(.inl 0), (.inl (5 + (x : Int))), (.inr (.inr (some 114)))]) rfl (sh_65 hS) (k_hasCloud_f hS cq65 hC hb85) rfl rfl (ex_if0 (fun _ => ?_) (fun hc => by exfalso; revert hc; decide)))
        refine (ex_0 (ex_58 (ix_34 (j := (5 + x)) (sh_114 hS) (by omega) (by omega) (by omega) (ex_10_2 ⟨by omega, by omega⟩ rfl (ex_28 ?_)))))
        exact hkx (()) (fun k_ => ([some (.inr (.inr (some 92))), some (.inr (.inr (some 65))), some (.inl ((x : Int) + 1))] : am_L).getD k_ none) _ (rfl) (⟨CC_w65 hC (by decide), fun j hj => (by rw [u2_at]; by_cases e : j = 5 + x; (rw [if_pos e]; subst e; exact (by unfold oww; rw [if_neg (by omega), if_neg (by omega), if_neg (by omega), if_neg (by omega), if_neg (by omega), if_pos (by omega), if_neg (by omega)])); (rw [if_neg e]; exact hw j (by omega))), fun q k a => (u2_q a).trans (hf q k a)⟩)
    · intro s e_x J hsx hvx
      obtain ⟨hC, hw, hf⟩ := hvx
      refine (ex_4_2 (ex_0 ?_))
      refine ex_ic3 (fun hc73 => ?_) (fun hc73 => by exfalso; omega)
      refine (ex_0 (ex_7_2 rfl (ex_58 ?_)))
      refine ex_forR (b := 7) (σ := Unit) (5) (fun x s => s) (fun x s J => CC J 65 ρ ∧ (∀ j, j < 11 + x → J 114 j = oww ρ F (I 92 5) (I 92 6) j) ∧ (∀ q k, ¬ q = 114 → J q k = I q k)) (fun x s e_x => [some (.inr (.inr (some 92))), some (.inr (.inr (some 65))), some (.inl (x : Int))]) ?_ (5) (0) (()) (fun k_ => ([some (.inr (.inr (some 92))), some (.inr (.inr (some 65))), some (.inl 0)] : am_L).getD k_ none) (J) (by omega) (⟨hC, hw, hf⟩) rfl ?_
      · intro x s e_x J hix hvx hkx
        obtain ⟨hC, hw, hf⟩ := hvx
        refine (ex_4_2 (ex_0 ?_))
        refine ex_ic3 (fun hc112 => by exfalso; omega) (fun hc112 => ?_)
        refine (ex_6_0 (ix_41r (sh_92 hS) (pt_92_3 hS) (ex_0 (ex_4_2 (ex_add ⟨by omega, by omega⟩ (ex_6_1 (ex_4_2 ?_)))))))
        by_cases hb125 : ((0 : Int) ≤ (x : Int) ∧ ((x : Int) : Int) < ρ 1)
        · refine (ix_46 (S' := [(.inl 1), (.inl (11 + (x : Int))), (.inr (.inr (some 114)))]) rfl (sh_65 hS) (k_hasFolk_t hS cq65 hC hb125) rfl rfl (ex_if0 (fun hc => by exfalso; revert hc; decide) (fun _ => ?_)))
          refine (ex_6_1 (ix_41r (sh_65 hS) (pt_65_7 hS) (ex_4_2 (ix_30 (j := x) (v := (ρ (15 + x))) (sh_75 hS) (by omega) (by omega) (by omega) (CC_en hC x (by omega)) (ex_28 (ix_34 (j := (11 + x)) (sh_114 hS) (by omega) (by omega) (by omega) (ex_10_2 ⟨by omega, by omega⟩ rfl (ex_28 ?_))))))))
          exact hkx (()) (fun k_ => ([some (.inr (.inr (some 92))), some (.inr (.inr (some 65))), some (.inl ((x : Int) + 1))] : am_L).getD k_ none) _ (rfl) (⟨CC_w65 hC (by decide), fun j hj => (by rw [u2_at]; by_cases e : j = 11 + x; (rw [if_pos e]; subst e; exact (by unfold oww; rw [if_neg (by omega), if_neg (by omega), if_neg (by omega), if_neg (by omega), if_neg (by omega), if_neg (by omega), if_pos (by omega)]; exact congrArg ρ (by omega))); (rw [if_neg e]; exact hw j (by omega))), fun q k a => (u2_q a).trans (hf q k a)⟩)
        · refine (ix_46 (S' := [(.inl 0), (.inl (11 + (x : Int))), (.inr (.inr (some 114)))]) rfl (sh_65 hS) (k_hasFolk_f hS cq65 hC hb125) rfl rfl (ex_if0 (fun _ => ?_) (fun hc => by exfalso; revert hc; decide)))
          refine (ex_0 (ex_58 (ix_34 (j := (11 + x)) (sh_114 hS) (by omega) (by omega) (by omega) (ex_10_2 ⟨by omega, by omega⟩ rfl (ex_28 ?_)))))
          exact hkx (()) (fun k_ => ([some (.inr (.inr (some 92))), some (.inr (.inr (some 65))), some (.inl ((x : Int) + 1))] : am_L).getD k_ none) _ (rfl) (⟨CC_w65 hC (by decide), fun j hj => (by rw [u2_at]; by_cases e : j = 11 + x; (rw [if_pos e]; subst e; exact (by unfold oww; rw [if_neg (by omega), if_neg (by omega), if_neg (by omega), if_neg (by omega), if_neg (by omega), if_neg (by omega), if_neg (by omega)])); (rw [if_neg e]; exact hw j (by omega))), fun q k a => (u2_q a).trans (hf q k a)⟩)
      · intro s e_x J hsx hvx
        obtain ⟨hC, hw, hf⟩ := hvx
        refine (ex_4_2 (ex_0 ?_))
        refine ex_ic3 (fun hc112 => ?_) (fun hc112 => by exfalso; omega)
        exact ex_56 ⟨_, rfl, hw, hf⟩
  obtain ⟨o, e, I1, rfl, h⟩ := am_doQ (as := [(.inr (.inr (some 92)))]) (Nat.le_of_ble_eq_true rfl) rfl w
  exact ⟨I1, e, h⟩
