/-! ===== the reference: all is given back ===== -/
theorem c_giveBack {d : Nat} {G : am_G} {I : Nat → Nat → Int} {P : Nat → Nat → Option Nat} (hS : ST G P) {v : Int} : ∃ I1, am_call am_B am_M (d + 2) 280 [(.inr (.inr (some 208))), (.inl v)] (G, I, P) = some (none, (G, I1, P)) ∧ (I1 208 8 = v ∧ I1 210 = am_cp (I 213) (I 210) (25 * 17) 5 25 ∧ (∀ j, j < 400 → I1 213 j = I 215 j) ∧ (∀ j, j < 16 → I1 214 j = I 216 j) ∧ (∀ q k, ¬ q = 210 → ¬ q = 213 → ¬ q = 214 → ¬ (q = 208 ∧ k = 8) → I1 q k = I q k)) := by
  have w : am_ex (am_call am_B am_M (d + 1)) (am_B 280) (am_B 280 0) [some (.inr (.inr (some 208))), some (.inl v), none] [] (G, I, P) (fun o => ∃ I1, o = (none, (G, I1, P)) ∧ (I1 208 8 = v ∧ I1 210 = am_cp (I 213) (I 210) (25 * 17) 5 25 ∧ (∀ j, j < 400 → I1 213 j = I 215 j) ∧ (∀ j, j < 16 → I1 214 j = I 216 j) ∧ (∀ q k, ¬ q = 210 → ¬ q = 213 → ¬ q = 214 → ¬ (q = 208 ∧ k = 8) → I1 q k = I q k))) := by
    refine (ex_6_0 (ex_0 (ix_46 (S' := []) rfl (sh_208 hS) (c_putBack hS (k := 17) (by decide)) rfl rfl (ex_0 (ex_7_2 rfl (ex_58 ?_))))))
    refine ex_forR (b := 1) (σ := Unit) (400) (fun x s => s) (fun x s J => (∀ j, j < x → J 213 j = I 215 j) ∧ (∀ q k, ¬ q = 213 → J q k = (am_u1 I 210 (am_cp (I 213) (I 210) (25 * 17) 5 25)) q k)) (fun x s e_x => [some (.inr (.inr (some 208))), some (.inl v), some (.inl (x : Int))]) ?_ (400) (0) (()) (fun k_ => ([some (.inr (.inr (some 208))), some (.inl v), some (.inl 0)] : am_L).getD k_ none) ((am_u1 I 210 (am_cp (I 213) (I 210) (25 * 17) 5 25))) (by omega) (⟨fun j hj => absurd hj (by omega), fun q k _ => rfl⟩) rfl ?_
    · intro x s e_x J hix hvx hkx
      obtain ⟨h1, h2⟩ := hvx
      refine (ex_4_2 (ex_0 ?_))
      refine ex_ic3 (fun hc12 => by exfalso; omega) (fun hc12 => ?_)
      refine (ex_6_0 (ix_41r (sh_208 hS) (pt_208_6 hS) (ex_4_2 (ex_6_0 (ix_41r (sh_208 hS) (pt_208_9 hS) (ex_4_2 (ix_30 (j := x) (v := (I 215 x)) (sh_215 hS) (by omega) (by omega) (by omega) ((h2 _ _ (by decide)).trans (u1_qk (by decide))) (ix_34 (j := x) (sh_213 hS) (by omega) (by omega) (by omega) (ex_10_2 ⟨by omega, by omega⟩ rfl (ex_28 ?_))))))))))
      exact hkx (()) (fun k_ => ([some (.inr (.inr (some 208))), some (.inl v), some (.inl ((x : Int) + 1))] : am_L).getD k_ none) _ (rfl) (⟨fun j hj => (by rw [u2_at]; by_cases e : j = x; (rw [if_pos e, e]); (rw [if_neg e]; exact h1 j (by omega))), fun q k a => (u2_q a).trans (h2 q k a)⟩)
    · intro s e_x J hsx hvx
      obtain ⟨h1, h2⟩ := hvx
      refine (ex_4_2 (ex_0 ?_))
      refine ex_ic3 (fun hc12 => ?_) (fun hc12 => by exfalso; omega)
      refine (ex_0 (ex_7_2 rfl (ex_58 ?_)))
      refine ex_forR (b := 4) (σ := Unit) (16) (fun x s => s) (fun x s J => (∀ j, j < 400 → J 213 j = I 215 j) ∧ (∀ j, j < x → J 214 j = I 216 j) ∧ (∀ q k, ¬ q = 213 → ¬ q = 214 → J q k = (am_u1 I 210 (am_cp (I 213) (I 210) (25 * 17) 5 25)) q k)) (fun x s e_x => [some (.inr (.inr (some 208))), some (.inl v), some (.inl (x : Int))]) ?_ (16) (0) (()) (fun k_ => ([some (.inr (.inr (some 208))), some (.inl v), some (.inl 0)] : am_L).getD k_ none) (J) (by omega) (⟨h1, fun j hj => absurd hj (by omega), fun q k a _ => h2 q k a⟩) rfl ?_
      · intro x s e_x J hix hvx hkx
        obtain ⟨h1, h2, h3⟩ := hvx
        refine (ex_4_2 (ex_0 ?_))
        refine ex_ic3 (fun hc38 => by exfalso; omega) (fun hc38 => ?_)
        refine (ex_6_0 (ix_41r (sh_208 hS) (pt_208_7 hS) (ex_4_2 (ex_6_0 (ix_41r (sh_208 hS) (pt_208_10 hS) (ex_4_2 (ix_30 (j := x) (v := (I 216 x)) (sh_216 hS) (by omega) (by omega) (by omega) ((h3 _ _ (by decide) (by decide)).trans (u1_qk (by decide))) (ix_34 (j := x) (sh_214 hS) (by omega) (by omega) (by omega) (ex_10_2 ⟨by omega, by omega⟩ rfl (ex_28 ?_))))))))))
        exact hkx (()) (fun k_ => ([some (.inr (.inr (some 208))), some (.inl v), some (.inl ((x : Int) + 1))] : am_L).getD k_ none) _ (rfl) (⟨fun j hj => (u2_q (by decide)).trans (h1 j hj), fun j hj => (by rw [u2_at]; by_cases e : j = x; (rw [if_pos e, e]); (rw [if_neg e]; exact h2 j (by omega))), fun q k a b => (u2_q b).trans (h3 q k a b)⟩)
      · intro s e_x J hsx hvx
        obtain ⟨h1, h2, h3⟩ := hvx
        refine (ex_4_2 (ex_0 ?_))
        refine ex_ic3 (fun hc38 => ?_) (fun hc38 => by exfalso; omega)
        refine (ex_6_0 (ex_4_1 (ix_42i (sh_208 hS) ?_)))
        exact ex_56 ⟨_, rfl, u2_e, (funext fun k => (u2_q (by decide)).trans ((h3 210 k (by decide) (by decide)).trans (congrFun u1_e k))), fun j hj => (u2_q (by decide)).trans (h1 j hj), fun j hj => (u2_q (by decide)).trans (h2 j hj), fun q k a b c d => (u2_o d).trans ((h3 q k b c).trans (u1_qk a))⟩
  obtain ⟨o, e, I1, rfl, h⟩ := am_doQ (as := [(.inr (.inr (some 208))), (.inl v)]) (Nat.le_of_ble_eq_true rfl) rfl w
  exact ⟨I1, e, h⟩
