/-! ===== the reference: compare ===== -/
theorem m_compare_b {d : Nat} {G : am_G} {I : Nat → Nat → Int} {P : Nat → Nat → Option Nat} (hS : ST G P) {ρ : Nat → Int} {n : Nat} {cl : Nat → Cl} (hM : ME I ρ n cl) {w_ : Int} (hb : ¬ (w_ = -1 ∨ (0 ≤ w_ ∧ w_ < ρ 3))) : am_call am_B am_M (d + 11) 258 [(.inr (.inr (some 208))), (.inl w_)] (G, I, P) = some (some (.inl (-1)), (G, am_u2 I 208 0 0, P)) := by
  have h3 := RW_n3 hM.2.1
  have hfo := RW_fo hM.2.1
  refine am_doL (L := [some (.inr (.inr (some 208))), some (.inl w_), none]) (Nat.le_of_ble_eq_true rfl) rfl ?_
  refine (ex_6_0 (ex_0 (ix_42i (sh_208 hS) (ex_6_0 (ex_4_1 (ix_46 (S' := [(.inl 0)]) rfl (sh_208 hS) (c_isLaw_F hS (n := ρ 3) ((u2_q (by decide)).trans (congrFun hM.1 3)) h3 hb) rfl rfl (ex_if1 (fun hc => by exfalso; revert hc; decide) (fun _ => ?_))))))))
  refine (ex_0 ?_)
  exact ex_53 rfl
theorem m_compare {d : Nat} {G : am_G} {I : Nat → Nat → Int} {P : Nat → Nat → Option Nat} (hS : ST G P) {ρ : Nat → Int} {n : Nat} {cl : Nat → Cl} (hM : ME I ρ n cl) {w_ : Int} (hb : w_ = -1 ∨ (0 ≤ w_ ∧ w_ < ρ 3)) {n2 : Nat} {cl2 : Nat → Cl} (hL : LawNow (am_u1 ρ 4 w_) n2 cl2) {N : Nat} (hN : am_u1 ρ 4 w_ 0 = (N : Int)) : ∃ I1, am_call am_B am_M (d + 11) 258 [(.inr (.inr (some 208))), (.inl w_)] (G, I, P) = some (some (.inl (BS (gn (am_u1 ρ 4 w_) n2 cl2) N N 0)), (G, I1, P)) ∧ (ME I1 ρ n cl ∧ AFn I I1) := by
  have h3 := RW_n3 hM.2.1
  have hfo := RW_fo hM.2.1
  have w : am_ex (am_call am_B am_M (d + 10)) (am_B 258) (am_B 258 0) [some (.inr (.inr (some 208))), some (.inl w_), none] [] (G, I, P) (fun o => ∃ I1, o = (some (.inl (BS (gn (am_u1 ρ 4 w_) n2 cl2) N N 0)), (G, I1, P)) ∧ (ME I1 ρ n cl ∧ AFn I I1)) := by
    refine (ex_6_0 (ex_0 (ix_42i (sh_208 hS) (ex_6_0 (ex_4_1 (ix_46 (S' := [(.inl 1)]) rfl (sh_208 hS) (c_isLaw_T hS (n := ρ 3) ((u2_q (by decide)).trans (congrFun hM.1 3)) h3 hb) rfl rfl (ex_if1 (fun _ => ?_) (fun hc => by exfalso; revert hc; decide))))))))
    refine (ex_6_0 (ix_41r (sh_208 hS) (pt_208_3 hS) (ex_0 (ix_30 (j := 4) (v := (ρ 4)) (sh_210 hS) (by decide) (by decide) rfl ((u2_q (by decide)).trans (congrFun hM.1 _)) (ex_7_2 rfl (ex_6_0 (ix_41r (sh_208 hS) (pt_208_3 hS) (ex_0 (ex_4_1 (ix_34 (j := 4) (sh_210 hS) (by decide) (by decide) rfl (ex_6_0 ?_)))))))))))
    have hM1 : ME (am_u2 (am_u2 I 208 0 0) 210 4 w_) (am_u1 ρ 4 w_) n2 cl2 := ⟨by rw [u2_as_u1, u1_e, u2_qf (by decide), hM.1], RWs_fo hM.2.1 (by omega), hL, (u2_q (by decide)).trans ((u2_k (by decide)).trans hM.2.2.2)⟩
    obtain ⟨JM, eM, hEM, hgM, htM, hfM⟩ := c_layAns (d := d) hS hM1 hN
    have hr0 : JM 231 0 = BS (gn (am_u1 ρ 4 w_) n2 cl2) N N 0 := by have z := htM N 0 (Nat.le_refl _) (by decide); rw [show 32 * (N - N) + 0 = 0 by omega] at z; exact z
    refine (ix_46 (S' := []) rfl (sh_208 hS) eM rfl rfl (ex_6_0 (ix_41r (sh_208 hS) (pt_208_3 hS) (ex_0 (ex_4_2 (ix_34 (j := 4) (sh_210 hS) (by decide) (by decide) rfl (ex_6_0 (ix_41r (sh_208 hS) (pt_208_43 hS) (ex_0 (ix_30 (j := 0) (v := (BS (gn (am_u1 ρ 4 w_) n2 cl2) N N 0)) (sh_231 hS) (by decide) (by decide) rfl ((u2_q (by decide)).trans hr0) ?_))))))))))
    exact ex_53 ⟨_, rfl, ⟨(by rw [u2_as_u1, u1_e, hEM.1]; funext j; unfold am_u1; by_cases e : j = 4; (rw [if_pos e, e]); (rw [if_neg e, if_neg e])), hM.2.1, hM.2.2.1, (u2_q (by decide)).trans hEM.2.2.2⟩, fun q k h1 h2 h3 h4 h5 h6 => (by by_cases e : q = 210; (subst e; rw [u2_as_u1, u1_e, hEM.1, hM.1]; unfold am_u1; by_cases e : k = 4; (rw [if_pos e, e]); (rw [if_neg e, if_neg e])); (rw [u2_q e, hfM q k h1 h2 h3 h4 h6, u2_q e, u2_o h5]))⟩
  obtain ⟨o, e, I1, rfl, h⟩ := am_doQ (as := [(.inr (.inr (some 208))), (.inl w_)]) (Nat.le_of_ble_eq_true rfl) rfl w
  exact ⟨I1, e, h⟩
