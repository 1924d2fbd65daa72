/-! ===== seasons refused, on both sides ===== -/
theorem k_seasons_b {d : Nat} {G : am_G} {I : Nat → Nat → Int} {P : Nat → Nat → Option Nat} (hS : ST G P) {ρ : Nat → Int} {n : Nat} {cl : Nat → Cl} (hE : CE G I P 65 ρ n cl) {seed n0 : Int} (hb : ¬ ((0 ≤ seed ∧ seed ≤ 1000000) ∧ (1 ≤ n0 ∧ n0 ≤ 60))) (hR1 : 0 ≤ I 173 1 ∧ I 173 1 ≤ 1000000) : am_call am_B am_M (d + 8) 145 [(.inr (.inr (some 64))), (.inl seed), (.inl n0)] (G, I, P) = some (some (.inl (-1)), (G, am_u2 (am_u2 I 173 1 (I 173 1 + 1)) 64 16 (-1), P)) := by
  have h0 := RW_n0 hE.2.1
  have h1 := RW_n1 hE.2.1
  have h3 := RW_n3 hE.2.1
  have h8 := RW_sm hE.2.1
  refine am_doL (L := [some (.inr (.inr (some 64))), some (.inl seed), some (.inl n0)]) (Nat.le_of_ble_eq_true rfl) rfl ?_
  refine (ex_4_1 (ex_0 ?_))
  by_cases hb4 : ((0 : Int) ≤ seed ∧ (seed : Int) ≤ 1000000)
  · refine (ix_45 (S' := [(.inl 1)]) rfl (k_isWithin_t hb4) rfl rfl (ex_if0 (fun hc => by exfalso; revert hc; decide) (fun _ => ?_)))
    refine (ex_4_2 (ex_0 ?_))
    refine ex_ic2 (fun hc12 => ?_) (fun hc12 => ?_)
    · refine (ex_6_0 (ex_0 (ix_46 (S' := [(.inl (-1))]) rfl (sh_64 hS) (k_refuse_n hS (k := 1) (by decide) (by decide) rfl hR1) rfl rfl ?_)))
      exact ex_53 rfl
    · refine (ex_4_2 (ex_0 ?_))
      refine ex_ic5 (fun hc18 => by exfalso; omega) (fun hc18 => ?_)
      refine (ex_6_0 (ex_0 (ix_46 (S' := [(.inl (-1))]) rfl (sh_64 hS) (k_refuse_n hS (k := 1) (by decide) (by decide) rfl hR1) rfl rfl ?_)))
      exact ex_53 rfl
  · refine (ix_45 (S' := [(.inl 0)]) rfl (k_isWithin_f hb4) rfl rfl (ex_if0 (fun _ => ?_) (fun hc => by exfalso; revert hc; decide)))
    refine (ex_6_0 (ex_0 (ix_46 (S' := [(.inl (-1))]) rfl (sh_64 hS) (k_refuse_n hS (k := 1) (by decide) (by decide) rfl hR1) rfl rfl ?_)))
    exact ex_53 rfl
theorem k_seasons_n {d : Nat} {G : am_G} {I : Nat → Nat → Int} {P : Nat → Nat → Option Nat} (hS : ST G P) {ρ : Nat → Int} {n : Nat} {cl : Nat → Cl} (hE : CE G I P 65 ρ n cl) {seed n0 : Int} (hs : 0 ≤ seed ∧ seed ≤ 1000000) (hn : 1 ≤ n0 ∧ n0 ≤ 60) (hz : ρ 0 = 0 ∨ ρ 1 = 0) (hR3 : 0 ≤ I 173 3 ∧ I 173 3 ≤ 1000000) : am_call am_B am_M (d + 8) 145 [(.inr (.inr (some 64))), (.inl seed), (.inl n0)] (G, I, P) = some (some (.inl (-3)), (G, am_u2 (am_u2 I 173 3 (I 173 3 + 1)) 64 16 (-3), P)) := by
  have h0 := RW_n0 hE.2.1
  have h1 := RW_n1 hE.2.1
  have h3 := RW_n3 hE.2.1
  have h8 := RW_sm hE.2.1
  refine am_doL (L := [some (.inr (.inr (some 64))), some (.inl seed), some (.inl n0)]) (Nat.le_of_ble_eq_true rfl) rfl ?_
  refine (ex_4_1 (ex_0 ?_))
  have hb4 : ((0 : Int) ≤ seed ∧ (seed : Int) ≤ 1000000) := by omega
  refine (ix_45 (S' := [(.inl 1)]) rfl (k_isWithin_t hb4) rfl rfl (ex_if0 (fun hc => by exfalso; revert hc; decide) (fun _ => ?_)))
  refine (ex_4_2 (ex_0 ?_))
  refine ex_ic2 (fun hc12 => by exfalso; omega) (fun hc12 => ?_)
  refine (ex_4_2 (ex_0 ?_))
  refine ex_ic5 (fun hc18 => ?_) (fun hc18 => by exfalso; omega)
  refine (ex_6_0 (ix_41r (sh_64 hS) (pt_64_0 hS) (ix_41i (v := (ρ 0)) (sh_65 hS) (CC_n0 hE.1) ?_)))
  refine ex_if0 (fun hc34 => ?_) (fun hc34 => ?_)
  · refine (ex_6_0 (ex_0 (ix_46 (S' := [(.inl (-3))]) rfl (sh_64 hS) (k_refuse_n hS (k := 3) (by decide) (by decide) rfl hR3) rfl rfl ?_)))
    exact ex_53 rfl
  · refine (ex_6_0 (ix_41r (sh_64 hS) (pt_64_0 hS) (ix_41i (v := (ρ 1)) (sh_65 hS) (CC_n1 hE.1) ?_)))
    refine ex_if1 (fun hc44 => by exfalso; omega) (fun hc44 => ?_)
    refine (ex_6_0 (ex_0 (ix_46 (S' := [(.inl (-3))]) rfl (sh_64 hS) (k_refuse_n hS (k := 3) (by decide) (by decide) rfl hR3) rfl rfl ?_)))
    exact ex_53 rfl
theorem m_seasons_b {d : Nat} {G : am_G} {I : Nat → Nat → Int} {P : Nat → Nat → Option Nat} (hS : ST G P) {ρ : Nat → Int} {n : Nat} {cl : Nat → Cl} (hM : ME I ρ n cl) {seed n0 : Int} (hb : ¬ ((0 ≤ seed ∧ seed ≤ 1000000) ∧ (1 ≤ n0 ∧ n0 ≤ 60))) (hR1 : 0 ≤ I 209 1 ∧ I 209 1 ≤ 1000000) : am_call am_B am_M (d + 10) 283 [(.inr (.inr (some 208))), (.inl seed), (.inl n0)] (G, I, P) = some (some (.inl (-1)), (G, am_u2 (am_u2 (am_u2 I 208 0 0) 208 1 (-1)) 209 1 (I 209 1 + 1), P)) := by
  refine am_doL (L := [some (.inr (.inr (some 208))), some (.inl seed), some (.inl n0), none, none, none, none, none]) (Nat.le_of_ble_eq_true rfl) rfl ?_
  refine (ex_6_0 (ex_0 (ix_42i (sh_208 hS) (ex_4_1 (ex_19 (ex_1 (ex_1 ?_)))))))
  by_cases hb11 : ((0 : Int) ≤ seed ∧ (seed : Int) ≤ 1000000)
  · refine (ix_45 (S' := [(.inl 1)]) rfl (c_in_t hb11) rfl rfl (ex_if0 (fun hc => by exfalso; revert hc; decide) (fun _ => ?_)))
    refine (ex_4_2 (ex_19 (ex_1 (ex_1 ?_))))
    have hb23 : ¬ (((1 : Int) ≤ n0 ∧ (n0 : Int) ≤ 60)) := by omega
    refine (ix_45 (S' := [(.inl 0)]) rfl (c_in_f hb23) rfl rfl (ex_if1 (fun hc => by exfalso; revert hc; decide) (fun _ => ?_)))
    refine (ex_6_0 (ex_0 (ix_46 (S' := [(.inl (-1))]) rfl (sh_208 hS) (c_tell_c hS (k := 1) (by decide) (by decide) (u2_q (by decide)) hR1) rfl rfl ?_)))
    exact ex_53 rfl
  · refine (ix_45 (S' := [(.inl 0)]) rfl (c_in_f hb11) rfl rfl (ex_if0 (fun _ => ?_) (fun hc => by exfalso; revert hc; decide)))
    refine (ex_6_0 (ex_0 (ix_46 (S' := [(.inl (-1))]) rfl (sh_208 hS) (c_tell_c hS (k := 1) (by decide) (by decide) (u2_q (by decide)) hR1) rfl rfl ?_)))
    exact ex_53 rfl
theorem m_seasons_n {d : Nat} {G : am_G} {I : Nat → Nat → Int} {P : Nat → Nat → Option Nat} (hS : ST G P) {ρ : Nat → Int} {n : Nat} {cl : Nat → Cl} (hM : ME I ρ n cl) {seed n0 : Int} (hs : 0 ≤ seed ∧ seed ≤ 1000000) (hn : 1 ≤ n0 ∧ n0 ≤ 60) (hz : ρ 0 = 0 ∨ ρ 1 = 0) (hR3 : 0 ≤ I 209 3 ∧ I 209 3 ≤ 1000000) : am_call am_B am_M (d + 10) 283 [(.inr (.inr (some 208))), (.inl seed), (.inl n0)] (G, I, P) = some (some (.inl (-3)), (G, am_u2 (am_u2 (am_u2 I 208 0 0) 208 1 (-3)) 209 3 (I 209 3 + 1), P)) := by
  refine am_doL (L := [some (.inr (.inr (some 208))), some (.inl seed), some (.inl n0), none, none, none, none, none]) (Nat.le_of_ble_eq_true rfl) rfl ?_
  refine (ex_6_0 (ex_0 (ix_42i (sh_208 hS) (ex_4_1 (ex_19 (ex_1 (ex_1 ?_)))))))
  have hb11 : ((0 : Int) ≤ seed ∧ (seed : Int) ≤ 1000000) := by omega
  refine (ix_45 (S' := [(.inl 1)]) rfl (c_in_t hb11) rfl rfl (ex_if0 (fun hc => by exfalso; revert hc; decide) (fun _ => ?_)))
  refine (ex_4_2 (ex_19 (ex_1 (ex_1 ?_))))
  have hb23 : ((1 : Int) ≤ n0 ∧ (n0 : Int) ≤ 60) := by omega
  refine (ix_45 (S' := [(.inl 1)]) rfl (c_in_t hb23) rfl rfl (ex_if1 (fun _ => ?_) (fun hc => by exfalso; revert hc; decide)))
  refine (ex_6_0 (ix_41r (sh_208 hS) (pt_208_3 hS) (ex_0 (ix_30 (j := 0) (v := (ρ 0)) (sh_210 hS) (by decide) (by decide) rfl ((u2_q (by decide)).trans (congrFun hM.1 _)) ?_))))
  refine ex_if0 (fun hc41 => ?_) (fun hc41 => ?_)
  · refine (ex_6_0 (ex_0 (ix_46 (S' := [(.inl (-3))]) rfl (sh_208 hS) (c_tell_c hS (k := 3) (by decide) (by decide) (u2_q (by decide)) hR3) rfl rfl ?_)))
    exact ex_53 rfl
  · refine (ex_6_0 (ix_41r (sh_208 hS) (pt_208_3 hS) (ex_0 (ix_30 (j := 1) (v := (ρ 1)) (sh_210 hS) (by decide) (by decide) rfl ((u2_q (by decide)).trans (congrFun hM.1 _)) ?_))))
    refine ex_if1 (fun hc50 => by exfalso; omega) (fun hc50 => ?_)
    refine (ex_6_0 (ex_0 (ix_46 (S' := [(.inl (-3))]) rfl (sh_208 hS) (c_tell_c hS (k := 3) (by decide) (by decide) (u2_q (by decide)) hR3) rfl rfl ?_)))
    exact ex_53 rfl
