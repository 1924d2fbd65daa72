/-! ===== the class: images, compare ===== -/
theorem cq174 : CQ 174 := Or.inr (Or.inr (Or.inr (Or.inr (Or.inl rfl))))
theorem cq191 : CQ 191 := Or.inr (Or.inr (Or.inr (Or.inr (Or.inr rfl))))
theorem k_image_0 {d : Nat} {G : am_G} {I : Nat → Nat → Int} {P : Nat → Nat → Option Nat} (hS : ST G P) {ρ : Nat → Int} {n : Nat} {cl : Nat → Cl} (hE : CE G I P 65 ρ n cl) (hN : TN G P 65) : ∃ I1 P1, am_call am_B am_M (d + 4) 147 [(.inr (.inr (some 64))), (.inl 0)] (G, I, P) = some (some (.inl 0), (G, I1, P1)) ∧ (ST G P1 ∧ CC I1 174 ρ ∧ I1 83 0 = 1 ∧ I1 64 16 = 0 ∧ (∀ j, j < 6 → P1 (174 + 16) j = P (65 + 16) j) ∧ (∀ q j, ¬ (174 ≤ q ∧ q ≤ 189) → ¬ (q = 83 ∧ j = 0) → ¬ (q = 64 ∧ j = 16) → I1 q j = I q j) ∧ (∀ q j, ¬ q = 174 + 16 → P1 q j = P q j)) := by
  have w : am_ex (am_call am_B am_M (d + 3)) (am_B 147) (am_B 147 0) [some (.inr (.inr (some 64))), some (.inl 0)] [] (G, I, P) (fun o => ∃ I1 P1, o = (some (.inl 0), (G, I1, P1)) ∧ (ST G P1 ∧ CC I1 174 ρ ∧ I1 83 0 = 1 ∧ I1 64 16 = 0 ∧ (∀ j, j < 6 → P1 (174 + 16) j = P (65 + 16) j) ∧ (∀ q j, ¬ (174 ≤ q ∧ q ≤ 189) → ¬ (q = 83 ∧ j = 0) → ¬ (q = 64 ∧ j = 16) → I1 q j = I q j) ∧ (∀ q j, ¬ q = 174 + 16 → P1 q j = P q j))) := by
    refine (ex_4_1 (ex_0 ?_))
    have hb2 : ((0 : Int) ≤ 0 ∧ (0 : Int) ≤ 1) := by omega
    refine (ix_45 (S' := [(.inl 1)]) rfl (k_isWithin_t hb2) rfl rfl (ex_if1 (fun _ => ?_) (fun hc => by exfalso; revert hc; decide)))
    refine (ex_6_0 (ix_41r (sh_64 hS) (pt_64_1 hS) (ex_4_1 (ix_33 (j := 0) (sh_82 hS) (by decide) (by decide) rfl (pt_82_0 hS) (ex_6_0 (ix_41r (sh_64 hS) (pt_64_0 hS) ?_))))))
    obtain ⟨K, Pk, eK, hCK, h6K, fK, gK⟩ := k_copy (d := d + 1) hS cq174 cq65 (by decide) hN hE.1
    have hS : ST G Pk := ST_tx hS (fun q k _ h => gK q k (h 174 cq174))
    refine (ix_46 (S' := []) rfl (sh_174 hS) eK rfl rfl (ex_6_0 (ix_41r (sh_64 hS) (pt_64_2 hS) (ex_4_1 (ex_0 (ix_35z (j := 0) (sh_83 hS) (by decide) (by decide) rfl (by decide) (ex_6_0 (ex_0 (ix_46 (S' := [(.inl 0)]) rfl (sh_64 hS) (k_grant hS) rfl rfl ?_)))))))))
    exact ex_53 ⟨_, _, rfl, hS, CC_fr hCK (fun q j a b _ => (u2_q (by omega)).trans (u2_q (by omega))), (u2_q (by decide)).trans u2_e, u2_e, h6K, fun q j a b e => (u2_o e).trans ((u2_o b).trans (fK q j (by omega))), gK⟩
  obtain ⟨o, e, I1, P1, rfl, h⟩ := am_doQ (as := [(.inr (.inr (some 64))), (.inl 0)]) (Nat.le_of_ble_eq_true rfl) rfl w
  exact ⟨I1, P1, e, h⟩
theorem k_back_0 {d : Nat} {G : am_G} {I : Nat → Nat → Int} {P : Nat → Nat → Option Nat} (hS : ST G P) {ρi : Nat → Int} (hC : CC I 174 ρi) (hN : TN G P 174) (hk : I 83 0 = 1) : ∃ I1 P1, am_call am_B am_M (d + 4) 148 [(.inr (.inr (some 64))), (.inl 0)] (G, I, P) = some (some (.inl 0), (G, I1, P1)) ∧ (ST G P1 ∧ CC I1 65 ρi ∧ I1 84 4 = 0 ∧ I1 64 16 = 0 ∧ (∀ j, j < 6 → P1 (65 + 16) j = P (174 + 16) j) ∧ (∀ q j, ¬ (65 ≤ q ∧ q ≤ 80) → ¬ (q = 84 ∧ j = 4) → ¬ (q = 64 ∧ j = 16) → I1 q j = I q j) ∧ (∀ q j, ¬ q = 65 + 16 → P1 q j = P q j)) := by
  have w : am_ex (am_call am_B am_M (d + 3)) (am_B 148) (am_B 148 0) [some (.inr (.inr (some 64))), some (.inl 0)] [] (G, I, P) (fun o => ∃ I1 P1, o = (some (.inl 0), (G, I1, P1)) ∧ (ST G P1 ∧ CC I1 65 ρi ∧ I1 84 4 = 0 ∧ I1 64 16 = 0 ∧ (∀ j, j < 6 → P1 (65 + 16) j = P (174 + 16) j) ∧ (∀ q j, ¬ (65 ≤ q ∧ q ≤ 80) → ¬ (q = 84 ∧ j = 4) → ¬ (q = 64 ∧ j = 16) → I1 q j = I q j) ∧ (∀ q j, ¬ q = 65 + 16 → P1 q j = P q j))) := by
    refine (ex_4_1 (ex_0 ?_))
    have hb2 : ((0 : Int) ≤ 0 ∧ (0 : Int) ≤ 1) := by omega
    refine (ix_45 (S' := [(.inl 1)]) rfl (k_isWithin_t hb2) rfl rfl (ex_if1 (fun _ => ?_) (fun hc => by exfalso; revert hc; decide)))
    refine (ex_6_0 (ix_41r (sh_64 hS) (pt_64_2 hS) (ex_4_1 (ix_31 (j := 0) (v := 1) (sh_83 hS) (by decide) (by decide) rfl hk (ex_if1 (fun _ => ?_) (fun hc => by exfalso; revert hc; decide))))))
    refine (ex_6_0 (ix_41r (sh_64 hS) (pt_64_0 hS) (ex_6_0 (ix_41r (sh_64 hS) (pt_64_1 hS) (ex_4_1 (ix_33 (j := 0) (sh_82 hS) (by decide) (by decide) rfl (pt_82_0 hS) ?_))))))
    obtain ⟨K, Pk, eK, hCK, h6K, fK, gK⟩ := k_copy (d := d + 1) hS cq65 cq174 (by decide) hN hC
    have hS : ST G Pk := ST_tx hS (fun q k _ h => gK q k (h 65 cq65))
    refine (ix_46 (S' := []) rfl (sh_65 hS) eK rfl rfl (ex_6_0 (ix_41r (sh_64 hS) (pt_64_3 hS) (ix_46 (S' := []) rfl (sh_84 hS) (k_logClr hS) rfl rfl (ex_6_0 (ex_0 (ix_46 (S' := [(.inl 0)]) rfl (sh_64 hS) (k_grant hS) rfl rfl ?_)))))))
    exact ex_53 ⟨_, _, rfl, hS, CC_w65 (CC_84 hCK) (by omega), (u2_q (by decide)).trans u2_e, u2_e, h6K, fun q j a b e => (u2_o e).trans ((u2_o b).trans (fK q j (by omega))), gK⟩
  obtain ⟨o, e, I1, P1, rfl, h⟩ := am_doQ (as := [(.inr (.inr (some 64))), (.inl 0)]) (Nat.le_of_ble_eq_true rfl) rfl w
  exact ⟨I1, P1, e, h⟩
theorem k_back_0n {d : Nat} {G : am_G} {I : Nat → Nat → Int} {P : Nat → Nat → Option Nat} (hS : ST G P) (hk : I 83 0 = 0) (hR2 : 0 ≤ I 173 2 ∧ I 173 2 ≤ 1000000) : am_call am_B am_M (d + 4) 148 [(.inr (.inr (some 64))), (.inl 0)] (G, I, P) = some (some (.inl (-2)), (G, am_u2 (am_u2 I 173 2 (I 173 2 + 1)) 64 16 (-2), P)) := by
  refine am_doL (L := [some (.inr (.inr (some 64))), some (.inl 0)]) (Nat.le_of_ble_eq_true rfl) rfl ?_
  refine (ex_4_1 (ex_0 ?_))
  have hb2 : ((0 : Int) ≤ 0 ∧ (0 : Int) ≤ 1) := by omega
  refine (ix_45 (S' := [(.inl 1)]) rfl (k_isWithin_t hb2) rfl rfl (ex_if1 (fun _ => ?_) (fun hc => by exfalso; revert hc; decide)))
  refine (ex_6_0 (ix_41r (sh_64 hS) (pt_64_2 hS) (ex_4_1 (ix_31 (j := 0) (v := 0) (sh_83 hS) (by decide) (by decide) rfl hk (ex_if1 (fun hc => by exfalso; revert hc; decide) (fun _ => ?_))))))
  refine (ex_6_0 (ex_0 (ix_46 (S' := [(.inl (-2))]) rfl (sh_64 hS) (k_refuse_n hS (k := 2) (by decide) (by decide) rfl hR2) rfl rfl ?_)))
  exact ex_53 rfl
theorem k_image_1 {d : Nat} {G : am_G} {I : Nat → Nat → Int} {P : Nat → Nat → Option Nat} (hS : ST G P) {ρ : Nat → Int} {n : Nat} {cl : Nat → Cl} (hE : CE G I P 65 ρ n cl) (hN : TN G P 65) : ∃ I1 P1, am_call am_B am_M (d + 4) 147 [(.inr (.inr (some 64))), (.inl 1)] (G, I, P) = some (some (.inl 0), (G, I1, P1)) ∧ (ST G P1 ∧ CC I1 191 ρ ∧ I1 83 1 = 1 ∧ I1 64 16 = 0 ∧ (∀ j, j < 6 → P1 (191 + 16) j = P (65 + 16) j) ∧ (∀ q j, ¬ (191 ≤ q ∧ q ≤ 206) → ¬ (q = 83 ∧ j = 1) → ¬ (q = 64 ∧ j = 16) → I1 q j = I q j) ∧ (∀ q j, ¬ q = 191 + 16 → P1 q j = P q j)) := by
  have w : am_ex (am_call am_B am_M (d + 3)) (am_B 147) (am_B 147 0) [some (.inr (.inr (some 64))), some (.inl 1)] [] (G, I, P) (fun o => ∃ I1 P1, o = (some (.inl 0), (G, I1, P1)) ∧ (ST G P1 ∧ CC I1 191 ρ ∧ I1 83 1 = 1 ∧ I1 64 16 = 0 ∧ (∀ j, j < 6 → P1 (191 + 16) j = P (65 + 16) j) ∧ (∀ q j, ¬ (191 ≤ q ∧ q ≤ 206) → ¬ (q = 83 ∧ j = 1) → ¬ (q = 64 ∧ j = 16) → I1 q j = I q j) ∧ (∀ q j, ¬ q = 191 + 16 → P1 q j = P q j))) := by
    refine (ex_4_1 (ex_0 ?_))
    have hb2 : ((0 : Int) ≤ 1 ∧ (1 : Int) ≤ 1) := by omega
    refine (ix_45 (S' := [(.inl 1)]) rfl (k_isWithin_t hb2) rfl rfl (ex_if1 (fun _ => ?_) (fun hc => by exfalso; revert hc; decide)))
    refine (ex_6_0 (ix_41r (sh_64 hS) (pt_64_1 hS) (ex_4_1 (ix_33 (j := 1) (sh_82 hS) (by decide) (by decide) rfl (pt_82_1 hS) (ex_6_0 (ix_41r (sh_64 hS) (pt_64_0 hS) ?_))))))
    obtain ⟨K, Pk, eK, hCK, h6K, fK, gK⟩ := k_copy (d := d + 1) hS cq191 cq65 (by decide) hN hE.1
    have hS : ST G Pk := ST_tx hS (fun q k _ h => gK q k (h 191 cq191))
    refine (ix_46 (S' := []) rfl (sh_191 hS) eK rfl rfl (ex_6_0 (ix_41r (sh_64 hS) (pt_64_2 hS) (ex_4_1 (ex_0 (ix_35z (j := 1) (sh_83 hS) (by decide) (by decide) rfl (by decide) (ex_6_0 (ex_0 (ix_46 (S' := [(.inl 0)]) rfl (sh_64 hS) (k_grant hS) rfl rfl ?_)))))))))
    exact ex_53 ⟨_, _, rfl, hS, CC_fr hCK (fun q j a b _ => (u2_q (by omega)).trans (u2_q (by omega))), (u2_q (by decide)).trans u2_e, u2_e, h6K, fun q j a b e => (u2_o e).trans ((u2_o b).trans (fK q j (by omega))), gK⟩
  obtain ⟨o, e, I1, P1, rfl, h⟩ := am_doQ (as := [(.inr (.inr (some 64))), (.inl 1)]) (Nat.le_of_ble_eq_true rfl) rfl w
  exact ⟨I1, P1, e, h⟩
theorem k_back_1 {d : Nat} {G : am_G} {I : Nat → Nat → Int} {P : Nat → Nat → Option Nat} (hS : ST G P) {ρi : Nat → Int} (hC : CC I 191 ρi) (hN : TN G P 191) (hk : I 83 1 = 1) : ∃ I1 P1, am_call am_B am_M (d + 4) 148 [(.inr (.inr (some 64))), (.inl 1)] (G, I, P) = some (some (.inl 0), (G, I1, P1)) ∧ (ST G P1 ∧ CC I1 65 ρi ∧ I1 84 4 = 0 ∧ I1 64 16 = 0 ∧ (∀ j, j < 6 → P1 (65 + 16) j = P (191 + 16) j) ∧ (∀ q j, ¬ (65 ≤ q ∧ q ≤ 80) → ¬ (q = 84 ∧ j = 4) → ¬ (q = 64 ∧ j = 16) → I1 q j = I q j) ∧ (∀ q j, ¬ q = 65 + 16 → P1 q j = P q j)) := by
  have w : am_ex (am_call am_B am_M (d + 3)) (am_B 148) (am_B 148 0) [some (.inr (.inr (some 64))), some (.inl 1)] [] (G, I, P) (fun o => ∃ I1 P1, o = (some (.inl 0), (G, I1, P1)) ∧ (ST G P1 ∧ CC I1 65 ρi ∧ I1 84 4 = 0 ∧ I1 64 16 = 0 ∧ (∀ j, j < 6 → P1 (65 + 16) j = P (191 + 16) j) ∧ (∀ q j, ¬ (65 ≤ q ∧ q ≤ 80) → ¬ (q = 84 ∧ j = 4) → ¬ (q = 64 ∧ j = 16) → I1 q j = I q j) ∧ (∀ q j, ¬ q = 65 + 16 → P1 q j = P q j))) := by
    refine (ex_4_1 (ex_0 ?_))
    have hb2 : ((0 : Int) ≤ 1 ∧ (1 : Int) ≤ 1) := by omega
    refine (ix_45 (S' := [(.inl 1)]) rfl (k_isWithin_t hb2) rfl rfl (ex_if1 (fun _ => ?_) (fun hc => by exfalso; revert hc; decide)))
    refine (ex_6_0 (ix_41r (sh_64 hS) (pt_64_2 hS) (ex_4_1 (ix_31 (j := 1) (v := 1) (sh_83 hS) (by decide) (by decide) rfl hk (ex_if1 (fun _ => ?_) (fun hc => by exfalso; revert hc; decide))))))
    refine (ex_6_0 (ix_41r (sh_64 hS) (pt_64_0 hS) (ex_6_0 (ix_41r (sh_64 hS) (pt_64_1 hS) (ex_4_1 (ix_33 (j := 1) (sh_82 hS) (by decide) (by decide) rfl (pt_82_1 hS) ?_))))))
    obtain ⟨K, Pk, eK, hCK, h6K, fK, gK⟩ := k_copy (d := d + 1) hS cq65 cq191 (by decide) hN hC
    have hS : ST G Pk := ST_tx hS (fun q k _ h => gK q k (h 65 cq65))
    refine (ix_46 (S' := []) rfl (sh_65 hS) eK rfl rfl (ex_6_0 (ix_41r (sh_64 hS) (pt_64_3 hS) (ix_46 (S' := []) rfl (sh_84 hS) (k_logClr hS) rfl rfl (ex_6_0 (ex_0 (ix_46 (S' := [(.inl 0)]) rfl (sh_64 hS) (k_grant hS) rfl rfl ?_)))))))
    exact ex_53 ⟨_, _, rfl, hS, CC_w65 (CC_84 hCK) (by omega), (u2_q (by decide)).trans u2_e, u2_e, h6K, fun q j a b e => (u2_o e).trans ((u2_o b).trans (fK q j (by omega))), gK⟩
  obtain ⟨o, e, I1, P1, rfl, h⟩ := am_doQ (as := [(.inr (.inr (some 64))), (.inl 1)]) (Nat.le_of_ble_eq_true rfl) rfl w
  exact ⟨I1, P1, e, h⟩
theorem k_back_1n {d : Nat} {G : am_G} {I : Nat → Nat → Int} {P : Nat → Nat → Option Nat} (hS : ST G P) (hk : I 83 1 = 0) (hR2 : 0 ≤ I 173 2 ∧ I 173 2 ≤ 1000000) : am_call am_B am_M (d + 4) 148 [(.inr (.inr (some 64))), (.inl 1)] (G, I, P) = some (some (.inl (-2)), (G, am_u2 (am_u2 I 173 2 (I 173 2 + 1)) 64 16 (-2), P)) := by
  refine am_doL (L := [some (.inr (.inr (some 64))), some (.inl 1)]) (Nat.le_of_ble_eq_true rfl) rfl ?_
  refine (ex_4_1 (ex_0 ?_))
  have hb2 : ((0 : Int) ≤ 1 ∧ (1 : Int) ≤ 1) := by omega
  refine (ix_45 (S' := [(.inl 1)]) rfl (k_isWithin_t hb2) rfl rfl (ex_if1 (fun _ => ?_) (fun hc => by exfalso; revert hc; decide)))
  refine (ex_6_0 (ix_41r (sh_64 hS) (pt_64_2 hS) (ex_4_1 (ix_31 (j := 1) (v := 0) (sh_83 hS) (by decide) (by decide) rfl hk (ex_if1 (fun hc => by exfalso; revert hc; decide) (fun _ => ?_))))))
  refine (ex_6_0 (ex_0 (ix_46 (S' := [(.inl (-2))]) rfl (sh_64 hS) (k_refuse_n hS (k := 2) (by decide) (by decide) rfl hR2) rfl rfl ?_)))
  exact ex_53 rfl
theorem k_image_b {d : Nat} {G : am_G} {I : Nat → Nat → Int} {P : Nat → Nat → Option Nat} (hS : ST G P) {w : Int} (hb : ¬ (0 ≤ w ∧ w ≤ 1)) (hR1 : 0 ≤ I 173 1 ∧ I 173 1 ≤ 1000000) : am_call am_B am_M (d + 4) 147 [(.inr (.inr (some 64))), (.inl w)] (G, I, P) = some (some (.inl (-1)), (G, am_u2 (am_u2 I 173 1 (I 173 1 + 1)) 64 16 (-1), P)) := by
  refine am_doL (L := [some (.inr (.inr (some 64))), some (.inl w)]) (Nat.le_of_ble_eq_true rfl) rfl ?_
  refine (ex_4_1 (ex_0 ?_))
  have hb2 : ¬ (((0 : Int) ≤ w ∧ (w : Int) ≤ 1)) := by omega
  refine (ix_45 (S' := [(.inl 0)]) rfl (k_isWithin_f hb2) rfl rfl (ex_if1 (fun hc => by exfalso; revert hc; decide) (fun _ => ?_)))
  refine (ex_6_0 (ex_0 (ix_46 (S' := [(.inl (-1))]) rfl (sh_64 hS) (k_refuse_n hS (k := 1) (by decide) (by decide) rfl hR1) rfl rfl ?_)))
  exact ex_53 rfl
theorem k_back_b {d : Nat} {G : am_G} {I : Nat → Nat → Int} {P : Nat → Nat → Option Nat} (hS : ST G P) {w : Int} (hb : ¬ (0 ≤ w ∧ w ≤ 1)) (hR1 : 0 ≤ I 173 1 ∧ I 173 1 ≤ 1000000) : am_call am_B am_M (d + 4) 148 [(.inr (.inr (some 64))), (.inl w)] (G, I, P) = some (some (.inl (-1)), (G, am_u2 (am_u2 I 173 1 (I 173 1 + 1)) 64 16 (-1), P)) := by
  refine am_doL (L := [some (.inr (.inr (some 64))), some (.inl w)]) (Nat.le_of_ble_eq_true rfl) rfl ?_
  refine (ex_4_1 (ex_0 ?_))
  have hb2 : ¬ (((0 : Int) ≤ w ∧ (w : Int) ≤ 1)) := by omega
  refine (ix_45 (S' := [(.inl 0)]) rfl (k_isWithin_f hb2) rfl rfl (ex_if1 (fun hc => by exfalso; revert hc; decide) (fun _ => ?_)))
  refine (ex_6_0 (ex_0 (ix_46 (S' := [(.inl (-1))]) rfl (sh_64 hS) (k_refuse_n hS (k := 1) (by decide) (by decide) rfl hR1) rfl rfl ?_)))
  exact ex_53 rfl
theorem k_compare_b {d : Nat} {G : am_G} {I : Nat → Nat → Int} {P : Nat → Nat → Option Nat} (hS : ST G P) {ρ : Nat → Int} {n : Nat} {cl : Nat → Cl} (hE : CE G I P 65 ρ n cl) {w : Int} (hb : ¬ (w = -1 ∨ (0 ≤ w ∧ w < ρ 3))) : am_call am_B am_M (d + 8) 144 [(.inr (.inr (some 64))), (.inl w)] (G, I, P) = some (some (.inl (-1)), (G, I, P)) := by
  have h0 := RW_n0 hE.2.1
  have h1 := RW_n1 hE.2.1
  have h3 := RW_n3 hE.2.1
  have h8 := RW_sm hE.2.1
  refine am_doL (L := [some (.inr (.inr (some 64))), some (.inl w)]) (Nat.le_of_ble_eq_true rfl) rfl ?_
  refine (ex_4_1 (ex_0 ?_))
  refine ex_ic0 (fun hc2 => by exfalso; omega) (fun hc2 => ?_)
  refine (ex_6_0 (ix_41r (sh_64 hS) (pt_64_0 hS) (ex_4_1 ?_)))
  have hb10 : ¬ (((0 : Int) ≤ w ∧ (w : Int) < ρ 3)) := by omega
  refine (ix_46 (S' := [(.inl 0)]) rfl (sh_65 hS) (k_hasLaw_f hS cq65 hE.1 hb10) rfl rfl (ex_if1 (fun hc => by exfalso; revert hc; decide) (fun _ => ?_)))
  refine (ex_0 ?_)
  exact ex_53 rfl
theorem k_compare {d : Nat} {G : am_G} {I : Nat → Nat → Int} {P : Nat → Nat → Option Nat} (hS : ST G P) {ρ : Nat → Int} {n : Nat} {cl : Nat → Cl} (hE : CE G I P 65 ρ n cl) (hN : TN G P 65) (h59 : ρ 5 ≤ 999) {w_ : Int} (hb : w_ = -1 ∨ (0 ≤ w_ ∧ w_ < ρ 3)) {n2 : Nat} {cl2 : Nat → Cl} (hL : LWn G I P 65 (am_u1 ρ 4 w_) n2 cl2) (hB2 : BarN n2 cl2) {N : Nat} (hNN : am_u1 ρ 4 w_ 0 = (N : Int)) : ∃ I1 P1, am_call am_B am_M (d + 8) 144 [(.inr (.inr (some 64))), (.inl w_)] (G, I, P) = some (some (.inl (BS (gn (am_u1 ρ 4 w_) n2 cl2) N N 0)), (G, I1, P1)) ∧ (ST G P1 ∧ (∀ q k, ¬ q = 89 → ¬ q = 90 → ¬ (117 ≤ q ∧ q ≤ 137) → I1 q k = I q k) ∧ PP2 P P1) := by
  have h0 := RW_n0 hE.2.1
  have h1 := RW_n1 hE.2.1
  have h3 := RW_n3 hE.2.1
  have h8 := RW_sm hE.2.1
  have w : am_ex (am_call am_B am_M (d + 7)) (am_B 144) (am_B 144 0) [some (.inr (.inr (some 64))), some (.inl w_)] [] (G, I, P) (fun o => ∃ I1 P1, o = (some (.inl (BS (gn (am_u1 ρ 4 w_) n2 cl2) N N 0)), (G, I1, P1)) ∧ (ST G P1 ∧ (∀ q k, ¬ q = 89 → ¬ q = 90 → ¬ (117 ≤ q ∧ q ≤ 137) → I1 q k = I q k) ∧ PP2 P P1)) := by
    refine (ex_4_1 (ex_0 ?_))
    refine ex_ic0 (fun hc2 => ?_) (fun hc2 => ?_)
    · refine (ex_6_0 (ix_41r (sh_64 hS) (pt_64_7 hS) (ex_6_0 (ix_41r (sh_64 hS) (pt_64_8 hS) (ex_6_0 (ix_41r (sh_64 hS) (pt_64_0 hS) (ex_4_1 ?_)))))))
      obtain ⟨K, Pk, eK, hS, hCK, fK, pK⟩ := k_under (d := d + 4) hS hE hN h59 (lw := w_)
      have hEK : CE G K Pk 122 (am_u1 ρ 4 w_) n2 cl2 := ⟨hCK, RWs_fo hE.2.1 (by omega), LWn_cp (b := 65) hL (fun q k h => fK q k (by omega) (by omega) (by omega)) (fun q k h => pK.1 q k (by omega)) pK.2⟩
      refine (ix_46 (S' := [(.inr (.inr (some 122))), (.inr (.inr (some 116)))]) rfl (sh_121 hS) eK rfl rfl ?_)
      obtain ⟨M_, eM, hEM, _, _, fM⟩ := k_most (d := d + 1) hS cq122 hEK hNN hB2
      refine (ix_46 (S' := [(.inl (BS (gn (am_u1 ρ 4 w_) n2 cl2) N N 0))]) rfl (sh_116 hS) eM rfl rfl ?_)
      exact ex_53 ⟨_, _, rfl, hS, fun q k a b c => (fM q k a b (by omega)).trans (fK q k a b (by omega)), pK⟩
    · refine (ex_6_0 (ix_41r (sh_64 hS) (pt_64_0 hS) (ex_4_1 ?_)))
      have hb10 : ((0 : Int) ≤ w_ ∧ (w_ : Int) < ρ 3) := by omega
      refine (ix_46 (S' := [(.inl 1)]) rfl (sh_65 hS) (k_hasLaw_t hS cq65 hE.1 hb10) rfl rfl (ex_if1 (fun _ => ?_) (fun hc => by exfalso; revert hc; decide)))
      refine (ex_6_0 (ix_41r (sh_64 hS) (pt_64_7 hS) (ex_6_0 (ix_41r (sh_64 hS) (pt_64_8 hS) (ex_6_0 (ix_41r (sh_64 hS) (pt_64_0 hS) (ex_4_1 ?_)))))))
      obtain ⟨K, Pk, eK, hS, hCK, fK, pK⟩ := k_under (d := d + 4) hS hE hN h59 (lw := w_)
      have hEK : CE G K Pk 122 (am_u1 ρ 4 w_) n2 cl2 := ⟨hCK, RWs_fo hE.2.1 (by omega), LWn_cp (b := 65) hL (fun q k h => fK q k (by omega) (by omega) (by omega)) (fun q k h => pK.1 q k (by omega)) pK.2⟩
      refine (ix_46 (S' := [(.inr (.inr (some 122))), (.inr (.inr (some 116)))]) rfl (sh_121 hS) eK rfl rfl ?_)
      obtain ⟨M_, eM, hEM, _, _, fM⟩ := k_most (d := d + 1) hS cq122 hEK hNN hB2
      refine (ix_46 (S' := [(.inl (BS (gn (am_u1 ρ 4 w_) n2 cl2) N N 0))]) rfl (sh_116 hS) eM rfl rfl ?_)
      exact ex_53 ⟨_, _, rfl, hS, fun q k a b c => (fM q k a b (by omega)).trans (fK q k a b (by omega)), pK⟩
  obtain ⟨o, e, I1, P1, rfl, h⟩ := am_doQ (as := [(.inr (.inr (some 64))), (.inl w_)]) (Nat.le_of_ble_eq_true rfl) rfl w
  exact ⟨I1, P1, e, h⟩
