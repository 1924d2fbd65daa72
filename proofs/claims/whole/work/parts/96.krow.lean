/-! ===== the class: road, row ===== -/
theorem k_road_b {d : Nat} {G : am_G} {I : Nat → Nat → Int} {P : Nat → Nat → Option Nat} (hS : ST G P) {ρ : Nat → Int} {n : Nat} {cl : Nat → Cl} (hE : CE G I P 65 ρ n cl) {one other len : Int} (hk : ¬ ((0 ≤ one ∧ one < 6) ∧ (0 ≤ other ∧ other < 6) ∧ ¬ one = other ∧ (0 ≤ len ∧ len ≤ 9))) (hR1 : 0 ≤ I 173 1 ∧ I 173 1 ≤ 1000000) : am_call am_B am_M (d + 4) 112 [(.inr (.inr (some 64))), (.inl one), (.inl other), (.inl len)] (G, I, P) = some (some (.inl (-1)), (G, am_u2 (am_u2 I 173 1 (I 173 1 + 1)) 64 16 (-1), P)) := by
  have h0 := RW_n0 hE.2.1
  have h1 := RW_n1 hE.2.1
  have h3 := RW_n3 hE.2.1
  have h8 := RW_sm hE.2.1
  refine am_doL (L := [some (.inr (.inr (some 64))), some (.inl one), some (.inl other), some (.inl len), none]) (Nat.le_of_ble_eq_true rfl) rfl ?_
  refine (ex_4_1 (ex_4_2 (ex_4_3 (ix_45 (S' := [(.inl 0)]) rfl (k_isRoad_f hk) rfl rfl (ex_if1 (fun hc => by exfalso; revert hc; decide) (fun _ => ?_))))))
  refine (ex_6_0 (ex_0 (ix_46 (S' := [(.inl (-1))]) rfl (sh_64 hS) (k_refuse_n hS (k := 1) (by decide) (by decide) rfl hR1) rfl rfl ?_)))
  exact ex_53 rfl
theorem k_roadc {d : Nat} {G : am_G} {I : Nat → Nat → Int} {P : Nat → Nat → Option Nat} (hS : ST G P) {ρ : Nat → Int} {n : Nat} {cl : Nat → Cl} (hE : CE G I P 65 ρ n cl) {b oo : Nat} {l : Int} (hb : b < 6) (ho : oo < 6) (hbo : ¬ b = oo) (hl : 0 ≤ l ∧ l ≤ 9) : ∃ I1, am_call am_B am_M (d + 4) 112 [(.inr (.inr (some 64))), (.inl (b : Int)), (.inl (oo : Int)), (.inl l)] (G, I, P) = some (some (.inl (ρ (52 + 6 * b + oo))), (G, I1, P)) ∧ (CC I1 65 (m_road1 ρ b oo l) ∧ I1 64 16 = 0 ∧ (∀ q k, ¬ q = 67 → ¬ q = 68 → ¬ (q = 64 ∧ k = 16) → I1 q k = I q k)) := by
  have h0 := RW_n0 hE.2.1
  have h1 := RW_n1 hE.2.1
  have h3 := RW_n3 hE.2.1
  have h8 := RW_sm hE.2.1
  have w : am_ex (am_call am_B am_M (d + 3)) (am_B 112) (am_B 112 0) [some (.inr (.inr (some 64))), some (.inl (b : Int)), some (.inl (oo : Int)), some (.inl l), none] [] (G, I, P) (fun o => ∃ I1, o = (some (.inl (ρ (52 + 6 * b + oo))), (G, I1, P)) ∧ (CC I1 65 (m_road1 ρ b oo l) ∧ I1 64 16 = 0 ∧ (∀ q k, ¬ q = 67 → ¬ q = 68 → ¬ (q = 64 ∧ k = 16) → I1 q k = I q k))) := by
    refine (ex_4_1 (ex_4_2 (ex_4_3 (ix_45 (S' := [(.inl 1)]) rfl (k_isRoad_t (show (0 ≤ (b : Int) ∧ (b : Int) < 6) ∧ (0 ≤ (oo : Int) ∧ (oo : Int) < 6) ∧ ¬ (b : Int) = (oo : Int) ∧ (0 ≤ l ∧ l ≤ 9) from ⟨by omega, by omega, by omega, hl⟩)) rfl rfl (ex_if1 (fun _ => ?_) (fun hc => by exfalso; revert hc; decide))))))
    refine (ex_6_0 (ix_41r (sh_64 hS) (pt_64_0 hS) (ix_41r (sh_65 hS) (pt_65_0 hS) (ex_4_1 (ex_4_2 (ix_46 (S' := [(.inl (ρ (52 + 6 * b + oo)))]) rfl (sh_66 hS) (k_long hS cq65 hE.1 (b := b) (o := oo) hb ho) rfl rfl (ex_7_4 rfl (ex_6_0 (ix_41r (sh_64 hS) (pt_64_0 hS) (ix_41r (sh_65 hS) (pt_65_0 hS) (ex_4_1 (ex_4_2 (ex_4_3 ?_)))))))))))))
    obtain ⟨K, eK, hCK, fK⟩ := k_lay (d := d + 2) hS hE.1 hb ho hbo (l := l) hl.1
    refine (ix_46 (S' := []) rfl (sh_66 hS) eK rfl rfl (ex_6_0 (ex_4_4 (ix_46 (S' := [(.inl (ρ (52 + 6 * b + oo)))]) rfl (sh_64 hS) (k_grant hS) rfl rfl ?_))))
    exact ex_53 ⟨_, rfl, CC_w65 hCK (by omega), u2_e, fun q k a b c => (u2_o c).trans (fK q k a b)⟩
  obtain ⟨o, e, I1, rfl, h⟩ := am_doQ (as := [(.inr (.inr (some 64))), (.inl (b : Int)), (.inl (oo : Int)), (.inl l)]) (Nat.le_of_ble_eq_true rfl) rfl w
  exact ⟨I1, e, h⟩
theorem k_row_e {d : Nat} {G : am_G} {I : Nat → Nat → Int} {P : Nat → Nat → Option Nat} (hS : ST G P) (h0 : I 64 13 = 0) (hR6 : 0 ≤ I 173 6 ∧ I 173 6 ≤ 1000000) : am_call am_B am_M (d + 4) 117 [(.inr (.inr (some 64)))] (G, I, P) = some (some (.inl (-6)), (G, am_u2 (am_u2 I 173 6 (I 173 6 + 1)) 64 16 (-6), P)) := by
  refine am_doL (L := [some (.inr (.inr (some 64))), none, none]) (Nat.le_of_ble_eq_true rfl) rfl ?_
  refine (ex_6_0 (ix_41i (v := 0) (sh_64 hS) h0 (ex_if1 (fun hc => by exfalso; revert hc; decide) (fun _ => ?_))))
  refine (ex_6_0 (ex_0 (ix_46 (S' := [(.inl (-6))]) rfl (sh_64 hS) (k_refuse_n hS (k := 6) (by decide) (by decide) rfl hR6) rfl rfl ?_)))
  exact ex_53 rfl
theorem k_rowc {d : Nat} {G : am_G} {I : Nat → Nat → Int} {P : Nat → Nat → Option Nat} (hS : ST G P) {ρ : Nat → Int} {n : Nat} {cl : Nat → Cl} (hE : CE G I P 65 ρ n cl) {had : Nat} {tb : Nat → Int} (h13 : I 64 13 = (had : Int)) (h0 : ¬ had = 0) (h4 : had ≤ 400) (htp : ∀ k, k < had → I 171 k = sb (tb k)) (hTB : ∀ k, k < had → 0 ≤ tb k ∧ tb k ≤ 255) : ∃ I1, am_call am_B am_M (d + 4) 117 [(.inr (.inr (some 64)))] (G, I, P) = some (some (.inl (am_it (fun i z => m_rowF tb had i z) ((had + 2) / 3) 0 (ρ, 0, 0)).2.1), (G, I1, P)) ∧ (CC I1 65 (am_it (fun i z => m_rowF tb had i z) ((had + 2) / 3) 0 (ρ, 0, 0)).1 ∧ I1 64 15 = (am_it (fun i z => m_rowF tb had i z) ((had + 2) / 3) 0 (ρ, 0, 0)).2.2 ∧ I1 64 13 = 0 ∧ I1 64 16 = 0 ∧ (∀ q k, ¬ q = 67 → ¬ q = 68 → ¬ (q = 64 ∧ (k = 13 ∨ k = 15 ∨ k = 16)) → I1 q k = I q k)) := by
  have h0 := RW_n0 hE.2.1
  have h1 := RW_n1 hE.2.1
  have h3 := RW_n3 hE.2.1
  have h8 := RW_sm hE.2.1
  have w : am_ex (am_call am_B am_M (d + 3)) (am_B 117) (am_B 117 0) [some (.inr (.inr (some 64))), none, none] [] (G, I, P) (fun o => ∃ I1, o = (some (.inl (am_it (fun i z => m_rowF tb had i z) ((had + 2) / 3) 0 (ρ, 0, 0)).2.1), (G, I1, P)) ∧ (CC I1 65 (am_it (fun i z => m_rowF tb had i z) ((had + 2) / 3) 0 (ρ, 0, 0)).1 ∧ I1 64 15 = (am_it (fun i z => m_rowF tb had i z) ((had + 2) / 3) 0 (ρ, 0, 0)).2.2 ∧ I1 64 13 = 0 ∧ I1 64 16 = 0 ∧ (∀ q k, ¬ q = 67 → ¬ q = 68 → ¬ (q = 64 ∧ (k = 13 ∨ k = 15 ∨ k = 16)) → I1 q k = I q k))) := by
    refine (ex_6_0 (ix_41i (v := (had : Int)) (sh_64 hS) h13 ?_))
    refine ex_if1 (fun hc4 => ?_) (fun hc4 => by exfalso; omega)
    refine (ex_0 (ex_7_1 rfl (ex_6_0 (ex_0 (ix_42i (sh_64 hS) (ex_0 (ex_7_2 rfl (ex_58 ?_))))))))
    refine ex_forR (b := 3) (σ := (Nat → Int) × Int × Int) (((had + 2) / 3)) (fun i z => m_rowF tb had i z) (fun i z J => CC J 65 z.1 ∧ J 64 15 = z.2.2 ∧ J 64 13 = (had : Int) ∧ (0 ≤ z.2.1 ∧ z.2.1 ≤ (i : Int) ∧ 0 ≤ z.2.2 ∧ z.2.2 ≤ (i : Int)) ∧ (∀ k, k < had → J 171 k = sb (tb k)) ∧ (∀ q k, ¬ q = 67 → ¬ q = 68 → ¬ (q = 64 ∧ k = 15) → J q k = I q k)) (fun i z e_i => [some (.inr (.inr (some 64))), some (.inl z.2.1), some (.inl (3 * ((i : Nat) : Int)))]) ?_ (((had + 2) / 3)) (0) ((ρ, 0, 0)) (fun k_ => ([some (.inr (.inr (some 64))), some (.inl 0), some (.inl 0)] : am_L).getD k_ none) ((am_u2 I 64 15 0)) (by omega) (⟨CC_w65 hE.1 (by omega), u2_e, (u2_k (by decide)).trans h13, ⟨Int.le_refl _, Int.le_refl _, Int.le_refl _, Int.le_refl _⟩, fun k hk => (u2_q (by decide)).trans (htp k hk), fun q k a b c => u2_o c⟩) rfl ?_
    · intro i z e_i J hii hvi hki
      obtain ⟨hC, h15, h13, hzb, htp, hfr⟩ := hvi
      refine (ex_4_2 (ex_6_0 (ix_41i (v := (had : Int)) (sh_64 hS) h13 ?_)))
      refine ex_ic3 (fun hc28 => by exfalso; omega) (fun hc28 => ?_)
      refine (ex_4_2 (ex_0 (ex_add ⟨by omega, by omega⟩ (ex_6_0 (ix_41i (v := (had : Int)) (sh_64 hS) h13 ?_)))))
      refine ex_ic3 (fun hc38 => ?_) (fun hc38 => ?_)
      · refine (ex_6_0 (ex_22 rfl (ix_41i (v := z.2.2) (sh_64 hS) h15 (ex_0 (ex_add ⟨by omega, by omega⟩ (ix_42i (sh_64 hS) (ex_58 (ex_10_2 ⟨by omega, by omega⟩ rfl (ex_28 ?_)))))))))
        exact hki ((z.1, z.2.1, z.2.2 + 1)) (fun k_ => ([some (.inr (.inr (some 64))), some (.inl z.2.1), some (.inl ((3 * ((i : Nat) : Int)) + 3))] : am_L).getD k_ none) _ ((by unfold m_rowF; rw [if_neg (fun y => by first | omega | exact hq (by have b0 := hTB (3 * i) (by omega); have b1 := hTB (3 * i + 1) (by omega); have b2 := hTB (3 * i + 2) (by omega); unfold sb; omega))])) (⟨CC_w65 hC (by omega), u2_e, (u2_k (by decide)).trans h13, (by show (0 : Int) ≤ z.2.1 ∧ z.2.1 ≤ _ ∧ 0 ≤ z.2.2 + 1 ∧ z.2.2 + 1 ≤ _; omega), fun k hk => (u2_q (by decide)).trans (htp k hk), fun q k a b c => (u2_o c).trans (hfr q k a b c)⟩)
      · by_cases hq : ((0 ≤ sb (tb (3 * i)) ∧ sb (tb (3 * i)) < 6) ∧ (0 ≤ sb (tb (3 * i + 1)) ∧ sb (tb (3 * i + 1)) < 6) ∧ ¬ sb (tb (3 * i)) = sb (tb (3 * i + 1)) ∧ (0 ≤ sb (tb (3 * i + 2)) ∧ sb (tb (3 * i + 2)) ≤ 9))
        · refine (ex_6_0 (ix_41r (sh_64 hS) (pt_64_10 hS) (ex_4_2 (ix_31 (j := (3 * i)) (v := (sb (tb (3 * i)))) (sh_171 hS) (by omega) (by omega) (by omega) (htp _ (by omega)) (ex_6_0 (ix_41r (sh_64 hS) (pt_64_10 hS) (ex_4_2 (ex_0 (ex_add ⟨by omega, by omega⟩ (ix_31 (j := ((3 * i) + 1)) (v := (sb (tb (3 * i + 1)))) (sh_171 hS) (by omega) (by omega) (by omega) (htp _ (by omega)) (ex_6_0 (ix_41r (sh_64 hS) (pt_64_10 hS) (ex_4_2 (ex_0 (ex_add ⟨by omega, by omega⟩ (ix_31 (j := ((3 * i) + 2)) (v := (sb (tb (3 * i + 2)))) (sh_171 hS) (by omega) (by omega) (by omega) (htp _ (by omega)) (ix_45 (S' := [(.inl 1)]) rfl (k_isRoad_t hq) rfl rfl (ex_if0 (fun hc => by exfalso; revert hc; decide) (fun _ => ?_)))))))))))))))))))
          have hq0 := hq
          have b0 := hTB (3 * i) (by omega)
          have b1 := hTB (3 * i + 1) (by omega)
          have b2 := hTB (3 * i + 2) (by omega)
          unfold sb at hq
          have hv0 : sb (tb (3 * i)) = ((tb (3 * i)).toNat : Int) := by unfold sb; omega
          have hv1 : sb (tb (3 * i + 1)) = ((tb (3 * i + 1)).toNat : Int) := by unfold sb; omega
          have hv2 : sb (tb (3 * i + 2)) = tb (3 * i + 2) := by unfold sb; omega
          refine (ex_6_0 (ix_41r (sh_64 hS) (pt_64_0 hS) (ix_41r (sh_65 hS) (pt_65_0 hS) (ex_6_0 (ix_41r (sh_64 hS) (pt_64_10 hS) (ex_4_2 (ix_31 (j := (3 * i)) (v := ((tb (3 * i)).toNat : Int)) (sh_171 hS) (by omega) (by omega) (by omega) ((htp _ (by omega)).trans hv0) (ex_6_0 (ix_41r (sh_64 hS) (pt_64_10 hS) (ex_4_2 (ex_0 (ex_add ⟨by omega, by omega⟩ (ix_31 (j := ((3 * i) + 1)) (v := ((tb (3 * i + 1)).toNat : Int)) (sh_171 hS) (by omega) (by omega) (by omega) ((htp _ (by omega)).trans hv1) (ex_6_0 (ix_41r (sh_64 hS) (pt_64_10 hS) (ex_4_2 (ex_0 (ex_add ⟨by omega, by omega⟩ (ix_31 (j := ((3 * i) + 2)) (v := (tb (3 * i + 2))) (sh_171 hS) (by omega) (by omega) (by omega) ((htp _ (by omega)).trans hv2) ?_)))))))))))))))))))
          obtain ⟨K, eK, hCK, fK⟩ := k_lay (d := d + 2) hS hC (b := (tb (3 * i)).toNat) (oo := (tb (3 * i + 1)).toNat) (by omega) (by omega) (by omega) (l := tb (3 * i + 2)) (by omega)
          refine (ix_46 (S' := []) rfl (sh_66 hS) eK rfl rfl (ex_10_1 ⟨by omega, by omega⟩ rfl (ex_28 (ex_10_2 ⟨by omega, by omega⟩ rfl (ex_28 ?_)))))
          exact hki ((m_road1 z.1 (tb (3 * i)).toNat (tb (3 * i + 1)).toNat (tb (3 * i + 2)), z.2.1 + 1, z.2.2)) (fun k_ => ([some (.inr (.inr (some 64))), some (.inl (z.2.1 + 1)), some (.inl ((3 * ((i : Nat) : Int)) + 3))] : am_L).getD k_ none) _ ((by unfold m_rowF; rw [if_pos ⟨by omega, by omega, by omega, by omega, by omega⟩])) (⟨hCK, (fK _ _ (by decide) (by decide)).trans h15, (fK _ _ (by decide) (by decide)).trans h13, (by show (0 : Int) ≤ z.2.1 + 1 ∧ z.2.1 + 1 ≤ _ ∧ 0 ≤ z.2.2 ∧ z.2.2 ≤ _; omega), fun k hk => (fK _ _ (by decide) (by decide)).trans (htp k hk), fun q k a b c => (fK q k a b).trans (hfr q k a b c)⟩)
        · refine (ex_6_0 (ix_41r (sh_64 hS) (pt_64_10 hS) (ex_4_2 (ix_31 (j := (3 * i)) (v := (sb (tb (3 * i)))) (sh_171 hS) (by omega) (by omega) (by omega) (htp _ (by omega)) (ex_6_0 (ix_41r (sh_64 hS) (pt_64_10 hS) (ex_4_2 (ex_0 (ex_add ⟨by omega, by omega⟩ (ix_31 (j := ((3 * i) + 1)) (v := (sb (tb (3 * i + 1)))) (sh_171 hS) (by omega) (by omega) (by omega) (htp _ (by omega)) (ex_6_0 (ix_41r (sh_64 hS) (pt_64_10 hS) (ex_4_2 (ex_0 (ex_add ⟨by omega, by omega⟩ (ix_31 (j := ((3 * i) + 2)) (v := (sb (tb (3 * i + 2)))) (sh_171 hS) (by omega) (by omega) (by omega) (htp _ (by omega)) (ix_45 (S' := [(.inl 0)]) rfl (k_isRoad_f hq) rfl rfl (ex_if0 (fun _ => ?_) (fun hc => by exfalso; revert hc; decide)))))))))))))))))))
          refine (ex_6_0 (ex_22 rfl (ix_41i (v := z.2.2) (sh_64 hS) h15 (ex_0 (ex_add ⟨by omega, by omega⟩ (ix_42i (sh_64 hS) (ex_58 (ex_10_2 ⟨by omega, by omega⟩ rfl (ex_28 ?_)))))))))
          exact hki ((z.1, z.2.1, z.2.2 + 1)) (fun k_ => ([some (.inr (.inr (some 64))), some (.inl z.2.1), some (.inl ((3 * ((i : Nat) : Int)) + 3))] : am_L).getD k_ none) _ ((by unfold m_rowF; rw [if_neg (fun y => by first | omega | exact hq (by have b0 := hTB (3 * i) (by omega); have b1 := hTB (3 * i + 1) (by omega); have b2 := hTB (3 * i + 2) (by omega); unfold sb; omega))])) (⟨CC_w65 hC (by omega), u2_e, (u2_k (by decide)).trans h13, (by show (0 : Int) ≤ z.2.1 ∧ z.2.1 ≤ _ ∧ 0 ≤ z.2.2 + 1 ∧ z.2.2 + 1 ≤ _; omega), fun k hk => (u2_q (by decide)).trans (htp k hk), fun q k a b c => (u2_o c).trans (hfr q k a b c)⟩)
    · intro z e_i J hsi hvi
      obtain ⟨hC, h15, h13, hzb, htp, hfr⟩ := hvi
      refine (ex_4_2 (ex_6_0 (ix_41i (v := (had : Int)) (sh_64 hS) h13 ?_)))
      refine ex_ic3 (fun hc28 => ?_) (fun hc28 => by exfalso; omega)
      refine (ex_6_0 (ex_0 (ix_42i (sh_64 hS) (ex_6_0 (ex_4_1 (ix_46 (S' := [(.inl z.2.1)]) rfl (sh_64 hS) (k_grant hS) rfl rfl ?_))))))
      exact ex_53 ⟨_, by rw [hsi], by rw [← hsi]; exact CC_w65 (CC_w65 hC (by omega)) (by omega), by rw [← hsi]; exact (u2_k (by decide)).trans ((u2_k (by decide)).trans h15), (u2_k (by decide)).trans u2_e, u2_e, fun q k a b c => (u2_o (by omega)).trans ((u2_o (by omega)).trans (hfr q k a b (by omega)))⟩
  obtain ⟨o, e, I1, rfl, h⟩ := am_doQ (as := [(.inr (.inr (some 64)))]) (Nat.le_of_ble_eq_true rfl) rfl w
  exact ⟨I1, e, h⟩
