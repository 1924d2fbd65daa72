/-! ===== the class: seasons ===== -/
theorem k_drw {d : Nat} {G : am_G} {I : Nat → Nat → Int} {P : Nat → Nat → Option Nat} (hS : ST G P) {m st : Int} (h0 : I 121 4 = st) (h1 : 0 ≤ st ∧ st ≤ 1000002) (hm : 0 < m ∧ m ≤ 100) : am_call am_B am_M (d + 1) 60 [(.inr (.inr (some 121))), (.inl m)] (G, I, P) = some (some (.inl (((dnx st % m).toNat : Nat) : Int)), (G, am_u2 I 121 4 (dnx st), P)) := by
  have h := k_draw (d := d) (G := G) (P := P) hS h0 (by omega) hm
  have e : (((dnx st % m).toNat : Nat) : Int) = (st * 1103 + 12345) % 1000003 % m := Int.toNat_of_nonneg (Int.emod_nonneg _ (by omega))
  rw [e]
  exact h
/-- the log of a season is in order -/
def LOs (J : Nat → Nat → Int) : Prop := ∃ nx u : Nat, nx < 16 ∧ u ≤ 16 ∧ J 157 3 = (nx : Int) ∧ J 157 4 = (u : Int)
theorem LOs_k {I J : Nat → Nat → Int} {nx u : Nat} {dd w b : Int} (hu : u ≤ 16) (h : LGk I J 157 nx u dd w b) : LOs J := ⟨(nx + 1) % 16, rem_n u, Nat.mod_lt _ (by decide), by unfold rem_n; split <;> omega, h.2.2.2.1, h.2.2.2.2⟩
theorem LOs_fr {I J : Nat → Nat → Int} (h : LOs I) (h3 : J 157 3 = I 157 3) (h4 : J 157 4 = I 157 4) : LOs J := by
  obtain ⟨nx, u, a, b, c, e⟩ := h
  exact ⟨nx, u, a, b, h3.trans c, h4.trans e⟩
theorem k_ringS {d : Nat} {G : am_G} {I : Nat → Nat → Int} {P : Nat → Nat → Option Nat} (hS : ST G P) {ρ : Nat → Int} {n : Nat} {cl : Nat → Cl} (hE : CE G I P 139 ρ n cl) (hL : LOs I) {c1 f : Nat} (hc1 : (c1 : Int) < ρ 0) (hf1 : (f : Int) < ρ 1) (hBN : BarN n cl) {how : Nat} (hh : how < 2) : ∃ v I1, am_call am_B am_M (d + 5) 22 [(.inr (.inr (some 156))), (.inl (c1 : Int)), (.inl (f : Int))] (G, I, P) = some (some (.inl v), (G, I1, P)) ∧ (m_can ρ n cl c1 f → 0 ≤ v) ∧ (¬ m_can ρ n cl c1 f → v < 0) ∧ CE G I1 P 139 (ssd ρ n cl c1 f how) n cl ∧ LOs I1 ∧ DFK I I1 139 157 := by
  obtain ⟨nx, u, a, b, c, e⟩ := hL
  have n1 := RW_n1 hE.2.1
  by_cases hc : m_can ρ n cl c1 f
  · rw [ssd_t hh hc]
    rcases RW_en hE.2.1 f (by omega) with he | he
    · obtain ⟨I1, w1, w2, w3, w4⟩ := k_ring_s_0 (d := d) hS hE hc1 hf1 hBN hc he c a e b
      refine ⟨_, I1, w1, fun _ => (m_told_b (ρ := ρ) (n := n) (cl := cl) (c := c1) (f := f)).1, fun z => absurd hc z, ?_, LOs_k b w3, w4⟩
      unfold m_ringr
      rw [if_neg (by omega)]
      exact w2
    · obtain ⟨I1, w1, w2, w3, w4⟩ := k_ring_s_1 (d := d) hS hE hc1 hf1 hBN hc he c a e b
      refine ⟨_, I1, w1, fun _ => (m_soak_b (ρ := ρ) (n := n) (cl := cl) (c := c1) (f := f)).1, fun z => absurd hc z, ?_, LOs_k b w3, w4⟩
      unfold m_ringr
      rw [if_pos he]
      exact w2
  · rw [ssd_f hh hc]
    obtain ⟨I1, w1, w2⟩ := k_ring_s_c (d := d) hS hE hc1 hf1 hBN hc
    refine ⟨_, I1, w1, fun z => absurd z hc, fun _ => (by decide : (-3 : Int) < 0), CE_set hE (CC_fr hE.1 (fun q k _ _ _ => w2 q k (by omega) (by omega))) hE.2.1 rfl (fun q k _ => w2 q k (by omega) (by omega)), LOs_fr ⟨nx, u, a, b, c, e⟩ (w2 _ _ (by decide) (by decide)) (w2 _ _ (by decide) (by decide)), fun q k _ h8 h9 _ => w2 q k h8 h9⟩
theorem k_engS {d : Nat} {G : am_G} {I : Nat → Nat → Int} {P : Nat → Nat → Option Nat} (hS : ST G P) {ρ : Nat → Int} {n : Nat} {cl : Nat → Cl} (hE : CE G I P 139 ρ n cl) (hL : LOs I) {c1 f : Nat} (hf1 : (f : Int) < ρ 1) {how : Nat} (hh : how = 2) : ∃ v I1, am_call am_B am_M (d + 2) 23 [(.inr (.inr (some 156))), (.inl (f : Int))] (G, I, P) = some (some (.inl v), (G, I1, P)) ∧ CE G I1 P 139 (ssd ρ n cl c1 f how) n cl ∧ LOs I1 ∧ DFK I I1 139 157 := by
  obtain ⟨nx, u, a, b, c, e⟩ := hL
  obtain ⟨I1, w1, w2, w3, w4⟩ := k_engage_s (d := d) hS hE hf1 c a e b
  subst hh
  rw [ssd_2]
  exact ⟨_, I1, w1, w2, LOs_k b w3, w4⟩
theorem k_smaS {d : Nat} {G : am_G} {I : Nat → Nat → Int} {P : Nat → Nat → Option Nat} (hS : ST G P) {ρ : Nat → Int} {n : Nat} {cl : Nat → Cl} (hE : CE G I P 139 ρ n cl) (hL : LOs I) {c1 f : Nat} (hf1 : (f : Int) < ρ 1) {how : Nat} (hh : how = 3) : ∃ v I1, am_call am_B am_M (d + 3) 24 [(.inr (.inr (some 156))), (.inl (ρ (42 + f)))] (G, I, P) = some (some (.inl v), (G, I1, P)) ∧ CE G I1 P 139 (ssd ρ n cl c1 f how) n cl ∧ LOs I1 ∧ DFK I I1 139 157 := by
  obtain ⟨nx, u, a, b, c, e⟩ := hL
  have n1 := RW_n1 hE.2.1
  have hb := RW_by hE.2.1 f (by omega)
  obtain ⟨I1, w1, w2, w3, w4⟩ := k_smash_s (d := d) hS hE (b := (ρ (42 + f)).toNat) (by omega) c a e b
  rw [Int.toNat_of_nonneg hb.1] at w1
  subst hh
  rw [ssd_3]
  exact ⟨_, I1, w1, w2, LOs_k b w3, w4⟩
theorem k_nigS {d : Nat} {G : am_G} {I : Nat → Nat → Int} {P : Nat → Nat → Option Nat} (hS : ST G P) {ρ : Nat → Int} {n : Nat} {cl : Nat → Cl} (hE : CE G I P 139 ρ n cl) (hL : LOs I) (h9 : ρ 5 < 999) (ht1 : I 1 0 = 999) : ∃ v I1, am_call am_B am_M (d + 5) 25 [(.inr (.inr (some 156)))] (G, I, P) = some (some (.inl v), (G, I1, P)) ∧ CE G I1 P 139 (m_pass ρ n cl) n cl ∧ LOs I1 ∧ DFK I I1 139 157 := by
  obtain ⟨nx, u, a, b, c, e⟩ := hL
  obtain ⟨I1, w1, w2, w3, w4⟩ := k_night_s (d := d) hS hE h9 ht1 c a e b
  exact ⟨_, I1, w1, w2, LOs_k b w3, w4⟩
/-- what a season leaves as it was -/
def SFK (I J : Nat → Nat → Int) : Prop := ∀ q k, ¬ q = 89 → ¬ q = 90 → ¬ (139 ≤ q ∧ q ≤ 154) → ¬ (157 ≤ q ∧ q ≤ 160) → ¬ (q = 121 ∧ k = 4) → J q k = I q k
theorem SFK_d {I J K : Nat → Nat → Int} (h : SFK I J) (h2 : DFK J K 139 157) : SFK I K := fun q k a b c d e => (h2 q k d a b c).trans (h q k a b c d e)
theorem SFK_w {I J : Nat → Nat → Int} {v : Int} (h : SFK I J) : SFK I (am_u2 J 121 4 v) := fun q k a b c d e => (u2_o e).trans (h q k a b c d e)
theorem CE_121 {G : am_G} {I : Nat → Nat → Int} {P : Nat → Nat → Option Nat} {ρ : Nat → Int} {n : Nat} {cl : Nat → Cl} {v : Int} (h : CE G I P 139 ρ n cl) : CE G (am_u2 I 121 4 v) P 139 ρ n cl := CE_set h (CC_fr h.1 (fun q k a b _ => u2_q (by omega))) h.2.1 rfl (fun q k h => u2_q (by omega))
theorem LOs_121 {I : Nat → Nat → Int} {v : Int} (h : LOs I) : LOs (am_u2 I 121 4 v) := LOs_fr h (u2_q (by decide)) (u2_q (by decide))
def SzK (G : am_G) (P : Nat → Nat → Option Nat) (I J : Nat → Nat → Int) (ρ : Nat → Int) (n : Nat) (cl : Nat → Cl) (i : Nat) (s : Sz) : Prop := CE G J P 139 s.1 n cl ∧ SzI ρ n cl i s ∧ J 121 4 = s.2.1 ∧ LOs J ∧ SFK I J
theorem k_runS {d : Nat} {G : am_G} {I : Nat → Nat → Int} {P : Nat → Nat → Option Nat} (hS : ST G P) {ρ : Nat → Int} {n : Nat} {cl : Nat → Cl} (hE : CE G I P 65 ρ n cl) (hN : TN G P 65) (h59 : ρ 5 ≤ 999) {seed : Int} {k : Nat} (hk : k ≤ 60) (hs0 : 0 ≤ seed ∧ seed ≤ 1000000) (h00 : 0 < ρ 0) (h01 : 0 < ρ 1) (hLN : LawNow ρ n cl) (hBN : BarN n cl) (hLO : LOs I) (ht1 : I 1 0 = 999) : ∃ I1 P1, am_call am_B am_M (d + 6) 59 [(.inr (.inr (some 121))), (.inr (.inr (some 65))), (.inl seed), (.inl (k : Int))] (G, I, P) = some (some (.inl (ssn ρ n cl seed (snk ρ k)).2.2), (G, I1, P1)) ∧ (ST G P1 ∧ CC I1 139 (ssn ρ n cl seed (snk ρ k)).1 ∧ SzI ρ n cl (snk ρ k) (ssn ρ n cl seed (snk ρ k)) ∧ LOs I1 ∧ SFK I I1 ∧ (∀ q k, ¬ q = 155 → P1 q k = P q k) ∧ (∀ j, j < 6 → P1 155 j = P 81 j)) := by
  have w : am_ex (am_call am_B am_M (d + 5)) (am_B 59) (am_B 59 0) [some (.inr (.inr (some 121))), some (.inr (.inr (some 65))), some (.inl seed), some (.inl (k : Int)), none, none, none, none, none] [] (G, I, P) (fun o => ∃ I1 P1, o = (some (.inl (ssn ρ n cl seed (snk ρ k)).2.2), (G, I1, P1)) ∧ (ST G P1 ∧ CC I1 139 (ssn ρ n cl seed (snk ρ k)).1 ∧ SzI ρ n cl (snk ρ k) (ssn ρ n cl seed (snk ρ k)) ∧ LOs I1 ∧ SFK I I1 ∧ (∀ q k, ¬ q = 155 → P1 q k = P q k) ∧ (∀ j, j < 6 → P1 155 j = P 81 j))) := by
    refine (ex_6_0 (ix_41r (sh_121 hS) (pt_121_2 hS) (ex_6_1 ?_)))
    obtain ⟨JC, P1, eC, hcC, h6C, fC, fP⟩ := k_copy (d := d + 3) hS cq139 cq65 (by decide) hN hE.1
    have hS : ST G P1 := ST_tx hS (fun q k _ h => fP q k (h 139 cq139))
    have hEC : CE G JC P1 139 ρ n cl := ⟨hcC, hE.2.1, LWn_cp hE.2.2 (fun q k h => fC q k (by omega)) (fun q k h => fP q k (by omega)) h6C⟩
    refine (ix_46 (S' := []) rfl (sh_139 hS) eC rfl rfl (ex_6_0 (ex_4_2 (ix_42i (sh_121 hS) (ex_0 (ex_7_4 rfl (ex_0 (ex_7_5 rfl (ex_58 ?_)))))))))
    refine ex_forR (b := 1) (σ := Sz) (snk ρ k) (fun i s => sst n cl s) (fun i s J => SzK G P1 I J ρ n cl i s) (fun i s e_i => [some (.inr (.inr (some 121))), some (.inr (.inr (some 65))), some (.inl seed), some (.inl (k : Int)), some (.inl s.2.2), some (.inl (i : Int)), (e_i 6), (e_i 7), (e_i 8)]) ?_ (snk ρ k) (0) ((ρ, seed, 0)) (fun k_ => ([some (.inr (.inr (some 121))), some (.inr (.inr (some 65))), some (.inl seed), some (.inl (k : Int)), some (.inl 0), some (.inl 0), none, none, none] : am_L).getD k_ none) ((am_u2 JC 121 4 seed)) (by omega) (⟨CE_121 hEC, SzI_0 hE.2.1 hLN hs0, u2_e, LOs_121 (LOs_fr hLO (fC _ _ (by decide)) (fC _ _ (by decide))), fun q k a b c d e => (u2_o e).trans (fC q k (by omega))⟩) rfl ?_
    · intro i s e_i J hii hvi hki
      obtain ⟨hEi, hzi, h4i, hLi, hFi⟩ := hvi
      have hzi2 := hzi
      obtain ⟨z1, z2, z3, z4, z5, z6⟩ := hzi
      have hsb := snk_b (n := k) h59
      have hz0 : s.1 0 = ρ 0 := z4 0 (by omega)
      have hz1 : s.1 1 = ρ 1 := z4 1 (by omega)
      have hn0 := RW_n0 z1
      have hn1 := RW_n1 z1
      refine (ex_4_5 (ex_4_3 ?_))
      refine ex_ic3 (fun hc22 => by exfalso; omega) (fun hc22 => ?_)
      refine (ex_6_0 (ix_41r (sh_121 hS) (pt_121_2 hS) (ix_41r (sh_139 hS) (pt_139_14 hS) (ex_0 (ix_30 (j := 0) (v := (s.1 5)) (sh_154 hS) (by decide) (by decide) rfl (CC_te hEi.1 0 (by decide)) (ex_3 (ex_0 (ix_30x (j := 0) (v := 999) (sh_1 hS) (by decide) (by decide) rfl ((hFi 1 0 (by decide) (by decide) (by decide) (by decide) (by decide)).trans ht1) ?_))))))))
      refine ex_ic3 (fun hc39 => by exfalso; omega) (fun hc39 => ?_)
      refine (ex_6_0 (ex_6_0 (ix_41r (sh_121 hS) (pt_121_2 hS) (ix_41i (v := (s.1 0)) (sh_139 hS) (CC_n0 hEi.1) (ix_46 (S' := [(.inl ((scl s) : Int))]) rfl (sh_121 hS) (k_drw hS h4i (by omega) (by omega)) rfl rfl (ex_7_6 rfl (ex_6_0 (ex_6_0 (ix_41r (sh_121 hS) (pt_121_2 hS) (ix_41i (v := (s.1 1)) (sh_139 hS) ((u2_q (by decide)).trans (CC_n1 hEi.1)) (ix_46 (S' := [(.inl ((sfo s) : Int))]) rfl (sh_121 hS) (k_drw hS u2_e dnx_b (by omega)) rfl rfl (ex_7_7 rfl (ex_6_0 (ex_0 ?_))))))))))))))
      have hEd : CE G (am_u2 (am_u2 (am_u2 J 121 4 (dnx s.2.1)) 121 4 (dnx (dnx s.2.1))) 121 4 (dnx (dnx (dnx s.2.1)))) P1 139 s.1 n cl := CE_121 (CE_121 (CE_121 hEi))
      have hLd : LOs (am_u2 (am_u2 (am_u2 J 121 4 (dnx s.2.1)) 121 4 (dnx (dnx s.2.1))) 121 4 (dnx (dnx (dnx s.2.1)))) := LOs_121 (LOs_121 (LOs_121 hLi))
      have hFd : SFK I (am_u2 (am_u2 (am_u2 J 121 4 (dnx s.2.1)) 121 4 (dnx (dnx s.2.1))) 121 4 (dnx (dnx (dnx s.2.1)))) := SFK_w (SFK_w (SFK_w hFi))
      have h4d : (am_u2 (am_u2 (am_u2 J 121 4 (dnx s.2.1)) 121 4 (dnx (dnx s.2.1))) 121 4 (dnx (dnx (dnx s.2.1)))) 121 4 = dnx (dnx (dnx s.2.1)) := u2_e
      have hsc := scl_lt (z := s) (by omega)
      have hsf := sfo_lt (z := s) (by omega)
      have hsh := sho_lt (z := s)
      refine (ix_46 (S' := [(.inl ((sho s) : Int))]) rfl (sh_121 hS) (k_drw hS u2_e dnx_b (by omega)) rfl rfl ?_)
      generalize (am_u2 (am_u2 (am_u2 J 121 4 (dnx s.2.1)) 121 4 (dnx (dnx s.2.1))) 121 4 (dnx (dnx (dnx s.2.1)))) = JD at *
      refine (ex_7_8 rfl (ex_4_8 (ex_0 ?_)))
      refine ex_ic3 (fun hc78 => ?_) (fun hc78 => ?_)
      · refine (ex_4_8 (ex_0 ?_))
        refine ex_ic1 (fun hc111 => ?_) (fun hc111 => ?_)
        · refine (ex_6_0 (ix_41r (sh_121 hS) (pt_121_3 hS) (ex_6_0 (ix_41r (sh_121 hS) (pt_121_2 hS) (ix_41r (sh_139 hS) (pt_139_5 hS) (ex_4_7 (ix_30 (j := (sfo s)) (v := (s.1 (42 + (sfo s)))) (sh_147 hS) (by omega) (by omega) (by omega) (CC_by hEd.1 (sfo s) (by omega)) ?_)))))))
          obtain ⟨vR, JR, eR, hER, hLR, hDR⟩ := k_smaS (d := d + 2) hS hEd hLd (c1 := scl s) (f := sfo s) (how := sho s) (by omega) (by omega)
          have hFR := SFK_d hFd hDR
          have h4R : JR 121 4 = dnx (dnx (dnx s.2.1)) := (hDR 121 4 (by decide) (by decide) (by decide) (by decide)).trans h4d
          refine (ix_46 (S' := [(.inl vR)]) rfl (sh_156 hS) eR rfl rfl (ex_24 rfl (ex_58 (ex_6_0 (ix_41r (sh_121 hS) (pt_121_3 hS) ?_)))))
          have ho5 : ssd s.1 n cl (scl s) (sfo s) (sho s) 5 = s.1 5 := ssd_out (by omega) hsh (by omega)
          obtain ⟨vN, JN, eN, hEN, hLN2, hDN⟩ := k_nigS (d := d) hS hER hLR (by omega) ((hFR 1 0 (by decide) (by decide) (by decide) (by decide) (by decide)).trans ht1)
          have hFN := SFK_d hFR hDN
          have h4N : JN 121 4 = dnx (dnx (dnx s.2.1)) := (hDN 121 4 (by decide) (by decide) (by decide) (by decide)).trans h4R
          refine (ix_46 (S' := [(.inl vN)]) rfl (sh_156 hS) eN rfl rfl (ex_24 rfl (ex_10_5 ⟨by omega, by omega⟩ rfl (ex_28 ?_))))
          have hst : sst n cl s = (m_pass (ssd s.1 n cl (scl s) (sfo s) (sho s)) n cl, dnx (dnx (dnx s.2.1)), s.2.2 + srg s.1 n cl (scl s) (sfo s) (sho s)) := by unfold sst; rw [if_pos (by omega)]
          have hnx := SzI_s hzi2 h00 h01 (by omega)
          have hsg : s.2.2 = s.2.2 + srg s.1 n cl (scl s) (sfo s) (sho s) := by
            rw [srg_f (fun z => absurd z.1 (by omega))]; omega
          rw [hsg]
          rw [hst] at hnx
          exact hki ((m_pass (ssd s.1 n cl (scl s) (sfo s) (sho s)) n cl, dnx (dnx (dnx s.2.1)), s.2.2 + srg s.1 n cl (scl s) (sfo s) (sho s))) (fun k_ => ([some (.inr (.inr (some 121))), some (.inr (.inr (some 65))), some (.inl seed), some (.inl (k : Int)), some (.inl (s.2.2 + srg s.1 n cl (scl s) (sfo s) (sho s))), some (.inl ((i : Int) + 1)), some (.inl ((scl s) : Int)), some (.inl ((sfo s) : Int)), some (.inl ((sho s) : Int))] : am_L).getD k_ none) _ (hst.symm) (⟨hEN, hnx, h4N, hLN2, hFN⟩)
        · refine (ex_6_0 (ix_41r (sh_121 hS) (pt_121_3 hS) (ex_4_7 ?_)))
          obtain ⟨vR, JR, eR, hER, hLR, hDR⟩ := k_engS (d := d + 3) hS hEd hLd (c1 := scl s) (f := sfo s) (how := sho s) (by omega) (by omega)
          have hFR := SFK_d hFd hDR
          have h4R : JR 121 4 = dnx (dnx (dnx s.2.1)) := (hDR 121 4 (by decide) (by decide) (by decide) (by decide)).trans h4d
          refine (ix_46 (S' := [(.inl vR)]) rfl (sh_156 hS) eR rfl rfl (ex_24 rfl (ex_28 (ex_6_0 (ix_41r (sh_121 hS) (pt_121_3 hS) ?_)))))
          have ho5 : ssd s.1 n cl (scl s) (sfo s) (sho s) 5 = s.1 5 := ssd_out (by omega) hsh (by omega)
          obtain ⟨vN, JN, eN, hEN, hLN2, hDN⟩ := k_nigS (d := d) hS hER hLR (by omega) ((hFR 1 0 (by decide) (by decide) (by decide) (by decide) (by decide)).trans ht1)
          have hFN := SFK_d hFR hDN
          have h4N : JN 121 4 = dnx (dnx (dnx s.2.1)) := (hDN 121 4 (by decide) (by decide) (by decide) (by decide)).trans h4R
          refine (ix_46 (S' := [(.inl vN)]) rfl (sh_156 hS) eN rfl rfl (ex_24 rfl (ex_10_5 ⟨by omega, by omega⟩ rfl (ex_28 ?_))))
          have hst : sst n cl s = (m_pass (ssd s.1 n cl (scl s) (sfo s) (sho s)) n cl, dnx (dnx (dnx s.2.1)), s.2.2 + srg s.1 n cl (scl s) (sfo s) (sho s)) := by unfold sst; rw [if_pos (by omega)]
          have hnx := SzI_s hzi2 h00 h01 (by omega)
          have hsg : s.2.2 = s.2.2 + srg s.1 n cl (scl s) (sfo s) (sho s) := by
            rw [srg_f (fun z => absurd z.1 (by omega))]; omega
          rw [hsg]
          rw [hst] at hnx
          exact hki ((m_pass (ssd s.1 n cl (scl s) (sfo s) (sho s)) n cl, dnx (dnx (dnx s.2.1)), s.2.2 + srg s.1 n cl (scl s) (sfo s) (sho s))) (fun k_ => ([some (.inr (.inr (some 121))), some (.inr (.inr (some 65))), some (.inl seed), some (.inl (k : Int)), some (.inl (s.2.2 + srg s.1 n cl (scl s) (sfo s) (sho s))), some (.inl ((i : Int) + 1)), some (.inl ((scl s) : Int)), some (.inl ((sfo s) : Int)), some (.inl ((sho s) : Int))] : am_L).getD k_ none) _ (hst.symm) (⟨hEN, hnx, h4N, hLN2, hFN⟩)
      · refine (ex_4_4 (ex_6_0 (ix_41r (sh_121 hS) (pt_121_3 hS) (ex_4_6 (ex_4_7 ?_)))))
        obtain ⟨vR, JR, eR, hyes, hno, hER, hLR, hDR⟩ := k_ringS (d := d) hS hEd hLd (c1 := scl s) (f := sfo s) (how := sho s) (by omega) (by omega) hBN (by omega)
        have hFR := SFK_d hFd hDR
        have h4R : JR 121 4 = dnx (dnx (dnx s.2.1)) := (hDR 121 4 (by decide) (by decide) (by decide) (by decide)).trans h4d
        refine (ix_46 (S' := [(.inl vR), (.inl s.2.2)]) rfl (sh_156 hS) eR rfl rfl ?_)
        refine ex_if2 (fun hc94 => ?_) (fun hc94 => ?_)
        · refine (ex_0 (ex_58 (ex_add ⟨by omega, by omega⟩ (ex_7_4 rfl (ex_28 (ex_6_0 (ix_41r (sh_121 hS) (pt_121_3 hS) ?_)))))))
          have ho5 : ssd s.1 n cl (scl s) (sfo s) (sho s) 5 = s.1 5 := ssd_out (by omega) hsh (by omega)
          obtain ⟨vN, JN, eN, hEN, hLN2, hDN⟩ := k_nigS (d := d) hS hER hLR (by omega) ((hFR 1 0 (by decide) (by decide) (by decide) (by decide) (by decide)).trans ht1)
          have hFN := SFK_d hFR hDN
          have h4N : JN 121 4 = dnx (dnx (dnx s.2.1)) := (hDN 121 4 (by decide) (by decide) (by decide) (by decide)).trans h4R
          refine (ix_46 (S' := [(.inl vN)]) rfl (sh_156 hS) eN rfl rfl (ex_24 rfl (ex_10_5 ⟨by omega, by omega⟩ rfl (ex_28 ?_))))
          have hst : sst n cl s = (m_pass (ssd s.1 n cl (scl s) (sfo s) (sho s)) n cl, dnx (dnx (dnx s.2.1)), s.2.2 + srg s.1 n cl (scl s) (sfo s) (sho s)) := by unfold sst; rw [if_pos (by omega)]
          have hnx := SzI_s hzi2 h00 h01 (by omega)
          have hsg : (s.2.2 + 0) = s.2.2 + srg s.1 n cl (scl s) (sfo s) (sho s) := by
            rw [srg_f (fun z => absurd (hyes z.2) (by omega))]
          rw [hsg]
          rw [hst] at hnx
          exact hki ((m_pass (ssd s.1 n cl (scl s) (sfo s) (sho s)) n cl, dnx (dnx (dnx s.2.1)), s.2.2 + srg s.1 n cl (scl s) (sfo s) (sho s))) (fun k_ => ([some (.inr (.inr (some 121))), some (.inr (.inr (some 65))), some (.inl seed), some (.inl (k : Int)), some (.inl (s.2.2 + srg s.1 n cl (scl s) (sfo s) (sho s))), some (.inl ((i : Int) + 1)), some (.inl ((scl s) : Int)), some (.inl ((sfo s) : Int)), some (.inl ((sho s) : Int))] : am_L).getD k_ none) _ (hst.symm) (⟨hEN, hnx, h4N, hLN2, hFN⟩)
        · refine (ex_0 (ex_28 (ex_add ⟨by omega, by omega⟩ (ex_7_4 rfl (ex_28 (ex_6_0 (ix_41r (sh_121 hS) (pt_121_3 hS) ?_)))))))
          have ho5 : ssd s.1 n cl (scl s) (sfo s) (sho s) 5 = s.1 5 := ssd_out (by omega) hsh (by omega)
          obtain ⟨vN, JN, eN, hEN, hLN2, hDN⟩ := k_nigS (d := d) hS hER hLR (by omega) ((hFR 1 0 (by decide) (by decide) (by decide) (by decide) (by decide)).trans ht1)
          have hFN := SFK_d hFR hDN
          have h4N : JN 121 4 = dnx (dnx (dnx s.2.1)) := (hDN 121 4 (by decide) (by decide) (by decide) (by decide)).trans h4R
          refine (ix_46 (S' := [(.inl vN)]) rfl (sh_156 hS) eN rfl rfl (ex_24 rfl (ex_10_5 ⟨by omega, by omega⟩ rfl (ex_28 ?_))))
          have hst : sst n cl s = (m_pass (ssd s.1 n cl (scl s) (sfo s) (sho s)) n cl, dnx (dnx (dnx s.2.1)), s.2.2 + srg s.1 n cl (scl s) (sfo s) (sho s)) := by unfold sst; rw [if_pos (by omega)]
          have hnx := SzI_s hzi2 h00 h01 (by omega)
          have hsg : (s.2.2 + 1) = s.2.2 + srg s.1 n cl (scl s) (sfo s) (sho s) := by
            rw [srg_t (by omega) (Classical.byContradiction fun z => absurd (hno z) (by omega))]
          rw [hsg]
          rw [hst] at hnx
          exact hki ((m_pass (ssd s.1 n cl (scl s) (sfo s) (sho s)) n cl, dnx (dnx (dnx s.2.1)), s.2.2 + srg s.1 n cl (scl s) (sfo s) (sho s))) (fun k_ => ([some (.inr (.inr (some 121))), some (.inr (.inr (some 65))), some (.inl seed), some (.inl (k : Int)), some (.inl (s.2.2 + srg s.1 n cl (scl s) (sfo s) (sho s))), some (.inl ((i : Int) + 1)), some (.inl ((scl s) : Int)), some (.inl ((sfo s) : Int)), some (.inl ((sho s) : Int))] : am_L).getD k_ none) _ (hst.symm) (⟨hEN, hnx, h4N, hLN2, hFN⟩)
    · intro s e_i J hsi hvi
      obtain ⟨hEi, hzi, h4i, hLi, hFi⟩ := hvi
      have hzi2 := hzi
      obtain ⟨z1, z2, z3, z4, z5, z6⟩ := hzi
      have hsb := snk_b (n := k) h59
      have hz0 : s.1 0 = ρ 0 := z4 0 (by omega)
      have hz1 : s.1 1 = ρ 1 := z4 1 (by omega)
      have hn0 := RW_n0 z1
      have hn1 := RW_n1 z1
      refine (ex_4_5 (ex_4_3 ?_))
      refine ex_ic3 (fun hc22 => ?_) (fun hc22 => ?_)
      · refine (ex_4_4 ?_)
        exact ex_53 ⟨_, _, (by rw [hsi]; rfl), hS, (by unfold ssn; rw [← hsi]; exact hEi.1), (by unfold ssn; rw [← hsi]; exact hzi2), hLi, hFi, fP, h6C⟩
      · refine (ex_6_0 (ix_41r (sh_121 hS) (pt_121_2 hS) (ix_41r (sh_139 hS) (pt_139_14 hS) (ex_0 (ix_30 (j := 0) (v := (s.1 5)) (sh_154 hS) (by decide) (by decide) rfl (CC_te hEi.1 0 (by decide)) (ex_3 (ex_0 (ix_30x (j := 0) (v := 999) (sh_1 hS) (by decide) (by decide) rfl ((hFi 1 0 (by decide) (by decide) (by decide) (by decide) (by decide)).trans ht1) ?_))))))))
        refine ex_ic3 (fun hc39 => ?_) (fun hc39 => by exfalso; omega)
        refine (ex_4_4 ?_)
        exact ex_53 ⟨_, _, (by rw [hsi]; rfl), hS, (by unfold ssn; rw [← hsi]; exact hEi.1), (by unfold ssn; rw [← hsi]; exact hzi2), hLi, hFi, fP, h6C⟩
  obtain ⟨o, e, I1, P1, rfl, h⟩ := am_doQ (as := [(.inr (.inr (some 121))), (.inr (.inr (some 65))), (.inl seed), (.inl (k : Int))]) (Nat.le_of_ble_eq_true rfl) rfl w
  exact ⟨I1, P1, e, h⟩
