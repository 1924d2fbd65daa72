/-! ===== the class: orders(), wholly or not at all ===== -/
theorem k_lin {d : Nat} {G : am_G} {I : Nat → Nat → Int} {P : Nat → Nat → Option Nat} {Q : am_O → Prop} (hS : ST G P) {n m zz : Nat} {cl : Nat → Cl} {c : Nat → Oc} {ρ : Nat → Int} (hD : DRF I m zz c) (hBN : BarN n cl) (ht1 : I 1 0 = 999) (hT : ∀ j, j < m → (c j).2.2.2.1 ≤ 20) {i : Nat} (hi : i < m) : ∀ (k t : Nat) (J : Nat → Nat → Int) (z : Od), t + k = (c i).2.2.2.1 → KOI G P J n cl z → OzI ρ (20 * i + t) z → OFK I J → (oT n cl (c i) k z = none → ∀ x K, OFK I K → am_ex (am_call am_B am_M (d + 7)) (am_B 50) (am_B 50 5) [some (.inr (.inr (some 92))), some (.inr (.inr (some 162))), some (.inl (i : Int)), x] [] (G, K, P) Q) → (∀ z2, oT n cl (c i) k z = some z2 → ∀ K, KOI G P K n cl z2 → OzI ρ (20 * i + (c i).2.2.2.1) z2 → OFK I K → am_ex (am_call am_B am_M (d + 7)) (am_B 50) (am_B 50 7) [some (.inr (.inr (some 92))), some (.inr (.inr (some 162))), some (.inl (i : Int)), some (.inl ((c i).2.2.2.1 : Int))] [] (G, K, P) Q) → am_ex (am_call am_B am_M (d + 7)) (am_B 50) (am_B 50 3) [some (.inr (.inr (some 92))), some (.inr (.inr (some 162))), some (.inl (i : Int)), some (.inl (t : Int))] [] (G, J, P) Q := by
  have hm12 := hD.2.1
  have hTi := hT i hi
  intro k
  induction k with
  | zero =>
    intro t J z ht hK hZ hF h0 h1
    have hti : (t : Int) = ((c i).2.2.2.1 : Int) := by omega
    refine (ex_4_3 (ex_6_1 (ix_41r (sh_162 hS) (pt_162_3 hS) (ex_4_2 (ix_30 (j := i) (v := (((c i).2.2.2.1) : Int)) (sh_166 hS) (by omega) (by omega) (by omega) ((hF 166 i (by decide) (by decide) (by decide) (by decide) (by decide) (by decide) (by omega)).trans (hD.2.2.2.2.2 i hi).2.2.2.2.1) ?_)))))
    refine ex_ic3 (fun hc57 => ?_) (fun hc57 => by exfalso; omega)
    rw [hti]
    exact h1 z rfl J hK (OzI_mono hZ (by omega)) hF
  | succ k ih =>
    intro t J z ht hK hZ hF h0 h1
    have hDJ : DRF J m zz c := DRF_fr hD (fun q k h1 h2 => hF q k (by omega) (by omega) (by omega) (by omega) (by omega) (by omega) (by omega))
    have htJ : J 1 0 = 999 := (hF _ _ (by decide) (by decide) (by decide) (by decide) (by decide) (by decide) (by decide)).trans ht1
    obtain ⟨o_, eo, qo⟩ := k_once (d := d) hS hDJ hi hK hBN htJ hZ (by omega)
    cases hr : orun n cl (c i) z with
    | none =>
      rw [hr] at qo
      obtain ⟨K, rfl, fK⟩ := qo
      refine (ex_4_3 (ex_6_1 (ix_41r (sh_162 hS) (pt_162_3 hS) (ex_4_2 (ix_30 (j := i) (v := (((c i).2.2.2.1) : Int)) (sh_166 hS) (by omega) (by omega) (by omega) ((hF 166 i (by decide) (by decide) (by decide) (by decide) (by decide) (by decide) (by omega)).trans (hD.2.2.2.2.2 i hi).2.2.2.2.1) ?_)))))
      refine ex_ic3 (fun hc57 => by exfalso; omega) (fun hc57 => ?_)
      refine (ex_6_0 (ex_6_1 (ex_4_2 (ix_46 (S' := [(.inl 0)]) rfl (sh_92 hS) eo rfl rfl (ex_if1 (fun hc => by exfalso; revert hc; decide) (fun _ => ?_))))))
      exact h0 (oT_n hr) _ K (OFK_trans hF fK)
    | some z2 =>
      rw [hr] at qo
      obtain ⟨K, rfl, iK, fK⟩ := qo
      have hZ2 := OzI_run (hDJ.2.2.2.2.2 i hi).2.1 hZ hr
      refine (ex_4_3 (ex_6_1 (ix_41r (sh_162 hS) (pt_162_3 hS) (ex_4_2 (ix_30 (j := i) (v := (((c i).2.2.2.1) : Int)) (sh_166 hS) (by omega) (by omega) (by omega) ((hF 166 i (by decide) (by decide) (by decide) (by decide) (by decide) (by decide) (by omega)).trans (hD.2.2.2.2.2 i hi).2.2.2.2.1) ?_)))))
      refine ex_ic3 (fun hc57 => by exfalso; omega) (fun hc57 => ?_)
      refine (ex_6_0 (ex_6_1 (ex_4_2 (ix_46 (S' := [(.inl 1)]) rfl (sh_92 hS) eo rfl rfl (ex_if1 (fun _ => ?_) (fun hc => by exfalso; revert hc; decide))))))
      refine (ex_10_3 ⟨by omega, by omega⟩ rfl (ex_28 ?_))
      exact ih (t + 1) K z2 (by omega) iK hZ2 (OFK_trans hF fK) (fun e => h0 ((oT_s hr).trans e)) (fun z3 e => h1 z3 ((oT_s hr).trans e))
theorem k_lout {d : Nat} {G : am_G} {I : Nat → Nat → Int} {P : Nat → Nat → Option Nat} {Q : am_O → Prop} (hS : ST G P) {n m zz : Nat} {cl : Nat → Cl} {c : Nat → Oc} {ρ : Nat → Int} (hD : DRF I m zz c) (hBN : BarN n cl) (ht1 : I 1 0 = 999) (hT : ∀ j, j < m → (c j).2.2.2.1 ≤ 20) : ∀ (k i : Nat) (J : Nat → Nat → Int) (z : Od) (e3 : Option am_V), i + k = m → KOI G P J n cl z → OzI ρ (20 * i) z → OFK I J → (∀ i2, oW n cl c k i z = .inl i2 → i2 < m → ∀ x K, OFK I K → am_ex (am_call am_B am_M (d + 7)) (am_B 50) (am_B 50 5) [some (.inr (.inr (some 92))), some (.inr (.inr (some 162))), some (.inl (i2 : Int)), x] [] (G, K, P) Q) → (∀ z2, oW n cl c k i z = .inr z2 → ∀ x K, KOI G P K n cl z2 → OzI ρ 240 z2 → OFK I K → am_ex (am_call am_B am_M (d + 7)) (am_B 50) (am_B 50 8) [some (.inr (.inr (some 92))), some (.inr (.inr (some 162))), some (.inl (m : Int)), x] [] (G, K, P) Q) → am_ex (am_call am_B am_M (d + 7)) (am_B 50) (am_B 50 1) [some (.inr (.inr (some 92))), some (.inr (.inr (some 162))), some (.inl (i : Int)), e3] [] (G, J, P) Q := by
  have hm12 := hD.2.1
  intro k
  induction k with
  | zero =>
    intro i J z e3 hi hK hZ hF h0 h1
    refine (ex_4_2 (ex_6_1 (ix_41i (v := (m : Int)) (sh_162 hS) ((hF 162 5 (by decide) (by decide) (by decide) (by decide) (by decide) (by decide) (by decide)).trans hD.1) ?_)))
    refine ex_ic3 (fun hc45 => ?_) (fun hc45 => by exfalso; omega)
    have him : i = m := by omega
    subst him
    exact h1 z rfl e3 J hK (OzI_mono hZ (by omega)) hF
  | succ k ih =>
    intro i J z e3 hi hK hZ hF h0 h1
    have hT20 := hT i (by omega)
    refine (ex_4_2 (ex_6_1 (ix_41i (v := (m : Int)) (sh_162 hS) ((hF 162 5 (by decide) (by decide) (by decide) (by decide) (by decide) (by decide) (by decide)).trans hD.1) ?_)))
    refine ex_ic3 (fun hc45 => by exfalso; omega) (fun hc45 => ?_)
    refine (ex_0 (ex_7_3 rfl (ex_58 ?_)))
    refine k_lin (d := d) hS hD hBN ht1 hT (i := i) (by omega) (c i).2.2.2.1 0 J z (by omega) hK hZ hF (fun e x K fK => h0 i (oW_n e) (by omega) x K fK) (fun z2 e K iK hZ2 fK => ?_)
    refine (ex_10_2 ⟨by omega, by omega⟩ rfl (ex_28 ?_))
    exact ih (i + 1) K z2 _ (by omega) iK (OzI_mono hZ2 (by omega)) fK (fun i2 e2 => h0 i2 ((oW_s e).trans e2)) (fun z3 e2 => h1 z3 ((oW_s e).trans e2))
theorem cq93 : CQ 93 := Or.inr (Or.inl rfl)
/-- what runWhole leaves alone -/
def WFK (I J : Nat → Nat → Int) : Prop := ∀ q k, ¬ (65 ≤ q ∧ q ≤ 80) → ¬ (84 ≤ q ∧ q ≤ 87) → ¬ q = 89 → ¬ q = 90 → ¬ (93 ≤ q ∧ q ≤ 108) → ¬ (110 ≤ q ∧ q ≤ 115) → ¬ (q = 92 ∧ (k = 5 ∨ k = 6 ∨ k = 7)) → J q k = I q k
def KWr (G : am_G) (P : Nat → Nat → Option Nat) (I : Nat → Nat → Int) (ρ : Nat → Int) (lg : List De) (m : Nat) (r : Nat ⊕ Od) (o : am_O) : Prop := match r with
  | .inl i => ∃ I1 P1, o = (some (.inl 0), (G, I1, P1)) ∧ ST G P1 ∧ i < m ∧ I1 92 7 = (i : Int) ∧ CC I1 65 ρ ∧ CLg I1 lg ∧ (∀ j, j < 6 → P1 81 j = P 81 j) ∧ (∀ q k, ¬ q = 81 → ¬ q = 109 → P1 q k = P q k) ∧ WFK I I1
  | .inr z => ∃ I1 P1, o = (some (.inl 1), (G, I1, P1)) ∧ ST G P1 ∧ I1 92 5 = z.2.1 ∧ I1 92 7 = I 92 7 ∧ CC I1 65 z.1.1 ∧ CLg I1 z.1.2 ∧ OzI ρ 240 z ∧ (∀ q k, ¬ q = 109 → P1 q k = P q k) ∧ WFK I I1
theorem CLg_cp {I J : Nat → Nat → Int} {l : List De} (h : CLg I l) (h5 : ∀ j, j < 16 → J 85 j = I 85 j) (h6 : ∀ j, j < 16 → J 86 j = I 86 j) (h7 : ∀ j, j < 16 → J 87 j = I 87 j) (h3 : J 84 3 = I 84 3) (h4 : J 84 4 = I 84 4) : CLg J l := by
  obtain ⟨a, b, nx, e, f, g⟩ := h
  refine ⟨a, h4.trans b, nx, e, h3.trans f, fun i hi => ?_⟩
  rw [h5 _ (Nat.mod_lt _ (by decide)), h6 _ (Nat.mod_lt _ (by decide)), h7 _ (Nat.mod_lt _ (by decide))]
  exact g i hi
theorem k_rw2 {d : Nat} {G : am_G} {I : Nat → Nat → Int} {P : Nat → Nat → Option Nat} {P1 : Nat → Nat → Option Nat} {J0 : Nat → Nat → Int} (hS : ST G P1) {n m zz : Nat} {cl : Nat → Cl} {c : Nat → Oc} {ρ : Nat → Int} {lg : List De} (hE : CE G I P 65 ρ n cl) (hL : CLg I lg) (hN : TN G P 65) (hD0 : DRF J0 m zz c) (hBN : BarN n cl) (ht0 : J0 1 0 = 999) (hT : ∀ j, j < m → (c j).2.2.2.1 ≤ 20) (hK0 : KOI G P1 J0 n cl ((ρ, lg), 0, -1)) (hZ0 : OzI ρ (20 * 0) ((ρ, lg), 0, -1)) (c93 : CC J0 93 ρ) (g5 : ∀ j, j < 16 → J0 111 j = I 85 j) (g6 : ∀ j, j < 16 → J0 112 j = I 86 j) (g7 : ∀ j, j < 16 → J0 113 j = I 87 j) (g3 : J0 110 3 = I 84 3) (g4 : J0 110 4 = I 84 4) (fI : ∀ q k, ¬ (93 ≤ q ∧ q ≤ 108) → ¬ (110 ≤ q ∧ q ≤ 113) → ¬ (q = 92 ∧ (k = 5 ∨ k = 6)) → J0 q k = I q k) (fP : ∀ q k, ¬ q = 93 + 16 → P1 q k = P q k) (h6C : ∀ j, j < 6 → P1 (93 + 16) j = P (65 + 16) j) {e3 : Option am_V} : am_ex (am_call am_B am_M (d + 7)) (am_B 50) (am_B 50 1) [some (.inr (.inr (some 92))), some (.inr (.inr (some 162))), some (.inl ((0 : Nat) : Int)), e3] [] (G, J0, P1) (KWr G P I ρ lg m (oW n cl c m 0 ((ρ, lg), 0, -1))) := by
  have hN93 : TN G P1 93 := fun k hk => by rw [h6C k hk]; exact hN k hk
  have hE0 := hE
  refine k_lout (d := d) hS hD0 hBN ht0 hT m 0 J0 _ e3 (by omega) hK0 hZ0 OFK_refl (fun i2 e2 hi2 x K fK => ?_) (fun z2 e2 x K iK hZ2 fK => ?_)
  · have hi12 := hD0.2.1
    refine (ex_6_0 (ex_4_2 (ix_42i (sh_92 hS) (ex_6_0 (ix_41r (sh_92 hS) (pt_92_0 hS) (ix_41r (sh_91 hS) (pt_91_0 hS) (ex_6_0 (ix_41r (sh_92 hS) (pt_92_1 hS) ?_))))))))
    have hKr : ∀ q k, 93 ≤ q → q ≤ 113 → K q k = J0 q k := fun q k a b => fK q k (by omega) (by omega) (by omega) (by omega) (by omega) (by omega) (by omega)
    obtain ⟨JD, P2, eD, hcD, h6D, fD, fQ⟩ := k_copy (d := d + 5) hS cq65 cq93 (by decide) hN93 (I := (am_u2 K 92 7 (i2 : Int))) (CC_fr c93 (fun q k a b _ => (u2_q (by omega)).trans (hKr q k (by omega) (by omega))))
    have hS2 : ST G P2 := ST_tx hS (fun q k _ h => fQ q k (h 65 cq65))
    refine (ix_46 (S' := []) rfl (sh_65 hS) eD rfl rfl (ex_6_0 (ix_41r (sh_92 hS2) (pt_92_0 hS2) (ix_41r (sh_91 hS2) (pt_91_1 hS2) (ex_6_0 (ix_41r (sh_92 hS2) (pt_92_2 hS2) ?_))))))
    obtain ⟨JE, eE, m5, m6, m7, m3, m4, fE⟩ := k_logCopy_84 (d := d + 6) (I := JD) hS2
    refine (ix_46 (S' := []) rfl (sh_84 hS2) eE rfl rfl (ex_0 ?_))
    exact ex_57 (by decide) (by rw [e2]; exact ⟨JE, P2, rfl, hS2, hi2, (fE _ _ (by decide)).trans ((fD _ _ (by decide)).trans u2_e), CC_fr hcD (fun q k a b _ => fE q k (by omega)), CLg_cp hL (fun j hj => (m5 j hj).trans ((fD _ _ (by decide)).trans ((u2_q (by decide)).trans ((hKr _ _ (by decide) (by decide)).trans (g5 j hj))))) (fun j hj => (m6 j hj).trans ((fD _ _ (by decide)).trans ((u2_q (by decide)).trans ((hKr _ _ (by decide) (by decide)).trans (g6 j hj))))) (fun j hj => (m7 j hj).trans ((fD _ _ (by decide)).trans ((u2_q (by decide)).trans ((hKr _ _ (by decide) (by decide)).trans (g7 j hj))))) (m3.trans ((fD _ _ (by decide)).trans ((u2_q (by decide)).trans ((hKr _ _ (by decide) (by decide)).trans g3)))) (m4.trans ((fD _ _ (by decide)).trans ((u2_q (by decide)).trans ((hKr _ _ (by decide) (by decide)).trans g4)))), fun j hj => (h6D j hj).trans (h6C j hj), fun q k a b => (fQ q k a).trans (fP q k b), fun q k a1 a2 a3 a4 a5 a6 a7 => (fE q k (by omega)).trans ((fD q k (by omega)).trans ((u2_o (by omega)).trans ((fK q k a1 a2 a3 a4 (by omega) (by omega) (by omega)).trans (fI q k a5 (by omega) (by omega)))))⟩)
  · skip
    refine (ex_0 ?_)
    exact ex_57 (by decide) (by rw [e2]; exact ⟨K, P1, rfl, hS, iK.2.2.1, (fK 92 7 (by decide) (by decide) (by decide) (by decide) (by decide) (by decide) (by decide)).trans (fI _ _ (by decide) (by decide) (by decide)), iK.1.1, iK.2.1, hZ2, fun q k a => fP q k a, fun q k a1 a2 a3 a4 a5 a6 a7 => (fK q k a1 a2 a3 a4 (by omega) (by omega) (by omega)).trans (fI q k a5 (by omega) (by omega))⟩)
theorem k_runW {d : Nat} {G : am_G} {I : Nat → Nat → Int} {P : Nat → Nat → Option Nat} (hS : ST G P) {n m zz : Nat} {cl : Nat → Cl} {c : Nat → Oc} {ρ : Nat → Int} {lg : List De} (hE : CE G I P 65 ρ n cl) (hL : CLg I lg) (hW : WR ρ lg) (hN : TN G P 65) (hD : DRF I m zz c) (hBN : BarN n cl) (ht1 : I 1 0 = 999) (hT : ∀ j, j < m → (c j).2.2.2.1 ≤ 20) : ∃ o, am_call am_B am_M (d + 8) 50 [(.inr (.inr (some 92))), (.inr (.inr (some 162)))] (G, I, P) = some o ∧ (KWr G P I ρ lg m (oW n cl c m 0 ((ρ, lg), 0, -1))) o := by
  refine am_doQ (L := [some (.inr (.inr (some 92))), some (.inr (.inr (some 162))), none, none]) (Nat.le_of_ble_eq_true rfl) rfl ?_
  refine (ex_6_0 (ix_41r (sh_92 hS) (pt_92_1 hS) (ex_6_0 (ix_41r (sh_92 hS) (pt_92_0 hS) (ix_41r (sh_91 hS) (pt_91_0 hS) ?_)))))
  obtain ⟨JC, P1, eC, hcC, h6C, fC, fP⟩ := k_copy (d := d + 5) hS cq93 cq65 (by decide) hN hE.1
  have hS1 : ST G P1 := ST_tx hS (fun q k _ h => fP q k (h 93 cq93))
  refine (ix_46 (S' := []) rfl (sh_93 hS) eC rfl rfl (ex_6_0 (ix_41r (sh_92 hS1) (pt_92_2 hS1) (ex_6_0 (ix_41r (sh_92 hS1) (pt_92_0 hS1) (ix_41r (sh_91 hS1) (pt_91_1 hS1) ?_))))))
  obtain ⟨JL, eL, l5, l6, l7, l3, l4, fL⟩ := k_logCopy_110 (d := d + 6) (I := JC) hS1
  refine (ix_46 (S' := []) rfl (sh_110 hS1) eL rfl rfl (ex_6_0 (ex_0 (ix_42i (sh_92 hS1) (ex_6_0 (ex_0 (ix_42i (sh_92 hS1) (ex_0 (ex_7_2 rfl (ex_58 ?_))))))))))
  have fI : ∀ q k, ¬ (93 ≤ q ∧ q ≤ 108) → ¬ (110 ≤ q ∧ q ≤ 113) → ¬ (q = 92 ∧ (k = 5 ∨ k = 6)) → (am_u2 (am_u2 JL 92 5 0) 92 6 (-1)) q k = I q k := fun q k a b e => (u2_o (by omega)).trans ((u2_o (by omega)).trans ((fL q k (by omega)).trans (fC q k (by omega))))
  have hE0 : CE G (am_u2 (am_u2 JL 92 5 0) 92 6 (-1)) P1 65 ρ n cl := ⟨CC_fr hE.1 (fun q k h1 h2 _ => fI q k (by omega) (by omega) (by omega)), hE.2.1, LWn_cp (b := 65) hE.2.2 (fun q k h => fI q k (by omega) (by omega) (by omega)) (fun q k h => fP q k (by omega)) (fun j hj => fP 81 j (by decide))⟩
  have hK0 : KOI G P1 (am_u2 (am_u2 JL 92 5 0) 92 6 (-1)) n cl ((ρ, lg), 0, -1) := ⟨hE0, CLg_fr hL (fun q k h1 h2 => fI q k (by omega) (by omega) (by omega)), (u2_k (by decide)).trans u2_e, u2_e⟩
  have hZ0 : OzI ρ (20 * 0) ((ρ, lg), 0, -1) := ⟨hW, fun _ _ => rfl, show (0 : Int) ≤ 0 ∧ (0 : Int) ≤ ((20 * 0 : Nat) : Int) from ⟨by decide, by decide⟩, show (-1 : Int) ≤ -1 ∧ (-1 : Int) ≤ 1000 from ⟨by decide, by decide⟩⟩
  have c93 : CC (am_u2 (am_u2 JL 92 5 0) 92 6 (-1)) 93 ρ := CC_fr hcC (fun q k h1 h2 _ => (u2_q (by omega)).trans ((u2_q (by omega)).trans (fL q k (by omega))))
  have g5 : ∀ j, j < 16 → (am_u2 (am_u2 JL 92 5 0) 92 6 (-1)) 111 j = I 85 j := fun j hj => (u2_q (by decide)).trans ((u2_q (by decide)).trans ((l5 j hj).trans (fC _ _ (by decide))))
  have g6 : ∀ j, j < 16 → (am_u2 (am_u2 JL 92 5 0) 92 6 (-1)) 112 j = I 86 j := fun j hj => (u2_q (by decide)).trans ((u2_q (by decide)).trans ((l6 j hj).trans (fC _ _ (by decide))))
  have g7 : ∀ j, j < 16 → (am_u2 (am_u2 JL 92 5 0) 92 6 (-1)) 113 j = I 87 j := fun j hj => (u2_q (by decide)).trans ((u2_q (by decide)).trans ((l7 j hj).trans (fC _ _ (by decide))))
  have g3 : (am_u2 (am_u2 JL 92 5 0) 92 6 (-1)) 110 3 = I 84 3 := (u2_q (by decide)).trans ((u2_q (by decide)).trans (l3.trans (fC _ _ (by decide))))
  have g4 : (am_u2 (am_u2 JL 92 5 0) 92 6 (-1)) 110 4 = I 84 4 := (u2_q (by decide)).trans ((u2_q (by decide)).trans (l4.trans (fC _ _ (by decide))))
  have hD0 : DRF (am_u2 (am_u2 JL 92 5 0) 92 6 (-1)) m zz c := DRF_fr hD (fun q k h1 h2 => fI q k (by omega) (by omega) (by omega))
  have ht0 : (am_u2 (am_u2 JL 92 5 0) 92 6 (-1)) 1 0 = 999 := (fI _ _ (by decide) (by decide) (by decide)).trans ht1
  generalize (am_u2 (am_u2 JL 92 5 0) 92 6 (-1)) = J0 at *
  exact k_rw2 hS1 hE hL hN hD0 hBN ht0 hT hK0 hZ0 c93 g5 g6 g7 g3 g4 fI fP h6C
