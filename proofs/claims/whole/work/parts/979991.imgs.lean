/-! ===== images, seasons ===== -/
theorem P_image {L : Nat} {xs : Nat → Int32} {c : Nat} {G : am_G} {I : Nat → Nat → Int} {P : Nat → Nat → Option Nat} (hR : REL L xs c G I P) (hc : c ≤ 600) {a : Int}  : SP L xs c G I P Sum.inl 147 172 [.inl a] := by
  obtain ⟨ρ, lg, ll, tn, tb, fa, wr, st, sp, rf, ik0, ir0, il0, ik1, ir1, il1, dk, dr, hW, hC, hM⟩ := hR
  obtain ⟨w1, w2, w3, w4, w5, w6, w7, w8⟩ := id hW
  obtain ⟨hS, hK, ⟨hCC, hLg, hLw, hTN⟩, ⟨t1, t2⟩, ⟨s1, s2, s3, s4⟩, hRf, hI0, hI1, ⟨hDr, hLO⟩, hG, hX⟩ := id hC
  have hRW := (WR_0 w1).1
  have h59 := (WR_0 w1).2
  have hLN := LawNow_of hRW w2
  have hBN := BarN_of hRW w2
  have hE : CE G I P 65 ρ (nfo ρ ll) (cfo ρ ll) := ⟨hCC, hRW, LWn_of (c := 65) hRW hLw⟩
  have hN := TN_of hTN
  have h0 := RW_n0 hRW
  have h1 := RW_n1 hRW
  have h2 := RW_n2 hRW
  have h3 := RW_n3 hRW
  have h8 := RW_sm hRW
  have hrk : ∀ k, RKk k → 0 ≤ I 173 k ∧ I 173 k ≤ 1000000 := fun k hk => by have := w5 k hk; rw [hRf k hk]; omega
  have hrm : ∀ {J : Nat → Nat → Int}, MI ρ lg ll tn tb fa wr st sp rf ik0 ir0 il0 ik1 ir1 il1 dk dr J → ∀ k, RKk k → 0 ≤ J 209 k ∧ J 209 k ≤ 1000000 := fun hJ k hk => by have := w5 k hk; rw [hJ.2.2.2.2.1 k hk]; omega
  have hme : ∀ {J : Nat → Nat → Int}, MI ρ lg ll tn tb fa wr st sp rf ik0 ir0 il0 ik1 ir1 il1 dk dr J → ME J ρ (nfo ρ ll) (cfo ρ ll) := fun hJ => ⟨hJ.1.1, hRW, hLN, hJ.1.2.2⟩
  have hzz : ∀ {J : Nat → Nat → Int}, MI ρ lg ll tn tb fa wr st sp rf ik0 ir0 il0 ik1 ir1 il1 dk dr J → (am_u2 J 208 0 0) 210 = ρ := fun hJ => (u2_qf (by decide)).trans hJ.1.1
  by_cases e0 : a = 0
  · subst e0
    obtain ⟨I1, P1, eK, hS1, kC, k83, k16, k6, kf, kp⟩ := k_image_0 (d := 96) hS hE hN
    have hM1 : MI ρ lg ll tn tb fa wr st sp rf ik0 ir0 il0 ik1 ir1 il1 dk dr I1 := MI_fr hM (fun q k h => kf q k (by unfold MK2 at h; omega) (by unfold MK2 at h; omega) (by unfold MK2 at h; omega))
    have p24 : ∀ q k, 240 ≤ q → P1 q k = P q k := fun q k a => kp q k (by omega)
    have e24 : ∀ q k, 240 ≤ q → I1 q k = I q k := fun q k a => kf q k (by omega) (by omega) (by omega)
    have hC1 : CI L xs (c + 1) ρ lg ll tn tb fa wr 0 sp rf 1 ρ ll ik1 ir1 il1 dk dr G I1 P1 := ⟨hS1, KS_fr hK (fun q k h => kf q k (by omega) (by omega) (by omega)), ⟨CC_fr hCC (fun q k a b _ => kf q k (by omega) (by omega) (by omega)), CLg_fr hLg (fun q k a b => kf q k (by omega) (by omega) (by omega)), LWS_eq hLw hRW rfl e24 p24 (fun j _ => kp _ _ (by decide)), TNs_eq (c := 65) hTN (fun j _ => kp _ _ (by decide))⟩, ⟨(kf _ _ (by decide) (by decide) (by decide)).trans t1, fun k hk => (kf _ _ (by decide) (by omega) (by omega)).trans (t2 k hk)⟩, ⟨(kf _ _ (by decide) (by decide) (by decide)).trans s1, (kf _ _ (by decide) (by decide) (by decide)).trans s2, k16, (kf _ _ (by decide) (by decide) (by decide)).trans s4⟩, fun k hk => (kf _ _ (by decide) (by omega) (by omega)).trans (hRf k hk), ⟨k83, TNs_eq (c := 65) hTN (fun j hj => k6 j hj), fun _ => ⟨kC, LWS_eq hLw hRW rfl e24 p24 (fun j hj => k6 j hj)⟩⟩, ⟨(kf _ _ (by decide) (by decide) (by decide)).trans hI1.1, TNs_eq (c := 191) hI1.2.1 (fun j _ => kp _ _ (by decide)), fun e => ⟨CC_fr (hI1.2.2 e).1 (fun q k a b _ => kf q k (by omega) (by omega) (by omega)), (by rcases w7 with w | w; (exact absurd (w.symm.trans e) (by decide)); (exact LWS_eq (hI1.2.2 e).2 w.2.1 rfl e24 p24 (fun j _ => kp _ _ (by decide))))⟩⟩, ⟨CC_fr hDr (fun q k a b _ => kf q k (by omega) (by omega) (by omega)), LOs_fr hLO (kf _ _ (by decide) (by decide) (by decide)) (kf _ _ (by decide) (by decide) (by decide))⟩, CGs_s hG, ⟨hX.1, fun j hj => (kf _ _ (by decide) (by omega) (by omega)).trans (hX.2 j hj)⟩⟩
    have eM := c_image (d := 98) (G := G) (I := I1) (P := P1) (k := 0) hS1 (by decide)
    have gx : ∀ q j, ¬ q = 211 → ¬ (q = 212 ∧ j = 0) → ¬ (q = 208 ∧ (j = 0 ∨ j = 1)) → (am_u2 (am_u2 (am_u1 (am_u2 I1 208 0 0) 211 (am_cp ((am_u2 I1 208 0 0) 210) ((am_u2 I1 208 0 0) 211) (0) (5500 * 0) 5500)) 212 0 1) 208 1 0) q j = I1 q j := fun q j a b e => (u2_o (by omega)).trans ((u2_o b).trans ((u1_qk a).trans (u2_o (by omega))))
    have g211 : (am_u2 (am_u2 (am_u1 (am_u2 I1 208 0 0) 211 (am_cp ((am_u2 I1 208 0 0) 210) ((am_u2 I1 208 0 0) 211) (0) (5500 * 0) 5500)) 212 0 1) 208 1 0) 211 = am_cp ρ (I1 211) 0 (5500 * 0) 5500 := by rw [u2_qf (by decide), u2_qf (by decide), u1_e, u2_qf (by decide), u2_qf (by decide), hM1.1.1]
    skip
    have hM2 : MI ρ lg ll tn tb fa wr 0 sp rf 1 ρ ll ik1 ir1 il1 dk dr (am_u2 (am_u2 (am_u1 (am_u2 I1 208 0 0) 211 (am_cp ((am_u2 I1 208 0 0) 210) ((am_u2 I1 208 0 0) 211) (0) (5500 * 0) 5500)) 212 0 1) 208 1 0) := ⟨⟨(funext fun j => gx _ _ (by decide) (by omega) (by omega)).trans hM1.1.1, MLg_fr hM1.1.2.1 (gx _ _ (by decide) (by decide) (by decide)) (fun j _ => gx _ _ (by decide) (by omega) (by omega)) (fun j _ => gx _ _ (by decide) (by omega) (by omega)), (gx _ _ (by decide) (by decide) (by decide)).trans hM1.1.2.2⟩, KM_fr hM1.2.1 (fun q j h => gx q j (by omega) (by omega) (by omega)), ⟨(gx _ _ (by decide) (by decide) (by decide)).trans hM1.2.2.1.1, fun j hj => (gx _ _ (by decide) (by omega) (by omega)).trans (hM1.2.2.1.2 j hj)⟩, ⟨(gx _ _ (by decide) (by decide) (by decide)).trans hM1.2.2.2.1.1, (gx _ _ (by decide) (by decide) (by decide)).trans hM1.2.2.2.1.2.1, u2_e, (gx _ _ (by decide) (by decide) (by decide)).trans hM1.2.2.2.1.2.2.2⟩, fun j hj => (gx _ _ (by decide) (by omega) (by omega)).trans (hM1.2.2.2.2.1 j hj), ⟨(u2_q (by decide)).trans u2_e, fun _ j hj => by rw [g211, cp_in (by omega)]; exact congrArg ρ (by omega)⟩, ⟨(gx _ _ (by decide) (by decide) (by decide)).trans hM1.2.2.2.2.2.2.1.1, fun e j hj => by rw [g211, cp_out (by omega)]; exact hM1.2.2.2.2.2.2.1.2 e j hj⟩, (by rcases hM1.2.2.2.2.2.2.2 with ⟨e, d1, d2⟩ | ⟨e, d1, d2, d3⟩; (exact Or.inl ⟨e, (gx _ _ (by decide) (by decide) (by decide)).trans d1, (gx _ _ (by decide) (by decide) (by decide)).trans d2⟩); (exact Or.inr ⟨e, (gx _ _ (by decide) (by decide) (by decide)).trans d1, (gx _ _ (by decide) (by decide) (by decide)).trans d2, fun j hj => (gx _ _ (by decide) (by omega) (by omega)).trans (d3 j hj)⟩))⟩
    have hW2 : WF (c + 1) ρ lg ll tn tb rf 1 ρ ll ik1 ir1 il1 dk dr := ⟨w1, w2, w3, w4, fun k hk => by have := w5 k hk; omega, Or.inr ⟨rfl, hRW, h59, w2, w3⟩, w7, w8⟩
    exact SP_do (x := 0) hW2 eK hC1 eM hM2 (fun q j h => gx q j (by omega) (by omega) (by omega))
  by_cases e1 : a = 1
  · subst e1
    obtain ⟨I1, P1, eK, hS1, kC, k83, k16, k6, kf, kp⟩ := k_image_1 (d := 96) hS hE hN
    have hM1 : MI ρ lg ll tn tb fa wr st sp rf ik0 ir0 il0 ik1 ir1 il1 dk dr I1 := MI_fr hM (fun q k h => kf q k (by unfold MK2 at h; omega) (by unfold MK2 at h; omega) (by unfold MK2 at h; omega))
    have p24 : ∀ q k, 240 ≤ q → P1 q k = P q k := fun q k a => kp q k (by omega)
    have e24 : ∀ q k, 240 ≤ q → I1 q k = I q k := fun q k a => kf q k (by omega) (by omega) (by omega)
    have hC1 : CI L xs (c + 1) ρ lg ll tn tb fa wr 0 sp rf ik0 ir0 il0 1 ρ ll dk dr G I1 P1 := ⟨hS1, KS_fr hK (fun q k h => kf q k (by omega) (by omega) (by omega)), ⟨CC_fr hCC (fun q k a b _ => kf q k (by omega) (by omega) (by omega)), CLg_fr hLg (fun q k a b => kf q k (by omega) (by omega) (by omega)), LWS_eq hLw hRW rfl e24 p24 (fun j _ => kp _ _ (by decide)), TNs_eq (c := 65) hTN (fun j _ => kp _ _ (by decide))⟩, ⟨(kf _ _ (by decide) (by decide) (by decide)).trans t1, fun k hk => (kf _ _ (by decide) (by omega) (by omega)).trans (t2 k hk)⟩, ⟨(kf _ _ (by decide) (by decide) (by decide)).trans s1, (kf _ _ (by decide) (by decide) (by decide)).trans s2, k16, (kf _ _ (by decide) (by decide) (by decide)).trans s4⟩, fun k hk => (kf _ _ (by decide) (by omega) (by omega)).trans (hRf k hk), ⟨(kf _ _ (by decide) (by decide) (by decide)).trans hI0.1, TNs_eq (c := 174) hI0.2.1 (fun j _ => kp _ _ (by decide)), fun e => ⟨CC_fr (hI0.2.2 e).1 (fun q k a b _ => kf q k (by omega) (by omega) (by omega)), (by rcases w6 with w | w; (exact absurd (w.symm.trans e) (by decide)); (exact LWS_eq (hI0.2.2 e).2 w.2.1 rfl e24 p24 (fun j _ => kp _ _ (by decide))))⟩⟩, ⟨k83, TNs_eq (c := 65) hTN (fun j hj => k6 j hj), fun _ => ⟨kC, LWS_eq hLw hRW rfl e24 p24 (fun j hj => k6 j hj)⟩⟩, ⟨CC_fr hDr (fun q k a b _ => kf q k (by omega) (by omega) (by omega)), LOs_fr hLO (kf _ _ (by decide) (by decide) (by decide)) (kf _ _ (by decide) (by decide) (by decide))⟩, CGs_s hG, ⟨hX.1, fun j hj => (kf _ _ (by decide) (by omega) (by omega)).trans (hX.2 j hj)⟩⟩
    have eM := c_image (d := 98) (G := G) (I := I1) (P := P1) (k := 1) hS1 (by decide)
    have gx : ∀ q j, ¬ q = 211 → ¬ (q = 212 ∧ j = 1) → ¬ (q = 208 ∧ (j = 0 ∨ j = 1)) → (am_u2 (am_u2 (am_u1 (am_u2 I1 208 0 0) 211 (am_cp ((am_u2 I1 208 0 0) 210) ((am_u2 I1 208 0 0) 211) (0) (5500 * 1) 5500)) 212 1 1) 208 1 0) q j = I1 q j := fun q j a b e => (u2_o (by omega)).trans ((u2_o b).trans ((u1_qk a).trans (u2_o (by omega))))
    have g211 : (am_u2 (am_u2 (am_u1 (am_u2 I1 208 0 0) 211 (am_cp ((am_u2 I1 208 0 0) 210) ((am_u2 I1 208 0 0) 211) (0) (5500 * 1) 5500)) 212 1 1) 208 1 0) 211 = am_cp ρ (I1 211) 0 (5500 * 1) 5500 := by rw [u2_qf (by decide), u2_qf (by decide), u1_e, u2_qf (by decide), u2_qf (by decide), hM1.1.1]
    skip
    have hM2 : MI ρ lg ll tn tb fa wr 0 sp rf ik0 ir0 il0 1 ρ ll dk dr (am_u2 (am_u2 (am_u1 (am_u2 I1 208 0 0) 211 (am_cp ((am_u2 I1 208 0 0) 210) ((am_u2 I1 208 0 0) 211) (0) (5500 * 1) 5500)) 212 1 1) 208 1 0) := ⟨⟨(funext fun j => gx _ _ (by decide) (by omega) (by omega)).trans hM1.1.1, MLg_fr hM1.1.2.1 (gx _ _ (by decide) (by decide) (by decide)) (fun j _ => gx _ _ (by decide) (by omega) (by omega)) (fun j _ => gx _ _ (by decide) (by omega) (by omega)), (gx _ _ (by decide) (by decide) (by decide)).trans hM1.1.2.2⟩, KM_fr hM1.2.1 (fun q j h => gx q j (by omega) (by omega) (by omega)), ⟨(gx _ _ (by decide) (by decide) (by decide)).trans hM1.2.2.1.1, fun j hj => (gx _ _ (by decide) (by omega) (by omega)).trans (hM1.2.2.1.2 j hj)⟩, ⟨(gx _ _ (by decide) (by decide) (by decide)).trans hM1.2.2.2.1.1, (gx _ _ (by decide) (by decide) (by decide)).trans hM1.2.2.2.1.2.1, u2_e, (gx _ _ (by decide) (by decide) (by decide)).trans hM1.2.2.2.1.2.2.2⟩, fun j hj => (gx _ _ (by decide) (by omega) (by omega)).trans (hM1.2.2.2.2.1 j hj), ⟨(gx _ _ (by decide) (by decide) (by decide)).trans hM1.2.2.2.2.2.1.1, fun e j hj => by rw [g211, cp_out (by omega)]; exact hM1.2.2.2.2.2.1.2 e j hj⟩, ⟨(u2_q (by decide)).trans u2_e, fun _ j hj => by rw [g211, cp_in (by omega)]; exact congrArg ρ (by omega)⟩, (by rcases hM1.2.2.2.2.2.2.2 with ⟨e, d1, d2⟩ | ⟨e, d1, d2, d3⟩; (exact Or.inl ⟨e, (gx _ _ (by decide) (by decide) (by decide)).trans d1, (gx _ _ (by decide) (by decide) (by decide)).trans d2⟩); (exact Or.inr ⟨e, (gx _ _ (by decide) (by decide) (by decide)).trans d1, (gx _ _ (by decide) (by decide) (by decide)).trans d2, fun j hj => (gx _ _ (by decide) (by omega) (by omega)).trans (d3 j hj)⟩))⟩
    have hW2 : WF (c + 1) ρ lg ll tn tb rf ik0 ir0 il0 1 ρ ll dk dr := ⟨w1, w2, w3, w4, fun k hk => by have := w5 k hk; omega, w6, Or.inr ⟨rfl, hRW, h59, w2, w3⟩, w8⟩
    exact SP_do (x := 0) hW2 eK hC1 eM hM2 (fun q j h => gx q j (by omega) (by omega) (by omega))
  exact SP_rf (x := -1) hW hC hM 1 (by unfold RKk; omega) (k_image_b (d := 96) hS (by omega) (hrk 1 (by unfold RKk; omega))) (RFk_LF LF_refl rfl) (fun hM1 => ⟨_, c_image_b (d := 98) hS (by omega) (hrm hM1 1 (by unfold RKk; omega)), RFm_TF TF_refl⟩)
theorem P_back {L : Nat} {xs : Nat → Int32} {c : Nat} {G : am_G} {I : Nat → Nat → Int} {P : Nat → Nat → Option Nat} (hR : REL L xs c G I P) (hc : c ≤ 600) {a : Int}  : SP L xs c G I P Sum.inl 148 173 [.inl a] := by
  obtain ⟨ρ, lg, ll, tn, tb, fa, wr, st, sp, rf, ik0, ir0, il0, ik1, ir1, il1, dk, dr, hW, hC, hM⟩ := hR
  obtain ⟨w1, w2, w3, w4, w5, w6, w7, w8⟩ := id hW
  obtain ⟨hS, hK, ⟨hCC, hLg, hLw, hTN⟩, ⟨t1, t2⟩, ⟨s1, s2, s3, s4⟩, hRf, hI0, hI1, ⟨hDr, hLO⟩, hG, hX⟩ := id hC
  have hRW := (WR_0 w1).1
  have h59 := (WR_0 w1).2
  have hLN := LawNow_of hRW w2
  have hBN := BarN_of hRW w2
  have hE : CE G I P 65 ρ (nfo ρ ll) (cfo ρ ll) := ⟨hCC, hRW, LWn_of (c := 65) hRW hLw⟩
  have hN := TN_of hTN
  have h0 := RW_n0 hRW
  have h1 := RW_n1 hRW
  have h2 := RW_n2 hRW
  have h3 := RW_n3 hRW
  have h8 := RW_sm hRW
  have hrk : ∀ k, RKk k → 0 ≤ I 173 k ∧ I 173 k ≤ 1000000 := fun k hk => by have := w5 k hk; rw [hRf k hk]; omega
  have hrm : ∀ {J : Nat → Nat → Int}, MI ρ lg ll tn tb fa wr st sp rf ik0 ir0 il0 ik1 ir1 il1 dk dr J → ∀ k, RKk k → 0 ≤ J 209 k ∧ J 209 k ≤ 1000000 := fun hJ k hk => by have := w5 k hk; rw [hJ.2.2.2.2.1 k hk]; omega
  have hme : ∀ {J : Nat → Nat → Int}, MI ρ lg ll tn tb fa wr st sp rf ik0 ir0 il0 ik1 ir1 il1 dk dr J → ME J ρ (nfo ρ ll) (cfo ρ ll) := fun hJ => ⟨hJ.1.1, hRW, hLN, hJ.1.2.2⟩
  have hzz : ∀ {J : Nat → Nat → Int}, MI ρ lg ll tn tb fa wr st sp rf ik0 ir0 il0 ik1 ir1 il1 dk dr J → (am_u2 J 208 0 0) 210 = ρ := fun hJ => (u2_qf (by decide)).trans hJ.1.1
  by_cases e0 : a = 0
  · subst e0
    rcases id w6 with z | ⟨z, zr, z5, zl, zz⟩
    · exact SP_rf (x := -2) hW hC hM 2 (by unfold RKk; omega) (k_back_0n (d := 96) hS (hI0.1.trans z) (hrk 2 (by unfold RKk; omega))) (RFk_LF LF_refl rfl) (fun hM1 => ⟨_, c_back_n (d := 97) (k := 0) hS (by decide) (hM1.2.2.2.2.2.1.1.trans z) (hrm hM1 2 (by unfold RKk; omega)), RFm_TF TF_refl⟩)
    · obtain ⟨I1, P1, eK, hS1, kC, k84, k16, k6, kf, kp⟩ := k_back_0 (d := 96) hS (hI0.2.2 z).1 (TN_of hI0.2.1) (hI0.1.trans z)
      have p24 : ∀ q k, 240 ≤ q → P1 q k = P q k := fun q k a => kp q k (by omega)
      have e24 : ∀ q k, 240 ≤ q → I1 q k = I q k := fun q k a => kf q k (by omega) (by omega) (by omega)
      refine SP_gen (x := 0) (ρ' := ir0) (lg' := []) (ll' := il0) (tn' := tn) (tb' := tb) (fa' := fa) (wr' := wr) (st' := 0) (sp' := sp) (rf' := rf) hW hC hM eK hS1 ⟨fun _ _ => rfl, Nat.le_refl _, fun q k a b => e24 q k a, fun q k a b => p24 q k a, fun k => kp _ _ (by decide), fun k => kp _ _ (by decide)⟩ (CGs_s hG) ⟨kC, CLg_clr hLg (kf _ _ (by decide) (by decide) (by decide)) k84, LWS_eq (hI0.2.2 z).2 zr rfl e24 p24 (fun j hj => k6 j hj), TNs_eq (c := 174) hI0.2.1 (fun j hj => k6 j hj)⟩ ⟨(kf _ _ (by decide) (by decide) (by decide)).trans t1, fun k hk => (kf _ _ (by decide) (by omega) (by omega)).trans (t2 k hk)⟩ ⟨(kf _ _ (by decide) (by decide) (by decide)).trans s1, (kf _ _ (by decide) (by decide) (by decide)).trans s2, k16, (kf _ _ (by decide) (by decide) (by decide)).trans s4⟩ (fun k hk => (kf _ _ (by decide) (by omega) (by omega)).trans (hRf k hk)) (fun q k h => kf q k (by omega) (by omega) (by omega)) (fun q k a b => kf q k (by omega) (by omega) (by omega)) (WR_clr zr z5) zl zz w4 (fun k hk => by have := w5 k hk; omega) (fun hM1 => ?_)
      have eM := c_back (d := 97) (G := G) (I := I1) (P := P1) (k := 0) hS1 (by decide) (hM1.2.2.2.2.2.1.1.trans z)
      have gx : ∀ q j, ¬ q = 210 → ¬ (q = 208 ∧ (j = 0 ∨ j = 1 ∨ j = 8)) → (am_u2 (am_u2 (am_u1 (am_u2 I1 208 0 0) 210 (am_cp ((am_u2 I1 208 0 0) 211) ((am_u2 I1 208 0 0) 210) (5500 * 0) (0) 5500)) 208 8 0) 208 1 0) q j = I1 q j := fun q j a b => (u2_o (by omega)).trans ((u2_o (by omega)).trans ((u1_qk a).trans (u2_o (by omega))))
      have g210 : (am_u2 (am_u2 (am_u1 (am_u2 I1 208 0 0) 210 (am_cp ((am_u2 I1 208 0 0) 211) ((am_u2 I1 208 0 0) 210) (5500 * 0) (0) 5500)) 208 8 0) 208 1 0) 210 = ir0 := by
        rw [u2_qf (by decide), u2_qf (by decide), u1_e, u2_qf (by decide), u2_qf (by decide), hM1.1.1]
        funext j
        by_cases q : 0 ≤ j ∧ j < 0 + 5500
        · rw [cp_in q]; have := hM1.2.2.2.2.2.1.2 z (j - 0) (by omega); rw [this]; exact congrArg ir0 (by omega)
        · rw [cp_out q, w3 j (by omega), zz j (by omega)]
      exact ⟨_, eM, ⟨g210, MLg_nil ((u2_k (by decide)).trans u2_e), (gx _ _ (by decide) (by decide)).trans hM1.1.2.2⟩, ⟨(gx _ _ (by decide) (by decide)).trans hM1.2.2.1.1, fun j hj => (gx _ _ (by decide) (by omega)).trans (hM1.2.2.1.2 j hj)⟩, ⟨(gx _ _ (by decide) (by decide)).trans hM1.2.2.2.1.1, (gx _ _ (by decide) (by decide)).trans hM1.2.2.2.1.2.1, u2_e, (gx _ _ (by decide) (by decide)).trans hM1.2.2.2.1.2.2.2⟩, fun j hj => (gx _ _ (by decide) (by omega)).trans (hM1.2.2.2.2.1 j hj), fun q j h => gx q j (by omega) (by omega), fun q j h => gx q j (by omega) (by omega)⟩
  by_cases e1 : a = 1
  · subst e1
    rcases id w7 with z | ⟨z, zr, z5, zl, zz⟩
    · exact SP_rf (x := -2) hW hC hM 2 (by unfold RKk; omega) (k_back_1n (d := 96) hS (hI1.1.trans z) (hrk 2 (by unfold RKk; omega))) (RFk_LF LF_refl rfl) (fun hM1 => ⟨_, c_back_n (d := 97) (k := 1) hS (by decide) (hM1.2.2.2.2.2.2.1.1.trans z) (hrm hM1 2 (by unfold RKk; omega)), RFm_TF TF_refl⟩)
    · obtain ⟨I1, P1, eK, hS1, kC, k84, k16, k6, kf, kp⟩ := k_back_1 (d := 96) hS (hI1.2.2 z).1 (TN_of hI1.2.1) (hI1.1.trans z)
      have p24 : ∀ q k, 240 ≤ q → P1 q k = P q k := fun q k a => kp q k (by omega)
      have e24 : ∀ q k, 240 ≤ q → I1 q k = I q k := fun q k a => kf q k (by omega) (by omega) (by omega)
      refine SP_gen (x := 0) (ρ' := ir1) (lg' := []) (ll' := il1) (tn' := tn) (tb' := tb) (fa' := fa) (wr' := wr) (st' := 0) (sp' := sp) (rf' := rf) hW hC hM eK hS1 ⟨fun _ _ => rfl, Nat.le_refl _, fun q k a b => e24 q k a, fun q k a b => p24 q k a, fun k => kp _ _ (by decide), fun k => kp _ _ (by decide)⟩ (CGs_s hG) ⟨kC, CLg_clr hLg (kf _ _ (by decide) (by decide) (by decide)) k84, LWS_eq (hI1.2.2 z).2 zr rfl e24 p24 (fun j hj => k6 j hj), TNs_eq (c := 191) hI1.2.1 (fun j hj => k6 j hj)⟩ ⟨(kf _ _ (by decide) (by decide) (by decide)).trans t1, fun k hk => (kf _ _ (by decide) (by omega) (by omega)).trans (t2 k hk)⟩ ⟨(kf _ _ (by decide) (by decide) (by decide)).trans s1, (kf _ _ (by decide) (by decide) (by decide)).trans s2, k16, (kf _ _ (by decide) (by decide) (by decide)).trans s4⟩ (fun k hk => (kf _ _ (by decide) (by omega) (by omega)).trans (hRf k hk)) (fun q k h => kf q k (by omega) (by omega) (by omega)) (fun q k a b => kf q k (by omega) (by omega) (by omega)) (WR_clr zr z5) zl zz w4 (fun k hk => by have := w5 k hk; omega) (fun hM1 => ?_)
      have eM := c_back (d := 97) (G := G) (I := I1) (P := P1) (k := 1) hS1 (by decide) (hM1.2.2.2.2.2.2.1.1.trans z)
      have gx : ∀ q j, ¬ q = 210 → ¬ (q = 208 ∧ (j = 0 ∨ j = 1 ∨ j = 8)) → (am_u2 (am_u2 (am_u1 (am_u2 I1 208 0 0) 210 (am_cp ((am_u2 I1 208 0 0) 211) ((am_u2 I1 208 0 0) 210) (5500 * 1) (0) 5500)) 208 8 0) 208 1 0) q j = I1 q j := fun q j a b => (u2_o (by omega)).trans ((u2_o (by omega)).trans ((u1_qk a).trans (u2_o (by omega))))
      have g210 : (am_u2 (am_u2 (am_u1 (am_u2 I1 208 0 0) 210 (am_cp ((am_u2 I1 208 0 0) 211) ((am_u2 I1 208 0 0) 210) (5500 * 1) (0) 5500)) 208 8 0) 208 1 0) 210 = ir1 := by
        rw [u2_qf (by decide), u2_qf (by decide), u1_e, u2_qf (by decide), u2_qf (by decide), hM1.1.1]
        funext j
        by_cases q : 0 ≤ j ∧ j < 0 + 5500
        · rw [cp_in q]; have := hM1.2.2.2.2.2.2.1.2 z (j - 0) (by omega); rw [this]; exact congrArg ir1 (by omega)
        · rw [cp_out q, w3 j (by omega), zz j (by omega)]
      exact ⟨_, eM, ⟨g210, MLg_nil ((u2_k (by decide)).trans u2_e), (gx _ _ (by decide) (by decide)).trans hM1.1.2.2⟩, ⟨(gx _ _ (by decide) (by decide)).trans hM1.2.2.1.1, fun j hj => (gx _ _ (by decide) (by omega)).trans (hM1.2.2.1.2 j hj)⟩, ⟨(gx _ _ (by decide) (by decide)).trans hM1.2.2.2.1.1, (gx _ _ (by decide) (by decide)).trans hM1.2.2.2.1.2.1, u2_e, (gx _ _ (by decide) (by decide)).trans hM1.2.2.2.1.2.2.2⟩, fun j hj => (gx _ _ (by decide) (by omega)).trans (hM1.2.2.2.2.1 j hj), fun q j h => gx q j (by omega) (by omega), fun q j h => gx q j (by omega) (by omega)⟩
  exact SP_rf (x := -1) hW hC hM 1 (by unfold RKk; omega) (k_back_b (d := 96) hS (by omega) (hrk 1 (by unfold RKk; omega))) (RFk_LF LF_refl rfl) (fun hM1 => ⟨_, c_back_b (d := 97) hS (by omega) (hrm hM1 1 (by unfold RKk; omega)), RFm_TF TF_refl⟩)
theorem P_seasons {L : Nat} {xs : Nat → Int32} {c : Nat} {G : am_G} {I : Nat → Nat → Int} {P : Nat → Nat → Option Nat} (hR : REL L xs c G I P) (hc : c ≤ 600) {a b : Int}  : SP L xs c G I P Sum.inl 145 283 [.inl a, .inl b] := by
  obtain ⟨ρ, lg, ll, tn, tb, fa, wr, st, sp, rf, ik0, ir0, il0, ik1, ir1, il1, dk, dr, hW, hC, hM⟩ := hR
  obtain ⟨w1, w2, w3, w4, w5, w6, w7, w8⟩ := id hW
  obtain ⟨hS, hK, ⟨hCC, hLg, hLw, hTN⟩, ⟨t1, t2⟩, ⟨s1, s2, s3, s4⟩, hRf, hI0, hI1, ⟨hDr, hLO⟩, hG, hX⟩ := id hC
  have hRW := (WR_0 w1).1
  have h59 := (WR_0 w1).2
  have hLN := LawNow_of hRW w2
  have hBN := BarN_of hRW w2
  have hE : CE G I P 65 ρ (nfo ρ ll) (cfo ρ ll) := ⟨hCC, hRW, LWn_of (c := 65) hRW hLw⟩
  have hN := TN_of hTN
  have h0 := RW_n0 hRW
  have h1 := RW_n1 hRW
  have h2 := RW_n2 hRW
  have h3 := RW_n3 hRW
  have h8 := RW_sm hRW
  have hrk : ∀ k, RKk k → 0 ≤ I 173 k ∧ I 173 k ≤ 1000000 := fun k hk => by have := w5 k hk; rw [hRf k hk]; omega
  have hrm : ∀ {J : Nat → Nat → Int}, MI ρ lg ll tn tb fa wr st sp rf ik0 ir0 il0 ik1 ir1 il1 dk dr J → ∀ k, RKk k → 0 ≤ J 209 k ∧ J 209 k ≤ 1000000 := fun hJ k hk => by have := w5 k hk; rw [hJ.2.2.2.2.1 k hk]; omega
  have hme : ∀ {J : Nat → Nat → Int}, MI ρ lg ll tn tb fa wr st sp rf ik0 ir0 il0 ik1 ir1 il1 dk dr J → ME J ρ (nfo ρ ll) (cfo ρ ll) := fun hJ => ⟨hJ.1.1, hRW, hLN, hJ.1.2.2⟩
  have hzz : ∀ {J : Nat → Nat → Int}, MI ρ lg ll tn tb fa wr st sp rf ik0 ir0 il0 ik1 ir1 il1 dk dr J → (am_u2 J 208 0 0) 210 = ρ := fun hJ => (u2_qf (by decide)).trans hJ.1.1
  by_cases hb : (0 ≤ a ∧ a ≤ 1000000) ∧ (1 ≤ b ∧ b ≤ 60)
  · by_cases hz : ρ 0 = 0 ∨ ρ 1 = 0
    · exact SP_rf (x := -3) hW hC hM 3 (by unfold RKk; omega) (k_seasons_n (d := 92) hS hE hb.1 hb.2 hz (hrk 3 (by unfold RKk; omega))) (RFk_LF LF_refl rfl) (fun hM1 => ⟨_, m_seasons_n (d := 90) hS (hme hM1) hb.1 hb.2 hz (hrm hM1 3 (by unfold RKk; omega)), RFm_TF TF_refl⟩)
    · obtain ⟨kn, rfl⟩ : ∃ n0 : Nat, b = (n0 : Int) := ⟨b.toNat, by omega⟩
      obtain ⟨I1, P1, eK, hS1, kC, kZ, kL, k16, kf, kp, kp6⟩ := k_seasonsc (d := 92) hS hE hN h59 (seed := a) (k := kn) (by omega) (by omega) hb.1 (by omega) (by omega) hLN hBN hLO hK.2.1.1
      have hM1 : MI ρ lg ll tn tb fa wr st sp rf ik0 ir0 il0 ik1 ir1 il1 dk dr I1 := MI_fr hM (fun q k h => kf q k (by unfold MK2 at h; omega) (by unfold MK2 at h; omega) (by unfold MK2 at h; omega) (by unfold MK2 at h; omega) (by unfold MK2 at h; omega) (by unfold MK2 at h; omega))
      obtain ⟨I2, eM, m1, m210, m213, m239, m57, m58, mf⟩ := m_seasons (d := 90) hS1 (hme hM1) h59 (seed := a) (k := kn) (by omega) (by omega) hb.1 (by omega) (by omega)
      have p24 : ∀ q k, 240 ≤ q → P1 q k = P q k := fun q k a => kp q k (by omega)
      have e24 : ∀ q k, 240 ≤ q → I1 q k = I q k := fun q k a => kf q k (by omega) (by omega) (by omega) (by omega) (by omega) (by omega)
      generalize hz9 : ssn ρ (nfo ρ ll) (cfo ρ ll) a (snk ρ kn) = z9 at *
      have z0 : z9.1 0 = ρ 0 := kZ.2.2.2.1 0 (by omega)
      have z1 : z9.1 1 = ρ 1 := kZ.2.2.2.1 1 (by omega)
      have hC1 : CI L xs (c + 1) ρ lg ll tn tb fa wr 0 sp rf ik0 ir0 il0 ik1 ir1 il1 1 z9.1 G I1 P1 := ⟨hS1, KS_fr hK (fun q k h => kf q k (by omega) (by omega) (by omega) (by omega) (by omega) (by omega)), ⟨CC_fr hCC (fun q k a b _ => kf q k (by omega) (by omega) (by omega) (by omega) (by omega) (by omega)), CLg_fr hLg (fun q k a b => kf q k (by omega) (by omega) (by omega) (by omega) (by omega) (by omega)), LWS_eq hLw hRW rfl e24 p24 (fun j _ => kp _ _ (by decide)), TNs_eq (c := 65) hTN (fun j _ => kp _ _ (by decide))⟩, ⟨(kf _ _ (by decide) (by decide) (by decide) (by decide) (by decide) (by decide)).trans t1, fun k hk => (kf _ _ (by omega) (by omega) (by omega) (by omega) (by omega) (by omega)).trans (t2 k hk)⟩, ⟨(kf _ _ (by decide) (by decide) (by decide) (by decide) (by decide) (by decide)).trans s1, (kf _ _ (by decide) (by decide) (by decide) (by decide) (by decide) (by decide)).trans s2, k16, (kf _ _ (by decide) (by decide) (by decide) (by decide) (by decide) (by decide)).trans s4⟩, fun k hk => (kf _ _ (by omega) (by omega) (by omega) (by omega) (by omega) (by omega)).trans (hRf k hk), ⟨(kf _ _ (by decide) (by decide) (by decide) (by decide) (by decide) (by decide)).trans hI0.1, TNs_eq (c := 174) hI0.2.1 (fun j _ => kp _ _ (by decide)), fun e => ⟨CC_fr (hI0.2.2 e).1 (fun q k a b _ => kf q k (by omega) (by omega) (by omega) (by omega) (by omega) (by omega)), (by rcases w6 with w | w; (exact absurd (w.symm.trans e) (by decide)); (exact LWS_eq (hI0.2.2 e).2 w.2.1 rfl e24 p24 (fun j _ => kp _ _ (by decide))))⟩⟩, ⟨(kf _ _ (by decide) (by decide) (by decide) (by decide) (by decide) (by decide)).trans hI1.1, TNs_eq (c := 191) hI1.2.1 (fun j _ => kp _ _ (by decide)), fun e => ⟨CC_fr (hI1.2.2 e).1 (fun q k a b _ => kf q k (by omega) (by omega) (by omega) (by omega) (by omega) (by omega)), (by rcases w7 with w | w; (exact absurd (w.symm.trans e) (by decide)); (exact LWS_eq (hI1.2.2 e).2 w.2.1 rfl e24 p24 (fun j _ => kp _ _ (by decide))))⟩⟩, ⟨kC, kL⟩, CGs_s hG, ⟨hX.1, fun j hj => (kf _ _ (by omega) (by omega) (by omega) (by omega) (by omega) (by omega)).trans (hX.2 j hj)⟩⟩
      have gx : ∀ q j, MK2 q j → ¬ q = 239 → ¬ (q = 208 ∧ (j = 1 ∨ j = 57 ∨ j = 58)) → I2 q j = I1 q j := fun q j h a b => by
        by_cases e : q = 210
        · subst e; rw [m210, hM1.1.1]
        · by_cases e2 : q = 213
          · subst e2; exact m213 j (by unfold MK2 at h; omega)
          · exact mf q j (by unfold MK2 at h; omega) (by unfold MK2 at h; omega) e e2 (by unfold MK2 at h; omega) a (by unfold MK2 at h; omega)
      have hM2 : MI ρ lg ll tn tb fa wr 0 sp rf ik0 ir0 il0 ik1 ir1 il1 1 z9.1 I2 := ⟨⟨m210, MLg_fr hM1.1.2.1 (gx _ _ (by unfold MK2; omega) (by omega) (by omega)) (fun j _ => (gx _ _ (by unfold MK2; omega) (by omega) (by omega))) (fun j _ => (gx _ _ (by unfold MK2; omega) (by omega) (by omega))), (gx _ _ (by unfold MK2; omega) (by omega) (by omega)).trans hM1.1.2.2⟩, KM_fr hM1.2.1 (fun q j h => gx q j (by unfold MK2; omega) (by omega) (by omega)), ⟨(gx _ _ (by unfold MK2; omega) (by omega) (by omega)).trans hM1.2.2.1.1, fun j hj => (gx _ _ (by unfold MK2; omega) (by omega) (by omega)).trans (hM1.2.2.1.2 j hj)⟩, ⟨(gx _ _ (by unfold MK2; omega) (by omega) (by omega)).trans hM1.2.2.2.1.1, (gx _ _ (by unfold MK2; omega) (by omega) (by omega)).trans hM1.2.2.2.1.2.1, m1, (gx _ _ (by unfold MK2; omega) (by omega) (by omega)).trans hM1.2.2.2.1.2.2.2⟩, fun j hj => (gx _ _ (by unfold MK2; omega) (by omega) (by omega)).trans (hM1.2.2.2.2.1 j hj), ⟨(gx _ _ (by unfold MK2; omega) (by omega) (by omega)).trans hM1.2.2.2.2.2.1.1, fun e j hj => (gx _ _ (by unfold MK2; omega) (by omega) (by omega)).trans (hM1.2.2.2.2.2.1.2 e j hj)⟩, ⟨(gx _ _ (by unfold MK2; omega) (by omega) (by omega)).trans hM1.2.2.2.2.2.2.1.1, fun e j hj => (gx _ _ (by unfold MK2; omega) (by omega) (by omega)).trans (hM1.2.2.2.2.2.2.1.2 e j hj)⟩, Or.inr ⟨rfl, m57.trans z0.symm, m58.trans z1.symm, m239⟩⟩
      have hW2 : WF (c + 1) ρ lg ll tn tb rf ik0 ir0 il0 ik1 ir1 il1 1 z9.1 := ⟨w1, w2, w3, w4, fun k hk => by have := w5 k hk; omega, w6, w7, by rw [z0]; omega, by rw [z1]; omega, fun e => absurd e (by decide)⟩
      exact SP_do (x := z9.2.2) hW2 eK hC1 eM hM2 (fun q j h => mf q j (by omega) (by omega) (by omega) (by omega) (by omega) (by omega) (by omega))
  · exact SP_rf (x := -1) hW hC hM 1 (by unfold RKk; omega) (k_seasons_b (d := 92) hS hE hb (hrk 1 (by unfold RKk; omega))) (RFk_LF LF_refl rfl) (fun hM1 => ⟨_, m_seasons_b (d := 90) hS (hme hM1) hb (hrm hM1 1 (by unfold RKk; omega)), RFm_TF TF_refl⟩)
