/-! ===== laws, orders, images, seasons ===== -/
theorem CGs_law {c : Nat} {G G1 : am_G} (h : CGs c G) (h1 : G1.1 = G.1 + 7) (h2 : G1.2.1 ≤ G.2.1 + 504) : CGs (c + 1) G1 := by
  obtain ⟨a, b, d⟩ := h
  refine ⟨by omega, by omega, ?_⟩
  exact Nat.le_trans h2 (Nat.le_trans (Nat.add_le_add_right d 504) (Nat.le_of_eq (by rw [Nat.mul_succ 504 c, Nat.add_assoc])))
theorem P_law {L : Nat} {xs : Nat → Int32} {c : Nat} {G : am_G} {I : Nat → Nat → Int} {P : Nat → Nat → Option Nat} (hR : REL L xs c G I P) (hc : c ≤ 600)   : SP L xs c G I P Sum.inl 119 224 [] := by
  obtain ⟨ρ, lg, ll, tn, tb, fa, wr, st, sp, rf, ik0, ir0, il0, ik1, ir1, il1, dk, dr, hW, hC, hM⟩ := hR
  obtain ⟨w1, w2, w3, w4, w5, w6, w7, w8⟩ := id hW
  obtain ⟨hS, hK, ⟨hCC, hLg, hLw, hTN⟩, ⟨t1, t2⟩, ⟨s1, s2, s3, s4⟩, hRf, hI0, hI1, ⟨hDr, hLO⟩, hG, hX⟩ := id hC
  have hRW := (WR_0 w1).1
  have h59 := (WR_0 w1).2
  have hLN := LawNow_of hRW w2
  have hBN := BarN_of hRW w2
  have hE : CE G I P 65 ρ (nfo ρ ll) (cfo ρ ll) := ⟨hCC, hRW, LWn_of (c := 65) hRW hLw⟩
  have hN := TN_of hTN
  have h0 := RW_n0 hRW
  have h1 := RW_n1 hRW
  have h2 := RW_n2 hRW
  have h3 := RW_n3 hRW
  have h8 := RW_sm hRW
  have hrk : ∀ k, RKk k → 0 ≤ I 173 k ∧ I 173 k ≤ 1000000 := fun k hk => by have := w5 k hk; rw [hRf k hk]; omega
  have hrm : ∀ {J : Nat → Nat → Int}, MI ρ lg ll tn tb fa wr st sp rf ik0 ir0 il0 ik1 ir1 il1 dk dr J → ∀ k, RKk k → 0 ≤ J 209 k ∧ J 209 k ≤ 1000000 := fun hJ k hk => by have := w5 k hk; rw [hJ.2.2.2.2.1 k hk]; omega
  have hme : ∀ {J : Nat → Nat → Int}, MI ρ lg ll tn tb fa wr st sp rf ik0 ir0 il0 ik1 ir1 il1 dk dr J → ME J ρ (nfo ρ ll) (cfo ρ ll) := fun hJ => ⟨hJ.1.1, hRW, hLN, hJ.1.2.2⟩
  have hzz : ∀ {J : Nat → Nat → Int}, MI ρ lg ll tn tb fa wr st sp rf ik0 ir0 il0 ik1 ir1 il1 dk dr J → (am_u2 J 208 0 0) 210 = ρ := fun hJ => (u2_qf (by decide)).trans hJ.1.1
  by_cases h36 : ρ 3 = 6
  · have eK := k_law_n (d := 61) (G := G) (I := I) (P := P) hS ((CC_n3 hCC).trans h36) (hrk 5 (by unfold RKk; omega))
    have fx : ∀ q k, ¬ (q = 64 ∧ (k = 13 ∨ k = 16)) → ¬ (q = 173 ∧ k = 5) → am_u2 (am_u2 (am_u2 I 64 13 0) 173 5 (I 173 5 + 1)) 64 16 (-5) q k = I q k := fun q k a b => (u2_o (by omega)).trans ((u2_o (by omega)).trans (u2_o (by omega)))
    refine SP_gen (x := -5) (ρ' := ρ) (lg' := lg) (ll' := ll) (tn' := 0) (tb' := tb) (fa' := fa) (wr' := wr) (st' := (-5)) (sp' := sp) (rf' := (am_u1 rf 5 (rf 5 + 1))) hW hC hM eK hS ⟨fun _ _ => rfl, Nat.le_refl _, fun q k a b => fx q k (by omega) (by omega), fun _ _ _ _ => rfl, fun _ => rfl, fun _ => rfl⟩ (CGs_s hG) ⟨CC_fr hCC (fun q k a b _ => fx q k (by omega) (by omega)), CLg_fr hLg (fun q k a b => fx q k (by omega) (by omega)), LWS_eq hLw hRW rfl (fun q k a => fx q k (by omega) (by omega)) (fun _ _ _ => rfl) (fun _ _ => rfl), hTN⟩ ⟨(u2_k (by decide)).trans ((u2_q (by decide)).trans u2_e), fun k hk => absurd hk (by omega)⟩ ⟨(fx _ _ (by decide) (by decide)).trans s1, (fx _ _ (by decide) (by decide)).trans s2, u2_e, (fx _ _ (by decide) (by decide)).trans s4⟩ (rfu hRf (by unfold RKk; omega) ((u2_q (by decide)).trans u2_e) (fun k hk => fx _ _ (by omega) (by omega))) (fun q k h => fx q k (by omega) (by omega)) (fun q k a b => fx q k (by omega) (by omega)) w1 w2 w3 ⟨by decide, fun k hk => absurd hk (by omega)⟩ (rfb w5) (fun hM1 => ?_)
    have gx : ∀ {J : Nat → Nat → Int} q k, ¬ (q = 208 ∧ (k = 0 ∨ k = 1 ∨ k = 13)) → ¬ (q = 209 ∧ k = 5) → am_u2 (am_u2 (am_u2 (am_u2 J 208 0 0) 208 13 0) 208 1 (-5)) 209 5 (J 209 5 + 1) q k = J q k := fun q k a b => (u2_o (by omega)).trans ((u2_o (by omega)).trans ((u2_o (by omega)).trans (u2_o (by omega))))
    exact ⟨_, m_law_n (d := 90) hS (by rw [hM1.1.1]; exact h36) (hrm hM1 5 (by unfold RKk; omega)), ⟨(funext fun k => gx _ _ (by omega) (by omega)).trans hM1.1.1, MLg_fr hM1.1.2.1 (gx _ _ (by decide) (by decide)) (fun j _ => gx _ _ (by omega) (by omega)) (fun j _ => gx _ _ (by omega) (by omega)), (gx _ _ (by decide) (by decide)).trans hM1.1.2.2⟩, ⟨(u2_q (by decide)).trans ((u2_k (by decide)).trans u2_e), fun k hk => absurd hk (by omega)⟩, ⟨(gx _ _ (by decide) (by decide)).trans hM1.2.2.2.1.1, (gx _ _ (by decide) (by decide)).trans hM1.2.2.2.1.2.1, (u2_q (by decide)).trans u2_e, (gx _ _ (by decide) (by decide)).trans hM1.2.2.2.1.2.2.2⟩, rfu hM1.2.2.2.2.1 (by unfold RKk; omega) u2_e (fun k hk => gx _ _ (by omega) (by omega)), fun q k h => gx q k (by omega) (by omega), fun q k h => gx q k (by omega) (by omega)⟩
  · obtain ⟨i3, hi3⟩ : ∃ n0 : Nat, ρ 3 = (n0 : Int) := ⟨(ρ 3).toNat, by omega⟩
    have hi6 : i3 < 6 := by omega
    have hMI0 := hM
    have mb : ∀ k, k < tn → I 217 k = tb k := hM.2.2.1.2
    obtain ⟨o1, eo1, qo1⟩ := k_law (d := 61) hS hK w4 t1 t2 hi6 ((CC_n3 hCC).trans hi3) (hrk 6 (by unfold RKk; omega)) hG.1
    cases hp : px_text tb tn false with
    | inl x =>
      rw [hp] at qo1
      obtain ⟨I1, rfl, k14, k13, k16, k173, k65, kf, k24⟩ := qo1
      have hS1 : ST G (am_u2 P 169 0 (some 171)) := ST_tok hS
      have fx : ∀ q k, ¬ (161 ≤ q ∧ q ≤ 169) → ¬ (q = 64 ∧ (k = 13 ∨ k = 14 ∨ k = 16)) → ¬ (q = 173 ∧ k = 6) → I1 q k = I q k := fun q k a b e => by
        by_cases h24 : q < 240
        · by_cases z : q = 65 ∧ k = 16
          · obtain ⟨z1, z2⟩ := z; subst z1; subst z2; exact k65
          · exact kf q k h24 a b e z
        · exact k24 q k (by omega)
      refine SP_gen (x := -6) (ρ' := ρ) (lg' := lg) (ll' := ll) (tn' := 0) (tb' := tb) (fa' := (x : Int)) (wr' := wr) (st' := (-6)) (sp' := sp) (rf' := (am_u1 rf 6 (rf 6 + 1))) hW hC hM eo1 hS1 ⟨fun _ _ => rfl, Nat.le_refl _, fun q k a b => fx q k (by omega) (by omega) (by omega), fun q k a b => u2_q (by omega), fun k => u2_q (by decide), fun k => u2_q (by decide)⟩ (CGs_s hG) ⟨CC_fr hCC (fun q k a b _ => fx q k (by omega) (by omega) (by omega)), CLg_fr hLg (fun q k a b => fx q k (by omega) (by omega) (by omega)), LWS_eq hLw hRW rfl (fun q k a => fx q k (by omega) (by omega) (by omega)) (fun q k a => u2_q (by omega)) (fun _ _ => u2_q (by decide)), TNs_eq (c := 65) hTN (fun _ _ => u2_q (by decide))⟩ ⟨k13, fun k hk => absurd hk (by omega)⟩ ⟨k14, (fx _ _ (by decide) (by decide) (by decide)).trans s2, k16, (fx _ _ (by decide) (by decide) (by decide)).trans s4⟩ (rfu hRf (by unfold RKk; omega) k173 (fun k hk => fx _ _ (by omega) (by omega) (by omega))) (fun q k h => fx q k (by omega) (by omega) (by omega)) (fun q k a b => fx q k (by omega) (by omega) (by omega)) w1 w2 w3 ⟨by decide, fun k hk => absurd hk (by omega)⟩ (rfb w5) (fun hM1 => ?_)
      obtain ⟨o2, eo2, qo2⟩ := m_law (d := 90) hS1 hM1.2.1 w4 hM1.2.2.1.1 hM1.2.2.1.2 hi6 (by rw [hM1.1.1]; exact hi3) (hrm hM1 6 (by unfold RKk; omega))
      rw [hp] at qo2
      obtain ⟨I2, rfl, g18, g13, g20, g1, g209, g210, gf⟩ := qo2
      have gx : ∀ q k, MK2 q k → ¬ (q = 208 ∧ (k = 1 ∨ k = 13 ∨ k = 18 ∨ k = 20)) → ¬ (q = 209 ∧ k = 6) → I2 q k = I1 q k := fun q k h a b => by
        by_cases z : q = 210
        · subst z; rw [g210]
        · exact gf q k (by unfold MK2 at h; omega) (by unfold MK2 at h; omega) (by unfold MK2 at h; omega) b z
      exact ⟨I2, eo2, ⟨g210.trans hM1.1.1, MLg_fr hM1.1.2.1 (gx _ _ (by unfold MK2; omega) (by omega) (by omega)) (fun j hj => gx _ _ (by unfold MK2; omega) (by omega) (by omega)) (fun j hj => gx _ _ (by unfold MK2; omega) (by omega) (by omega)), g20⟩, ⟨g13, fun k hk => absurd hk (by omega)⟩, ⟨g18, (gx _ _ (by unfold MK2; omega) (by omega) (by omega)).trans hM1.2.2.2.1.2.1, g1, (gx _ _ (by unfold MK2; omega) (by omega) (by omega)).trans hM1.2.2.2.1.2.2.2⟩, rfu hM1.2.2.2.2.1 (by unfold RKk; omega) g209 (fun k hk => gf _ _ (by omega) (by omega) (by omega) (by omega) (by omega)), fun q k h => gx q k (by unfold MK2; omega) (by omega) (by omega), fun q k h => gf q k (by omega) (by omega) (by omega) (by omega) (by omega)⟩
    | inr q =>
      obtain ⟨m, cl⟩ := q
      rw [hp] at qo1
      obtain ⟨G1, I1, P1, rfl, k14, k13, k16, k173, k65, kf, k24, hS1, kp, kX, kg1, kg2, kg3, kP⟩ := qo1
      have fx : ∀ q k, q < 240 → ¬ (161 ≤ q ∧ q ≤ 169) → ¬ (q = 64 ∧ (k = 13 ∨ k = 14 ∨ k = 16)) → ¬ (q = 65 ∧ k = 16) → I1 q k = I q k := fun q k h a b e => by
        by_cases z : q = 173 ∧ k = 6
        · obtain ⟨z1, z2⟩ := z; subst z1; subst z2; exact k173
        · exact kf q k h a b z e
      have hM1 : MI ρ lg ll tn tb fa wr st sp rf ik0 ir0 il0 ik1 ir1 il1 dk dr I1 := MI_fr hM (fun q k h => fx q k (by unfold MK2 at h; omega) (by unfold MK2 at h; omega) (by unfold MK2 at h; omega) (by unfold MK2 at h; omega))
      obtain ⟨o2, eo2, qo2⟩ := m_law (d := 90) hS1 hM1.2.1 w4 hM1.2.2.1.1 hM1.2.2.1.2 hi6 (by rw [hM1.1.1]; exact hi3) (hrm hM1 6 (by unfold RKk; omega))
      rw [hp] at qo2
      obtain ⟨I2, rfl, g18, g13, g20, g1, g209, gL, g3, gR, gf⟩ := qo2
      have gR : ∀ j, ¬ j = 3 → ¬ (101 + 900 * i3 ≤ j ∧ j < 1000 + 900 * i3) → I2 210 j = ρ j := fun j a b => by rw [gR j a b, hM1.1.1]
      have hrw : RW (I2 210) := RW_eq (RWs_n3 (v := (i3 : Int) + 1) hRW (by omega)) (fun j hj => by unfold am_u1; by_cases z : j = 3; (rw [if_pos z, z, g3]); (rw [if_neg z]; exact gR j z (by omega)))
      have hmx : ∀ j, 5 ≤ j → j < 30 → I2 210 j = ρ j := fun j a b => gR j (by omega) (by omega)
      have kC0 : CC (am_u2 I 65 16 ((i3 : Int) + 1)) 65 (am_u1 ρ 3 ((i3 : Int) + 1)) := CCs_n3 hCC
      have kC1 : CC I1 65 (am_u1 ρ 3 ((i3 : Int) + 1)) := CC_fr kC0 (fun q k a b _ => by by_cases z : q = 65 ∧ k = 16; (obtain ⟨z1, z2⟩ := z; subst z1; subst z2; exact k65.trans u2_e.symm); (rw [u2_o z]; exact fx q k (by omega) (by omega) (by omega) z))
      have kC : CC I1 65 (I2 210) := CC_eq kC1 (fun j hj => by unfold am_u1; by_cases z : j = 3; (rw [if_pos z, z, g3]); (rw [if_neg z]; exact gR j z (by omega)))
      have kLW : LWS G1 I1 P1 81 (I2 210) (fun i => if i = i3 then (m, fun j => clO (cl j)) else ll i) := fun i hi => by
        rw [g3] at hi
        show ∃ t, P1 81 i = some t ∧ t + 6 < 64 + G1.1 ∧ TX G1 I1 P1 t (if i = i3 then (m, fun j => clO (cl j)) else ll i).1 (if i = i3 then (m, fun j => clO (cl j)) else ll i).2
        by_cases e : i = i3
        · subst e; rw [if_pos rfl]; exact ⟨64 + G.1, kp, by omega, kX⟩
        · rw [if_neg e]
          obtain ⟨tt, p, b, xx⟩ := hLw i (by omega)
          exact ⟨tt, (kP 81 i (by have := hG.1; omega) (by omega) (by omega)).trans p, by omega, TX_gr xx b kg3 (fun q k a b => k24 q k a b) (fun q k a b => kP q k b (by omega) (by omega))⟩
      have kTN : TNs G1 P1 65 := fun k hk => by
        by_cases e : k = i3
        · subst e; exact Or.inr ⟨64 + G.1, kp, (by obtain ⟨_, _, _, _, _, _, ⟨x9, _⟩, _⟩ := kX; exact x9), by omega⟩
        · rw [show 65 + 16 = 81 from rfl, kP 81 k (by have := hG.1; omega) (by omega) (by omega)]
          rcases hTN k hk with z | ⟨tt, z1, z2, z3⟩
          · exact Or.inl z
          · exact Or.inr ⟨tt, z1, (kg3 tt z3).trans z2, by omega⟩
      have hRL : RLs (I2 210) (fun i => if i = i3 then (m, fun j => clO (cl j)) else ll i) := fun i hi => by
        rw [g3] at hi
        show RowLaw (I2 210) (100 + 900 * i) (if i = i3 then (m, fun j => clO (cl j)) else ll i).1 (if i = i3 then (m, fun j => clO (cl j)) else ll i).2
        by_cases e : i = i3
        · subst e; rw [if_pos rfl]; exact gL
        · rw [if_neg e]; exact RowLaw_congr (fun j a b => gR j (by omega) (by omega)) (w2 i (by omega))
      have gx : ∀ q k, MK2 q k → ¬ q = 210 → ¬ (q = 208 ∧ (k = 1 ∨ k = 13 ∨ k = 18 ∨ k = 20)) → I2 q k = I1 q k := fun q k h a b => by
        by_cases z : q = 209 ∧ k = 6
        · obtain ⟨z1, z2⟩ := z; subst z1; subst z2; exact g209
        · exact gf q k (by unfold MK2 at h; omega) (by unfold MK2 at h; omega) (by unfold MK2 at h; omega) z a
      refine SP_gen (x := (i3 : Int)) (ρ' := I2 210) (lg' := lg) (ll' := (fun i => if i = i3 then (m, fun j => clO (cl j)) else ll i)) (tn' := 0) (tb' := tb) (fa' := (-1)) (wr' := wr) (st' := 0) (sp' := sp) (rf' := rf) hW hC hM eo1 hS1 ⟨kg3, by omega, k24, fun q k a b => kP q k b (by omega) (by omega), fun k => kP 190 k (by have := hG.1; omega) (by omega) (by omega), fun k => kP 207 k (by have := hG.1; omega) (by omega) (by omega)⟩ (CGs_law hG kg1 kg2) ⟨kC, CLg_fr hLg (fun q k a b => fx q k (by omega) (by omega) (by omega) (by omega)), kLW, kTN⟩ ⟨k13, fun k hk => absurd hk (by omega)⟩ ⟨k14, (fx _ _ (by decide) (by decide) (by decide) (by decide)).trans s2, k16, (fx _ _ (by decide) (by decide) (by decide) (by decide)).trans s4⟩ (fun k hk => (fx _ _ (by decide) (by decide) (by omega) (by omega)).trans (hRf k hk)) (fun q k h => fx q k (by omega) (by omega) (by omega) (by omega)) (fun q k a b => fx q k (by omega) (by omega) (by omega) (by omega)) (WR_mix w1 hrw hmx) hRL (fun j hj => (gR j (by omega) (by omega)).trans (w3 j hj)) ⟨by decide, fun k hk => absurd hk (by omega)⟩ (fun k hk => by have := w5 k hk; omega) (fun _ => ?_)
      exact ⟨I2, eo2, ⟨rfl, MLg_mix (MLg_fr hM1.1.2.1 (gx _ _ (by unfold MK2; omega) (by omega) (by omega)) (fun j hj => gx _ _ (by unfold MK2; omega) (by omega) (by omega)) (fun j hj => gx _ _ (by unfold MK2; omega) (by omega) (by omega))) w1 hmx, g20⟩, ⟨g13, fun k hk => absurd hk (by omega)⟩, ⟨g18, (gx _ _ (by unfold MK2; omega) (by omega) (by omega)).trans hM1.2.2.2.1.2.1, g1, (gx _ _ (by unfold MK2; omega) (by omega) (by omega)).trans hM1.2.2.2.1.2.2.2⟩, fun k hk => (gx _ _ (by unfold MK2; omega) (by omega) (by omega)).trans (hM1.2.2.2.2.1 k hk), fun q k h => gx q k (by unfold MK2; omega) (by omega) (by omega), fun q k h => gf q k (by omega) (by omega) (by omega) (by omega) (by omega)⟩
theorem P_orders {L : Nat} {xs : Nat → Int32} {c : Nat} {G : am_G} {I : Nat → Nat → Int} {P : Nat → Nat → Option Nat} (hR : REL L xs c G I P) (hc : c ≤ 600)   : SP L xs c G I P Sum.inl 120 279 [] := by
  obtain ⟨ρ, lg, ll, tn, tb, fa, wr, st, sp, rf, ik0, ir0, il0, ik1, ir1, il1, dk, dr, hW, hC, hM⟩ := hR
  obtain ⟨w1, w2, w3, w4, w5, w6, w7, w8⟩ := id hW
  obtain ⟨hS, hK, ⟨hCC, hLg, hLw, hTN⟩, ⟨t1, t2⟩, ⟨s1, s2, s3, s4⟩, hRf, hI0, hI1, ⟨hDr, hLO⟩, hG, hX⟩ := id hC
  have hRW := (WR_0 w1).1
  have h59 := (WR_0 w1).2
  have hLN := LawNow_of hRW w2
  have hBN := BarN_of hRW w2
  have hE : CE G I P 65 ρ (nfo ρ ll) (cfo ρ ll) := ⟨hCC, hRW, LWn_of (c := 65) hRW hLw⟩
  have hN := TN_of hTN
  have h0 := RW_n0 hRW
  have h1 := RW_n1 hRW
  have h2 := RW_n2 hRW
  have h3 := RW_n3 hRW
  have h8 := RW_sm hRW
  have hrk : ∀ k, RKk k → 0 ≤ I 173 k ∧ I 173 k ≤ 1000000 := fun k hk => by have := w5 k hk; rw [hRf k hk]; omega
  have hrm : ∀ {J : Nat → Nat → Int}, MI ρ lg ll tn tb fa wr st sp rf ik0 ir0 il0 ik1 ir1 il1 dk dr J → ∀ k, RKk k → 0 ≤ J 209 k ∧ J 209 k ≤ 1000000 := fun hJ k hk => by have := w5 k hk; rw [hJ.2.2.2.2.1 k hk]; omega
  have hme : ∀ {J : Nat → Nat → Int}, MI ρ lg ll tn tb fa wr st sp rf ik0 ir0 il0 ik1 ir1 il1 dk dr J → ME J ρ (nfo ρ ll) (cfo ρ ll) := fun hJ => ⟨hJ.1.1, hRW, hLN, hJ.1.2.2⟩
  have hzz : ∀ {J : Nat → Nat → Int}, MI ρ lg ll tn tb fa wr st sp rf ik0 ir0 il0 ik1 ir1 il1 dk dr J → (am_u2 J 208 0 0) 210 = ρ := fun hJ => (u2_qf (by decide)).trans hJ.1.1
  obtain ⟨o1, eo1, qo1⟩ := k_orders (d := 60) hS hK w4 t1 t2 hE hLg w1 hN hBN (hrk 3 (by unfold RKk; omega)) (hrk 6 (by unfold RKk; omega))
  cases hp : px_text tb tn true with
  | inl x =>
    rw [hp] at qo1
    obtain ⟨I1, P1, rfl, hS1, k14, k13, k16, k173, k927, kC, kL, kP, kF⟩ := qo1
    refine SP_gen (x := -6) (ρ' := ρ) (lg' := lg) (ll' := ll) (tn' := 0) (tb' := tb) (fa' := (x : Int)) (wr' := wr) (st' := (-6)) (sp' := (-1)) (rf' := (am_u1 rf 6 (rf 6 + 1))) hW hC hM eo1 hS1 ⟨fun _ _ => rfl, Nat.le_refl _, fun q k a b => kF q k (by omega) (by omega) (by omega) (by omega) (by omega) (by omega) (by omega) (by omega) (by omega) (by omega), fun q k a b => kP.2 q k (by omega) (by omega) (by omega), fun k => kP.2 190 k (by decide) (by decide) (by omega), fun k => kP.2 207 k (by decide) (by decide) (by omega)⟩ (CGs_s hG) ⟨kC, kL, LWS_eq hLw hRW rfl (fun q k a => kF q k (by omega) (by omega) (by omega) (by omega) (by omega) (by omega) (by omega) (by omega) (by omega) (by omega)) (fun q k a => kP.2 q k (by omega) (by omega) (by omega)) (fun j hj => kP.1 j hj), TNs_eq (c := 65) hTN (fun j hj => kP.1 j hj)⟩ ⟨k13, fun k hk => absurd hk (by omega)⟩ ⟨k14, (kF 64 15 (by decide) (by decide) (by decide) (by decide) (by decide) (by decide) (by decide) (by decide) (by decide) (by decide) ).trans s2, k16, k927⟩ (rfu hRf (by unfold RKk; omega) k173 (fun k hk => kF _ _ (by omega) (by omega) (by omega) (by omega) (by omega) (by omega) (by omega) (by omega) (by omega) (by omega))) (fun q k h => kF q k (by omega) (by omega) (by omega) (by omega) (by omega) (by omega) (by omega) (by omega) (by omega) (by omega)) (fun q k a b => kF q k (by omega) (by omega) (by omega) (by omega) (by omega) (by omega) (by omega) (by omega) (by omega) (by omega)) w1 (RLs_eq w2 rfl (fun _ _ => rfl)) (fun j hj => ((fun _ _ => rfl) j (by omega)).trans (w3 j hj)) ⟨by decide, fun k hk => absurd hk (by omega)⟩ (rfb w5) (fun hM1 => ?_)
    obtain ⟨o2, eo2, qo2⟩ := m_orders (d := 88) hS1 hM1.2.1 w4 hM1.2.2.1.1 hM1.2.2.1.2 (hme hM1) hM1.1.2.1 w1 (hrm hM1 3 (by unfold RKk; omega)) (hrm hM1 6 (by unfold RKk; omega))
    rw [hp] at qo2
    obtain ⟨I2, rfl, g18, g13, g20, g1, g209, g53, g210, gL, gf⟩ := qo2
    exact ⟨I2, eo2, ⟨g210, gL, g20⟩, ⟨g13, fun k hk => absurd hk (by omega)⟩, ⟨g18, (gf 208 11 (by decide) (by decide) (by decide) (by decide) (by decide) (by decide) (by decide) ).trans hM1.2.2.2.1.2.1, g1, g53⟩, rfu hM1.2.2.2.2.1 (by unfold RKk; omega) g209 (fun k hk => gf _ _ (by omega) (by omega) (by omega) (by omega) (by omega) (by omega) (by omega)), fun q k h => gf q k (by omega) (by omega) (by omega) (by omega) (by omega) (by omega) (by omega), fun q k h => gf q k (by omega) (by omega) (by omega) (by omega) (by omega) (by omega) (by omega)⟩
  | inr q =>
    obtain ⟨m, cx⟩ := q
    rw [hp] at qo1
    cases ho : oW (nfo ρ ll) (cfo ρ ll) cx m 0 ((ρ, lg), 0, -1) with
    | inl i =>
      have qo1 : (match oW (nfo ρ ll) (cfo ρ ll) cx m 0 ((ρ, lg), 0, -1) with | .inl i => _ | .inr z => _) := qo1
      rw [ho] at qo1
      obtain ⟨I1, P1, rfl, hS1, k14, k13, k16, k173, k927, kC, kL, kP, kF⟩ := qo1
      refine SP_gen (x := -3) (ρ' := ρ) (lg' := lg) (ll' := ll) (tn' := 0) (tb' := tb) (fa' := (-1)) (wr' := wr) (st' := (-3)) (sp' := (i : Int)) (rf' := (am_u1 rf 3 (rf 3 + 1))) hW hC hM eo1 hS1 ⟨fun _ _ => rfl, Nat.le_refl _, fun q k a b => kF q k (by omega) (by omega) (by omega) (by omega) (by omega) (by omega) (by omega) (by omega) (by omega) (by omega), fun q k a b => kP.2 q k (by omega) (by omega) (by omega), fun k => kP.2 190 k (by decide) (by decide) (by omega), fun k => kP.2 207 k (by decide) (by decide) (by omega)⟩ (CGs_s hG) ⟨kC, kL, LWS_eq hLw hRW rfl (fun q k a => kF q k (by omega) (by omega) (by omega) (by omega) (by omega) (by omega) (by omega) (by omega) (by omega) (by omega)) (fun q k a => kP.2 q k (by omega) (by omega) (by omega)) (fun j hj => kP.1 j hj), TNs_eq (c := 65) hTN (fun j hj => kP.1 j hj)⟩ ⟨k13, fun k hk => absurd hk (by omega)⟩ ⟨k14, (kF 64 15 (by decide) (by decide) (by decide) (by decide) (by decide) (by decide) (by decide) (by decide) (by decide) (by decide) ).trans s2, k16, k927⟩ (rfu hRf (by unfold RKk; omega) k173 (fun k hk => kF _ _ (by omega) (by omega) (by omega) (by omega) (by omega) (by omega) (by omega) (by omega) (by omega) (by omega))) (fun q k h => kF q k (by omega) (by omega) (by omega) (by omega) (by omega) (by omega) (by omega) (by omega) (by omega) (by omega)) (fun q k a b => kF q k (by omega) (by omega) (by omega) (by omega) (by omega) (by omega) (by omega) (by omega) (by omega) (by omega)) w1 (RLs_eq w2 rfl (fun _ _ => rfl)) (fun j hj => ((fun _ _ => rfl) j (by omega)).trans (w3 j hj)) ⟨by decide, fun k hk => absurd hk (by omega)⟩ (rfb w5) (fun hM1 => ?_)
      obtain ⟨o2, eo2, qo2⟩ := m_orders (d := 88) hS1 hM1.2.1 w4 hM1.2.2.1.1 hM1.2.2.1.2 (hme hM1) hM1.1.2.1 w1 (hrm hM1 3 (by unfold RKk; omega)) (hrm hM1 6 (by unfold RKk; omega))
      rw [hp] at qo2
      have qo2 : (match oW (nfo ρ ll) (cfo ρ ll) cx m 0 ((ρ, lg), 0, -1) with | .inl i => _ | .inr z => _) := qo2
      rw [ho] at qo2
      obtain ⟨I2, rfl, g18, g13, g20, g1, g209, g53, g210, gL, gf⟩ := qo2
      exact ⟨I2, eo2, ⟨g210, gL, g20⟩, ⟨g13, fun k hk => absurd hk (by omega)⟩, ⟨g18, (gf 208 11 (by decide) (by decide) (by decide) (by decide) (by decide) (by decide) (by decide) ).trans hM1.2.2.2.1.2.1, g1, g53⟩, rfu hM1.2.2.2.2.1 (by unfold RKk; omega) g209 (fun k hk => gf _ _ (by omega) (by omega) (by omega) (by omega) (by omega) (by omega) (by omega)), fun q k h => gf q k (by omega) (by omega) (by omega) (by omega) (by omega) (by omega) (by omega), fun q k h => gf q k (by omega) (by omega) (by omega) (by omega) (by omega) (by omega) (by omega)⟩
    | inr z =>
      have qo1 : (match oW (nfo ρ ll) (cfo ρ ll) cx m 0 ((ρ, lg), 0, -1) with | .inl i => _ | .inr z => _) := qo1
      rw [ho] at qo1
      obtain ⟨I1, P1, rfl, hS1, k14, k13, k16, k927, kC, kL, kZ, kP, kF⟩ := qo1
      have ez : ∀ j, 100 ≤ j → z.1.1 j = ρ j := fun j hj => kZ.2.1 j (by omega)
      refine SP_gen (x := z.2.1) (ρ' := z.1.1) (lg' := z.1.2) (ll' := ll) (tn' := 0) (tb' := tb) (fa' := (-1)) (wr' := wr) (st' := 0) (sp' := (-1)) (rf' := rf) hW hC hM eo1 hS1 ⟨fun _ _ => rfl, Nat.le_refl _, fun q k a b => kF q k (by omega) (by omega) (by omega) (by omega) (by omega) (by omega) (by omega) (by omega) (by omega) (by omega), fun q k a b => kP.2 q k (by omega) (by omega) (by omega), fun k => kP.2 190 k (by decide) (by decide) (by omega), fun k => kP.2 207 k (by decide) (by decide) (by omega)⟩ (CGs_s hG) ⟨kC, kL, LWS_eq hLw hRW (kZ.2.1 3 (by omega)) (fun q k a => kF q k (by omega) (by omega) (by omega) (by omega) (by omega) (by omega) (by omega) (by omega) (by omega) (by omega)) (fun q k a => kP.2 q k (by omega) (by omega) (by omega)) (fun j hj => kP.1 j hj), TNs_eq (c := 65) hTN (fun j hj => kP.1 j hj)⟩ ⟨k13, fun k hk => absurd hk (by omega)⟩ ⟨k14, (kF 64 15 (by decide) (by decide) (by decide) (by decide) (by decide) (by decide) (by decide) (by decide) (by decide) (by decide) ).trans s2, k16, k927⟩ (fun k hk => (kF _ _ (by omega) (by omega) (by omega) (by omega) (by omega) (by omega) (by omega) (by omega) (by omega) (by unfold RKk at hk; omega)).trans (hRf k hk)) (fun q k h => kF q k (by omega) (by omega) (by omega) (by omega) (by omega) (by omega) (by omega) (by omega) (by omega) (by omega)) (fun q k a b => kF q k (by omega) (by omega) (by omega) (by omega) (by omega) (by omega) (by omega) (by omega) (by omega) (by omega)) kZ.1 (RLs_eq w2 (kZ.2.1 3 (by omega)) ez) (fun j hj => (ez j (by omega)).trans (w3 j hj)) ⟨by decide, fun k hk => absurd hk (by omega)⟩ (fun k hk => by have := w5 k hk; omega) (fun hM1 => ?_)
      obtain ⟨o2, eo2, qo2⟩ := m_orders (d := 88) hS1 hM1.2.1 w4 hM1.2.2.1.1 hM1.2.2.1.2 (hme hM1) hM1.1.2.1 w1 (hrm hM1 3 (by unfold RKk; omega)) (hrm hM1 6 (by unfold RKk; omega))
      rw [hp] at qo2
      have qo2 : (match oW (nfo ρ ll) (cfo ρ ll) cx m 0 ((ρ, lg), 0, -1) with | .inl i => _ | .inr z => _) := qo2
      rw [ho] at qo2
      obtain ⟨I2, rfl, g18, g13, g20, g1, g53, g210, gL, _, gf⟩ := qo2
      exact ⟨I2, eo2, ⟨g210, gL, g20⟩, ⟨g13, fun k hk => absurd hk (by omega)⟩, ⟨g18, (gf 208 11 (by decide) (by decide) (by decide) (by decide) (by decide) (by decide) (by decide) ).trans hM1.2.2.2.1.2.1, g1, g53⟩, fun k hk => (gf _ _ (by omega) (by omega) (by omega) (by omega) (by omega) (by omega) (by unfold RKk at hk; omega)).trans (hM1.2.2.2.2.1 k hk), fun q k h => gf q k (by omega) (by omega) (by omega) (by omega) (by omega) (by omega) (by omega), fun q k h => gf q k (by omega) (by omega) (by omega) (by omega) (by omega) (by omega) (by omega)⟩
