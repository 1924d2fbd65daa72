/-! ===== calls that tell and do ===== -/
theorem P_cloud {L : Nat} {xs : Nat → Int32} {c : Nat} {G : am_G} {I : Nat → Nat → Int} {P : Nat → Nat → Option Nat} (hR : REL L xs c G I P) (hc : c ≤ 600) {a b w : Int}  : SP L xs c G I P Sum.inl 107 182 [.inl a, .inl b, .inl w] := by
  obtain ⟨ρ, lg, ll, tn, tb, fa, wr, st, sp, rf, ik0, ir0, il0, ik1, ir1, il1, dk, dr, hW, hC, hM⟩ := hR
  obtain ⟨w1, w2, w3, w4, w5, w6, w7, w8⟩ := id hW
  obtain ⟨hS, hK, ⟨hCC, hLg, hLw, hTN⟩, ⟨t1, t2⟩, ⟨s1, s2, s3, s4⟩, hRf, hI0, hI1, ⟨hDr, hLO⟩, hG, hX⟩ := id hC
  have hRW := (WR_0 w1).1
  have h59 := (WR_0 w1).2
  have hLN := LawNow_of hRW w2
  have hBN := BarN_of hRW w2
  have hE : CE G I P 65 ρ (nfo ρ ll) (cfo ρ ll) := ⟨hCC, hRW, LWn_of (c := 65) hRW hLw⟩
  have hN := TN_of hTN
  have h0 := RW_n0 hRW
  have h1 := RW_n1 hRW
  have h2 := RW_n2 hRW
  have h3 := RW_n3 hRW
  have h8 := RW_sm hRW
  have hrk : ∀ k, RKk k → 0 ≤ I 173 k ∧ I 173 k ≤ 1000000 := fun k hk => by have := w5 k hk; rw [hRf k hk]; omega
  have hrm : ∀ {J : Nat → Nat → Int}, MI ρ lg ll tn tb fa wr st sp rf ik0 ir0 il0 ik1 ir1 il1 dk dr J → ∀ k, RKk k → 0 ≤ J 209 k ∧ J 209 k ≤ 1000000 := fun hJ k hk => by have := w5 k hk; rw [hJ.2.2.2.2.1 k hk]; omega
  have hme : ∀ {J : Nat → Nat → Int}, MI ρ lg ll tn tb fa wr st sp rf ik0 ir0 il0 ik1 ir1 il1 dk dr J → ME J ρ (nfo ρ ll) (cfo ρ ll) := fun hJ => ⟨hJ.1.1, hRW, hLN, hJ.1.2.2⟩
  have hzz : ∀ {J : Nat → Nat → Int}, MI ρ lg ll tn tb fa wr st sp rf ik0 ir0 il0 ik1 ir1 il1 dk dr J → (am_u2 J 208 0 0) 210 = ρ := fun hJ => (u2_qf (by decide)).trans hJ.1.1
  by_cases hb : (0 ≤ a ∧ a ≤ 4) ∧ (0 ≤ b ∧ b ≤ 9) ∧ (0 ≤ w ∧ w < 6)
  · by_cases hn : ρ 0 = 6
    · exact SP_rf (x := -5) hW hC hM 5 (by unfold RKk; omega) (k_cloud_n (d := 97) hS hE hb.1 hb.2.1 hb.2.2 hn (hrk 5 (by unfold RKk; omega))) (RFk_LF LF_refl rfl) (fun hM1 => ⟨_, m_cloud_n (d := 97) hS hb.1 hb.2.1 hb.2.2 (by rw [hM1.1.1]; exact hn) (hrm hM1 5 (by unfold RKk; omega)), RFm_TF TF_refl⟩)
    · obtain ⟨n0, hn0⟩ : ∃ n0 : Nat, ρ 0 = (n0 : Int) := ⟨(ρ 0).toNat, by omega⟩
      obtain ⟨I1, eK, kC, k84, kT⟩ := k_cloudc (d := 97) hS hE hb.1 hb.2.1 hb.2.2 hn0 (by omega)
      have hrw : RW (am_u1 (am_u1 (am_u1 (am_u1 ρ (30 + n0) a) (36 + n0) b) (9 + n0) w) 0 ((n0 : Int) + 1)) := RWs_n0 (RWs_at (RWs_ra (RWs_ki hRW (by omega) (by omega)) (by omega) hb.2.1) (by omega) hb.2.2) (by omega)
      skip
      refine SP_row (x := (n0 : Int)) (ρ' := (am_u1 (am_u1 (am_u1 (am_u1 ρ (30 + n0) a) (36 + n0) b) (9 + n0) w) 0 ((n0 : Int) + 1))) (lg' := []) (st' := 0) hW hC hM eK hS (fun _ _ _ => rfl) kC (CLg_clr hLg (kT.2 84 3 (by omega) (by omega) (by omega)) k84) kT.1 (fun q k h a1 a2 a3 => kT.2 q k a1 (by omega) a3) (fun q k a b => kT.2 q k (by omega) (by omega) (by omega)) (WR_clr hrw (by unfold am_u1; (repeat' split) <;> omega)) (by unfold am_u1; (repeat' split) <;> first | rfl | (exfalso; omega)) (fun j hj => (by unfold am_u1; (repeat' split) <;> first | rfl | (exfalso; omega))) (fun hM1 => ?_)
      exact ⟨_, m_cloud (d := 97) hS hb.1 hb.2.1 hb.2.2 (n := n0) (by rw [hM1.1.1]; exact hn0) (by omega), by rw [u2_qf (by decide), u2_qf (by decide), u2_sf, u2_sf, u2_sf, u2_sf, u2_qf (by decide), hM1.1.1], MLg_nil (by exact (u2_k (by decide)).trans u2_e), u2_e, (fun q k h a1 a2 a3 a4 => (u2_o (by unfold MK2 at h; omega)).trans ((u2_o (by unfold MK2 at h; omega)).trans ((u2_o (by unfold MK2 at h; omega)).trans ((u2_o (by unfold MK2 at h; omega)).trans ((u2_o (by unfold MK2 at h; omega)).trans ((u2_o (by unfold MK2 at h; omega)).trans (u2_o (by unfold MK2 at h; omega)))))))), (fun q k h => (u2_o (by omega)).trans ((u2_o (by omega)).trans ((u2_o (by omega)).trans ((u2_o (by omega)).trans ((u2_o (by omega)).trans ((u2_o (by omega)).trans (u2_o (by omega))))))))⟩
  · exact SP_rf (x := -1) hW hC hM 1 (by unfold RKk; omega) (k_cloud_b (d := 97) hS hE hb (hrk 1 (by unfold RKk; omega))) (RFk_LF LF_refl rfl) (fun hM1 => ⟨_, m_cloud_b (d := 97) hS hb (hrm hM1 1 (by unfold RKk; omega)), RFm_TF TF_refl⟩)
theorem P_folk {L : Nat} {xs : Nat → Int32} {c : Nat} {G : am_G} {I : Nat → Nat → Int} {P : Nat → Nat → Option Nat} (hR : REL L xs c G I P) (hc : c ≤ 600) {a b : Int}  : SP L xs c G I P Sum.inl 109 184 [.inl a, .inl b] := by
  obtain ⟨ρ, lg, ll, tn, tb, fa, wr, st, sp, rf, ik0, ir0, il0, ik1, ir1, il1, dk, dr, hW, hC, hM⟩ := hR
  obtain ⟨w1, w2, w3, w4, w5, w6, w7, w8⟩ := id hW
  obtain ⟨hS, hK, ⟨hCC, hLg, hLw, hTN⟩, ⟨t1, t2⟩, ⟨s1, s2, s3, s4⟩, hRf, hI0, hI1, ⟨hDr, hLO⟩, hG, hX⟩ := id hC
  have hRW := (WR_0 w1).1
  have h59 := (WR_0 w1).2
  have hLN := LawNow_of hRW w2
  have hBN := BarN_of hRW w2
  have hE : CE G I P 65 ρ (nfo ρ ll) (cfo ρ ll) := ⟨hCC, hRW, LWn_of (c := 65) hRW hLw⟩
  have hN := TN_of hTN
  have h0 := RW_n0 hRW
  have h1 := RW_n1 hRW
  have h2 := RW_n2 hRW
  have h3 := RW_n3 hRW
  have h8 := RW_sm hRW
  have hrk : ∀ k, RKk k → 0 ≤ I 173 k ∧ I 173 k ≤ 1000000 := fun k hk => by have := w5 k hk; rw [hRf k hk]; omega
  have hrm : ∀ {J : Nat → Nat → Int}, MI ρ lg ll tn tb fa wr st sp rf ik0 ir0 il0 ik1 ir1 il1 dk dr J → ∀ k, RKk k → 0 ≤ J 209 k ∧ J 209 k ≤ 1000000 := fun hJ k hk => by have := w5 k hk; rw [hJ.2.2.2.2.1 k hk]; omega
  have hme : ∀ {J : Nat → Nat → Int}, MI ρ lg ll tn tb fa wr st sp rf ik0 ir0 il0 ik1 ir1 il1 dk dr J → ME J ρ (nfo ρ ll) (cfo ρ ll) := fun hJ => ⟨hJ.1.1, hRW, hLN, hJ.1.2.2⟩
  have hzz : ∀ {J : Nat → Nat → Int}, MI ρ lg ll tn tb fa wr st sp rf ik0 ir0 il0 ik1 ir1 il1 dk dr J → (am_u2 J 208 0 0) 210 = ρ := fun hJ => (u2_qf (by decide)).trans hJ.1.1
  by_cases hb : (0 ≤ a ∧ a < 6) ∧ (0 ≤ b ∧ b ≤ 31)
  · by_cases hn : ρ 1 = 5
    · exact SP_rf (x := -5) hW hC hM 5 (by unfold RKk; omega) (k_folk_n (d := 97) hS hE hb.1 hb.2 hn (hrk 5 (by unfold RKk; omega))) (RFk_LF LF_refl rfl) (fun hM1 => ⟨_, m_folk_n (d := 97) hS hb.1 hb.2 (by rw [hM1.1.1]; exact hn) (hrm hM1 5 (by unfold RKk; omega)), RFm_TF TF_refl⟩)
    · obtain ⟨n0, hn0⟩ : ∃ n0 : Nat, ρ 1 = (n0 : Int) := ⟨(ρ 1).toNat, by omega⟩
      obtain ⟨I1, eK, kC, k84, kT⟩ := k_folkc (d := 97) hS hE hb.1 hb.2 hn0 (by omega)
      have hrw : RW (am_u1 (am_u1 (am_u1 (am_u1 (am_u1 (am_u1 ρ (42 + n0) a) (47 + n0) b) (15 + n0) 0) (20 + n0) 0) (25 + n0) 0) 1 ((n0 : Int) + 1)) := RWs_n1 (RWs_kn (RWs_we (RWs_en (RWs_ea (RWs_by hRW (by omega) hb.1) (by omega) (by omega)) (by omega) (Or.inl rfl)) (by omega) ⟨by decide, by decide⟩) (by omega) ⟨by decide, by decide⟩) ⟨by rw [show (am_u1 (am_u1 (am_u1 (am_u1 (am_u1 ρ (42 + n0) a) (47 + n0) b) (15 + n0) 0) (20 + n0) 0) (25 + n0) 0) 1 = ρ 1 from (by unfold am_u1; (repeat' split) <;> first | rfl | (exfalso; omega))]; omega, by omega⟩
      skip
      refine SP_row (x := (n0 : Int)) (ρ' := (am_u1 (am_u1 (am_u1 (am_u1 (am_u1 (am_u1 ρ (42 + n0) a) (47 + n0) b) (15 + n0) 0) (20 + n0) 0) (25 + n0) 0) 1 ((n0 : Int) + 1))) (lg' := []) (st' := 0) hW hC hM eK hS (fun _ _ _ => rfl) kC (CLg_clr hLg (kT.2 84 3 (by omega) (by omega) (by omega)) k84) kT.1 (fun q k h a1 a2 a3 => kT.2 q k a1 (by omega) a3) (fun q k a b => kT.2 q k (by omega) (by omega) (by omega)) (WR_clr hrw (by unfold am_u1; (repeat' split) <;> omega)) (by unfold am_u1; (repeat' split) <;> first | rfl | (exfalso; omega)) (fun j hj => (by unfold am_u1; (repeat' split) <;> first | rfl | (exfalso; omega))) (fun hM1 => ?_)
      exact ⟨_, m_folk (d := 97) hS hb.1 hb.2 (n := n0) (by rw [hM1.1.1]; exact hn0) (by omega), by rw [u2_qf (by decide), u2_qf (by decide), u2_sf, u2_sf, u2_sf, u2_sf, u2_sf, u2_sf, u2_qf (by decide), hM1.1.1], MLg_nil (by exact (u2_k (by decide)).trans u2_e), u2_e, (fun q k h a1 a2 a3 a4 => (u2_o (by unfold MK2 at h; omega)).trans ((u2_o (by unfold MK2 at h; omega)).trans ((u2_o (by unfold MK2 at h; omega)).trans ((u2_o (by unfold MK2 at h; omega)).trans ((u2_o (by unfold MK2 at h; omega)).trans ((u2_o (by unfold MK2 at h; omega)).trans ((u2_o (by unfold MK2 at h; omega)).trans ((u2_o (by unfold MK2 at h; omega)).trans (u2_o (by unfold MK2 at h; omega)))))))))), (fun q k h => (u2_o (by omega)).trans ((u2_o (by omega)).trans ((u2_o (by omega)).trans ((u2_o (by omega)).trans ((u2_o (by omega)).trans ((u2_o (by omega)).trans ((u2_o (by omega)).trans ((u2_o (by omega)).trans (u2_o (by omega))))))))))⟩
  · exact SP_rf (x := -1) hW hC hM 1 (by unfold RKk; omega) (k_folk_b (d := 97) hS hE hb (hrk 1 (by unfold RKk; omega))) (RFk_LF LF_refl rfl) (fun hM1 => ⟨_, m_folk_b (d := 97) hS hb (hrm hM1 1 (by unfold RKk; omega)), RFm_TF TF_refl⟩)
theorem P_terms {L : Nat} {xs : Nat → Int32} {c : Nat} {G : am_G} {I : Nat → Nat → Int} {P : Nat → Nat → Option Nat} (hR : REL L xs c G I P) (hc : c ≤ 600) {a b : Int}  : SP L xs c G I P Sum.inl 114 191 [.inl a, .inl b] := by
  obtain ⟨ρ, lg, ll, tn, tb, fa, wr, st, sp, rf, ik0, ir0, il0, ik1, ir1, il1, dk, dr, hW, hC, hM⟩ := hR
  obtain ⟨w1, w2, w3, w4, w5, w6, w7, w8⟩ := id hW
  obtain ⟨hS, hK, ⟨hCC, hLg, hLw, hTN⟩, ⟨t1, t2⟩, ⟨s1, s2, s3, s4⟩, hRf, hI0, hI1, ⟨hDr, hLO⟩, hG, hX⟩ := id hC
  have hRW := (WR_0 w1).1
  have h59 := (WR_0 w1).2
  have hLN := LawNow_of hRW w2
  have hBN := BarN_of hRW w2
  have hE : CE G I P 65 ρ (nfo ρ ll) (cfo ρ ll) := ⟨hCC, hRW, LWn_of (c := 65) hRW hLw⟩
  have hN := TN_of hTN
  have h0 := RW_n0 hRW
  have h1 := RW_n1 hRW
  have h2 := RW_n2 hRW
  have h3 := RW_n3 hRW
  have h8 := RW_sm hRW
  have hrk : ∀ k, RKk k → 0 ≤ I 173 k ∧ I 173 k ≤ 1000000 := fun k hk => by have := w5 k hk; rw [hRf k hk]; omega
  have hrm : ∀ {J : Nat → Nat → Int}, MI ρ lg ll tn tb fa wr st sp rf ik0 ir0 il0 ik1 ir1 il1 dk dr J → ∀ k, RKk k → 0 ≤ J 209 k ∧ J 209 k ≤ 1000000 := fun hJ k hk => by have := w5 k hk; rw [hJ.2.2.2.2.1 k hk]; omega
  have hme : ∀ {J : Nat → Nat → Int}, MI ρ lg ll tn tb fa wr st sp rf ik0 ir0 il0 ik1 ir1 il1 dk dr J → ME J ρ (nfo ρ ll) (cfo ρ ll) := fun hJ => ⟨hJ.1.1, hRW, hLN, hJ.1.2.2⟩
  have hzz : ∀ {J : Nat → Nat → Int}, MI ρ lg ll tn tb fa wr st sp rf ik0 ir0 il0 ik1 ir1 il1 dk dr J → (am_u2 J 208 0 0) 210 = ρ := fun hJ => (u2_qf (by decide)).trans hJ.1.1
  by_cases e0 : a = 0
  · subst e0
    by_cases hb : 0 ≤ b ∧ b ≤ 999
    · obtain ⟨I1, eK, kC, k84, kT⟩ := k_terms_0 (d := 97) hS hE hK.2.1 hb
      have hrw : RW (am_u1 ρ 5 b) := RWs_ni hRW (by omega)
      skip
      refine SP_row (x := ρ 5) (ρ' := (am_u1 ρ 5 b)) (lg' := []) (st' := 0) hW hC hM eK hS (fun _ _ _ => rfl) kC (CLg_clr hLg (kT.2 84 3 (by omega) (by omega) (by omega)) k84) kT.1 (fun q k h a1 a2 a3 => kT.2 q k a1 (by omega) a3) (fun q k a b => kT.2 q k (by omega) (by omega) (by omega)) (WR_clr hrw (by unfold am_u1; (repeat' split) <;> omega)) (by unfold am_u1; (repeat' split) <;> first | rfl | (exfalso; omega)) (fun j hj => (by unfold am_u1; (repeat' split) <;> first | rfl | (exfalso; omega))) (fun hM1 => ?_)
      exact ⟨_, by have e := m_terms_0 (d := 97) (G := G) (I := I1) (P := P) hS hb; rw [hM1.1.1] at e; exact e, by rw [u2_qf (by decide), u2_sf, u2_qf (by decide), u2_qf (by decide), hM1.1.1], MLg_nil (by exact (u2_k (by decide)).trans ((u2_q (by decide)).trans u2_e)), u2_e, (fun q k h a1 a2 a3 a4 => (u2_o (by unfold MK2 at h; omega)).trans ((u2_o (by unfold MK2 at h; omega)).trans ((u2_o (by unfold MK2 at h; omega)).trans (u2_o (by unfold MK2 at h; omega))))), (fun q k h => (u2_o (by omega)).trans ((u2_o (by omega)).trans ((u2_o (by omega)).trans (u2_o (by omega)))))⟩
    · exact SP_rf (x := -1) hW hC hM 1 (by unfold RKk; omega) (k_terms_0b (d := 97) hS hE hK.2.1 hb (hrk 1 (by unfold RKk; omega))) (RFk_LF LF_refl rfl) (fun hM1 => ⟨_, m_terms_b (d := 97) hS (by omega) (hrm hM1 1 (by unfold RKk; omega)), RFm_TF TF_refl⟩)
  by_cases e1 : a = 1
  · subst e1
    by_cases hb : 0 ≤ b ∧ b ≤ 10
    · obtain ⟨I1, eK, kC, k84, kT⟩ := k_terms_1 (d := 97) hS hE hK.2.1 hb
      have hrw : RW (am_u1 ρ 6 b) := RWs_fa hRW hb
      skip
      refine SP_row (x := ρ 6) (ρ' := (am_u1 ρ 6 b)) (lg' := []) (st' := 0) hW hC hM eK hS (fun _ _ _ => rfl) kC (CLg_clr hLg (kT.2 84 3 (by omega) (by omega) (by omega)) k84) kT.1 (fun q k h a1 a2 a3 => kT.2 q k a1 (by omega) a3) (fun q k a b => kT.2 q k (by omega) (by omega) (by omega)) (WR_clr hrw (by unfold am_u1; (repeat' split) <;> omega)) (by unfold am_u1; (repeat' split) <;> first | rfl | (exfalso; omega)) (fun j hj => (by unfold am_u1; (repeat' split) <;> first | rfl | (exfalso; omega))) (fun hM1 => ?_)
      exact ⟨_, by have e := m_terms_1 (d := 97) (G := G) (I := I1) (P := P) hS hb; rw [hM1.1.1] at e; exact e, by rw [u2_qf (by decide), u2_sf, u2_qf (by decide), u2_qf (by decide), hM1.1.1], MLg_nil (by exact (u2_k (by decide)).trans ((u2_q (by decide)).trans u2_e)), u2_e, (fun q k h a1 a2 a3 a4 => (u2_o (by unfold MK2 at h; omega)).trans ((u2_o (by unfold MK2 at h; omega)).trans ((u2_o (by unfold MK2 at h; omega)).trans (u2_o (by unfold MK2 at h; omega))))), (fun q k h => (u2_o (by omega)).trans ((u2_o (by omega)).trans ((u2_o (by omega)).trans (u2_o (by omega)))))⟩
    · exact SP_rf (x := -1) hW hC hM 1 (by unfold RKk; omega) (k_terms_1b (d := 97) hS hE hK.2.1 hb (hrk 1 (by unfold RKk; omega))) (RFk_LF LF_refl rfl) (fun hM1 => ⟨_, m_terms_b (d := 97) hS (by omega) (hrm hM1 1 (by unfold RKk; omega)), RFm_TF TF_refl⟩)
  by_cases e2 : a = 2
  · subst e2
    by_cases hb : 0 ≤ b ∧ b ≤ 9
    · obtain ⟨I1, eK, kC, k84, kT⟩ := k_terms_2 (d := 97) hS hE hK.2.1 hb
      have hrw : RW (am_u1 ρ 7 b) := RWs_mo hRW hb
      skip
      refine SP_row (x := ρ 7) (ρ' := (am_u1 ρ 7 b)) (lg' := []) (st' := 0) hW hC hM eK hS (fun _ _ _ => rfl) kC (CLg_clr hLg (kT.2 84 3 (by omega) (by omega) (by omega)) k84) kT.1 (fun q k h a1 a2 a3 => kT.2 q k a1 (by omega) a3) (fun q k a b => kT.2 q k (by omega) (by omega) (by omega)) (WR_clr hrw (by unfold am_u1; (repeat' split) <;> omega)) (by unfold am_u1; (repeat' split) <;> first | rfl | (exfalso; omega)) (fun j hj => (by unfold am_u1; (repeat' split) <;> first | rfl | (exfalso; omega))) (fun hM1 => ?_)
      exact ⟨_, by have e := m_terms_2 (d := 97) (G := G) (I := I1) (P := P) hS hb; rw [hM1.1.1] at e; exact e, by rw [u2_qf (by decide), u2_sf, u2_qf (by decide), u2_qf (by decide), hM1.1.1], MLg_nil (by exact (u2_k (by decide)).trans ((u2_q (by decide)).trans u2_e)), u2_e, (fun q k h a1 a2 a3 a4 => (u2_o (by unfold MK2 at h; omega)).trans ((u2_o (by unfold MK2 at h; omega)).trans ((u2_o (by unfold MK2 at h; omega)).trans (u2_o (by unfold MK2 at h; omega))))), (fun q k h => (u2_o (by omega)).trans ((u2_o (by omega)).trans ((u2_o (by omega)).trans (u2_o (by omega)))))⟩
    · exact SP_rf (x := -1) hW hC hM 1 (by unfold RKk; omega) (k_terms_2b (d := 97) hS hE hK.2.1 hb (hrk 1 (by unfold RKk; omega))) (RFk_LF LF_refl rfl) (fun hM1 => ⟨_, m_terms_b (d := 97) hS (by omega) (hrm hM1 1 (by unfold RKk; omega)), RFm_TF TF_refl⟩)
  exact SP_rf (x := -1) hW hC hM 1 (by unfold RKk; omega) (k_terms_b (d := 97) hS hE (by omega) (hrk 1 (by unfold RKk; omega))) (RFk_LF LF_refl rfl) (fun hM1 => ⟨_, m_terms_b (d := 97) hS (by omega) (hrm hM1 1 (by unfold RKk; omega)), RFm_TF TF_refl⟩)
theorem P_force {L : Nat} {xs : Nat → Int32} {c : Nat} {G : am_G} {I : Nat → Nat → Int} {P : Nat → Nat → Option Nat} (hR : REL L xs c G I P) (hc : c ≤ 600) {a : Int}  : SP L xs c G I P Sum.inl 123 226 [.inl a] := by
  obtain ⟨ρ, lg, ll, tn, tb, fa, wr, st, sp, rf, ik0, ir0, il0, ik1, ir1, il1, dk, dr, hW, hC, hM⟩ := hR
  obtain ⟨w1, w2, w3, w4, w5, w6, w7, w8⟩ := id hW
  obtain ⟨hS, hK, ⟨hCC, hLg, hLw, hTN⟩, ⟨t1, t2⟩, ⟨s1, s2, s3, s4⟩, hRf, hI0, hI1, ⟨hDr, hLO⟩, hG, hX⟩ := id hC
  have hRW := (WR_0 w1).1
  have h59 := (WR_0 w1).2
  have hLN := LawNow_of hRW w2
  have hBN := BarN_of hRW w2
  have hE : CE G I P 65 ρ (nfo ρ ll) (cfo ρ ll) := ⟨hCC, hRW, LWn_of (c := 65) hRW hLw⟩
  have hN := TN_of hTN
  have h0 := RW_n0 hRW
  have h1 := RW_n1 hRW
  have h2 := RW_n2 hRW
  have h3 := RW_n3 hRW
  have h8 := RW_sm hRW
  have hrk : ∀ k, RKk k → 0 ≤ I 173 k ∧ I 173 k ≤ 1000000 := fun k hk => by have := w5 k hk; rw [hRf k hk]; omega
  have hrm : ∀ {J : Nat → Nat → Int}, MI ρ lg ll tn tb fa wr st sp rf ik0 ir0 il0 ik1 ir1 il1 dk dr J → ∀ k, RKk k → 0 ≤ J 209 k ∧ J 209 k ≤ 1000000 := fun hJ k hk => by have := w5 k hk; rw [hJ.2.2.2.2.1 k hk]; omega
  have hme : ∀ {J : Nat → Nat → Int}, MI ρ lg ll tn tb fa wr st sp rf ik0 ir0 il0 ik1 ir1 il1 dk dr J → ME J ρ (nfo ρ ll) (cfo ρ ll) := fun hJ => ⟨hJ.1.1, hRW, hLN, hJ.1.2.2⟩
  have hzz : ∀ {J : Nat → Nat → Int}, MI ρ lg ll tn tb fa wr st sp rf ik0 ir0 il0 ik1 ir1 il1 dk dr J → (am_u2 J 208 0 0) 210 = ρ := fun hJ => (u2_qf (by decide)).trans hJ.1.1
  have hp3 : ∀ {J : Nat → Nat → Int}, MI ρ lg ll tn tb fa wr st sp rf ik0 ir0 il0 ik1 ir1 il1 dk dr J → 0 ≤ J 210 3 ∧ J 210 3 ≤ 6 := fun hJ => by rw [hJ.1.1]; exact h3
  by_cases hb : a = -1 ∨ (0 ≤ a ∧ a < ρ 3)
  · obtain ⟨I1, eK, kC, k84, kT⟩ := k_forcec (d := 97) hS hE hb
    have hrw : RW (am_u1 ρ 4 a) := RWs_fo hRW (by omega)
    have hmx : ∀ j, 5 ≤ j → j < 30 → (am_u1 ρ 4 a) j = ρ j := fun j a b => (by unfold am_u1; (repeat' split) <;> first | rfl | (exfalso; omega))
    refine SP_row (x := ρ 4) (ρ' := (am_u1 ρ 4 a)) (lg' := lg) (st' := 0) hW hC hM eK hS (fun _ _ _ => rfl) kC (CLg_fr hLg (fun q k a b => by by_cases e : q = 84 ∧ k = 4; (obtain ⟨e1, e2⟩ := e; subst e1; subst e2; exact k84); (exact kT.2 q k (by omega) e (by omega)))) kT.1 (fun q k h a1 a2 a3 => kT.2 q k a1 (by omega) a3) (fun q k a b => kT.2 q k (by omega) (by omega) (by omega)) (WR_mix w1 hrw hmx) (by unfold am_u1; (repeat' split) <;> first | rfl | (exfalso; omega)) (fun j hj => (by unfold am_u1; (repeat' split) <;> first | rfl | (exfalso; omega))) (fun hM1 => ?_)
    exact ⟨_, by have e := m_force (d := 97) (G := G) (I := I1) (P := P) hS (hp3 hM1) (by rw [hM1.1.1]; exact hb); rw [hM1.1.1] at e; exact e, by rw [u2_qf (by decide), u2_sf, u2_qf (by decide), hM1.1.1], MLg_mix (MLg_fr hM1.1.2.1 ((u2_o (by omega)).trans ((u2_o (by omega)).trans (u2_o (by omega)))) (fun j _ => (u2_o (by omega)).trans ((u2_o (by omega)).trans (u2_o (by omega)))) (fun j _ => (u2_o (by omega)).trans ((u2_o (by omega)).trans (u2_o (by omega))))) w1 hmx, u2_e, (fun q k h a1 a2 a3 a4 => (u2_o (by unfold MK2 at h; omega)).trans ((u2_o (by unfold MK2 at h; omega)).trans (u2_o (by unfold MK2 at h; omega)))), (fun q k h => (u2_o (by omega)).trans ((u2_o (by omega)).trans (u2_o (by omega))))⟩
  · exact SP_rf (x := -2) hW hC hM 2 (by unfold RKk; omega) (k_force_b (d := 97) hS hE hb (hrk 2 (by unfold RKk; omega))) (RFk_LF LF_refl rfl) (fun hM1 => ⟨_, m_force_b (d := 97) hS (hp3 hM1) (by rw [hM1.1.1]; exact hb) (hrm hM1 2 (by unfold RKk; omega)), RFm_TF TF_refl⟩)
theorem P_heard {L : Nat} {xs : Nat → Int32} {c : Nat} {G : am_G} {I : Nat → Nat → Int} {P : Nat → Nat → Option Nat} (hR : REL L xs c G I P) (hc : c ≤ 600) {a b : Int}  : SP L xs c G I P Sum.inl 134 259 [.inl a, .inl b] := by
  obtain ⟨ρ, lg, ll, tn, tb, fa, wr, st, sp, rf, ik0, ir0, il0, ik1, ir1, il1, dk, dr, hW, hC, hM⟩ := hR
  obtain ⟨w1, w2, w3, w4, w5, w6, w7, w8⟩ := id hW
  obtain ⟨hS, hK, ⟨hCC, hLg, hLw, hTN⟩, ⟨t1, t2⟩, ⟨s1, s2, s3, s4⟩, hRf, hI0, hI1, ⟨hDr, hLO⟩, hG, hX⟩ := id hC
  have hRW := (WR_0 w1).1
  have h59 := (WR_0 w1).2
  have hLN := LawNow_of hRW w2
  have hBN := BarN_of hRW w2
  have hE : CE G I P 65 ρ (nfo ρ ll) (cfo ρ ll) := ⟨hCC, hRW, LWn_of (c := 65) hRW hLw⟩
  have hN := TN_of hTN
  have h0 := RW_n0 hRW
  have h1 := RW_n1 hRW
  have h2 := RW_n2 hRW
  have h3 := RW_n3 hRW
  have h8 := RW_sm hRW
  have hrk : ∀ k, RKk k → 0 ≤ I 173 k ∧ I 173 k ≤ 1000000 := fun k hk => by have := w5 k hk; rw [hRf k hk]; omega
  have hrm : ∀ {J : Nat → Nat → Int}, MI ρ lg ll tn tb fa wr st sp rf ik0 ir0 il0 ik1 ir1 il1 dk dr J → ∀ k, RKk k → 0 ≤ J 209 k ∧ J 209 k ≤ 1000000 := fun hJ k hk => by have := w5 k hk; rw [hJ.2.2.2.2.1 k hk]; omega
  have hme : ∀ {J : Nat → Nat → Int}, MI ρ lg ll tn tb fa wr st sp rf ik0 ir0 il0 ik1 ir1 il1 dk dr J → ME J ρ (nfo ρ ll) (cfo ρ ll) := fun hJ => ⟨hJ.1.1, hRW, hLN, hJ.1.2.2⟩
  have hzz : ∀ {J : Nat → Nat → Int}, MI ρ lg ll tn tb fa wr st sp rf ik0 ir0 il0 ik1 ir1 il1 dk dr J → (am_u2 J 208 0 0) 210 = ρ := fun hJ => (u2_qf (by decide)).trans hJ.1.1
  have hp1 : ∀ {J : Nat → Nat → Int}, MI ρ lg ll tn tb fa wr st sp rf ik0 ir0 il0 ik1 ir1 il1 dk dr J → 0 ≤ J 210 1 ∧ J 210 1 ≤ 5 := fun hJ => by rw [hJ.1.1]; exact h1
  by_cases ht : 0 ≤ b ∧ b ≤ 9
  · by_cases hf : 0 ≤ a ∧ a < ρ 1
    · by_cases hn : ρ 2 = 6
      · exact SP_rf (x := -5) hW hC hM 5 (by unfold RKk; omega) (k_heard_r (d := 97) hS hE ht hf hn (hrk 5 (by unfold RKk; omega))) (RFk_LF LF_refl rfl) (fun hM1 => ⟨_, m_heard_r (d := 97) hS ht (hp1 hM1) (by rw [hM1.1.1]; exact hf) (by rw [hM1.1.1]; exact hn) (hrm hM1 5 (by unfold RKk; omega)), RFm_TF TF_refl⟩)
      · obtain ⟨n0, hn0⟩ : ∃ n0 : Nat, ρ 2 = (n0 : Int) := ⟨(ρ 2).toNat, by omega⟩
        obtain ⟨I1, eK, kC, k84, kT⟩ := k_heardc (d := 97) hS hE ht hf hn0 (by omega)
        have hrw : RW (am_u1 (am_u1 (am_u1 ρ (88 + 2 * n0) a) (88 + 2 * n0 + 1) b) 2 ((n0 : Int) + 1)) := RW_heard hRW hn0 (by omega) hf ht
        have hmx : ∀ j, 5 ≤ j → j < 30 → (am_u1 (am_u1 (am_u1 ρ (88 + 2 * n0) a) (88 + 2 * n0 + 1) b) 2 ((n0 : Int) + 1)) j = ρ j := fun j a b => (by unfold am_u1; (repeat' split) <;> first | rfl | (exfalso; omega))
        refine SP_row (x := ((n0 : Int) + 1)) (ρ' := (am_u1 (am_u1 (am_u1 ρ (88 + 2 * n0) a) (88 + 2 * n0 + 1) b) 2 ((n0 : Int) + 1))) (lg' := lg) (st' := 0) hW hC hM eK hS (fun _ _ _ => rfl) kC (CLg_fr hLg (fun q k a b => by by_cases e : q = 84 ∧ k = 4; (obtain ⟨e1, e2⟩ := e; subst e1; subst e2; exact k84); (exact kT.2 q k (by omega) e (by omega)))) kT.1 (fun q k h a1 a2 a3 => kT.2 q k a1 (by omega) a3) (fun q k a b => kT.2 q k (by omega) (by omega) (by omega)) (WR_mix w1 hrw hmx) (by unfold am_u1; (repeat' split) <;> first | rfl | (exfalso; omega)) (fun j hj => (by unfold am_u1; (repeat' split) <;> first | rfl | (exfalso; omega))) (fun hM1 => ?_)
        exact ⟨_, m_heard (d := 97) hS ht (hp1 hM1) (by rw [hM1.1.1]; exact hf) (n := n0) (by rw [hM1.1.1]; exact hn0) (by omega), by rw [u2_qf (by decide), u2_sf, u2_sf, u2_sf, u2_qf (by decide), hM1.1.1], MLg_mix (MLg_fr hM1.1.2.1 ((u2_o (by omega)).trans ((u2_o (by omega)).trans ((u2_o (by omega)).trans ((u2_o (by omega)).trans (u2_o (by omega)))))) (fun j _ => (u2_o (by omega)).trans ((u2_o (by omega)).trans ((u2_o (by omega)).trans ((u2_o (by omega)).trans (u2_o (by omega)))))) (fun j _ => (u2_o (by omega)).trans ((u2_o (by omega)).trans ((u2_o (by omega)).trans ((u2_o (by omega)).trans (u2_o (by omega))))))) w1 hmx, u2_e, (fun q k h a1 a2 a3 a4 => (u2_o (by unfold MK2 at h; omega)).trans ((u2_o (by unfold MK2 at h; omega)).trans ((u2_o (by unfold MK2 at h; omega)).trans ((u2_o (by unfold MK2 at h; omega)).trans (u2_o (by unfold MK2 at h; omega)))))), (fun q k h => (u2_o (by omega)).trans ((u2_o (by omega)).trans ((u2_o (by omega)).trans ((u2_o (by omega)).trans (u2_o (by omega))))))⟩
    · exact SP_rf (x := -2) hW hC hM 2 (by unfold RKk; omega) (k_heard_n (d := 97) hS hE ht hf (hrk 2 (by unfold RKk; omega))) (RFk_LF LF_refl rfl) (fun hM1 => ⟨_, m_heard_n (d := 97) hS ht (hp1 hM1) (by rw [hM1.1.1]; exact hf) (hrm hM1 2 (by unfold RKk; omega)), RFm_TF TF_refl⟩)
  · exact SP_rf (x := -1) hW hC hM 1 (by unfold RKk; omega) (k_heard_b (d := 97) hS hE ht (hrk 1 (by unfold RKk; omega))) (RFk_LF LF_refl rfl) (fun hM1 => ⟨_, m_heard_b (d := 97) hS ht (hrm hM1 1 (by unfold RKk; omega)), RFm_TF TF_refl⟩)
theorem P_forget {L : Nat} {xs : Nat → Int32} {c : Nat} {G : am_G} {I : Nat → Nat → Int} {P : Nat → Nat → Option Nat} (hR : REL L xs c G I P) (hc : c ≤ 600)   : SP L xs c G I P Sum.inl 135 260 [] := by
  obtain ⟨ρ, lg, ll, tn, tb, fa, wr, st, sp, rf, ik0, ir0, il0, ik1, ir1, il1, dk, dr, hW, hC, hM⟩ := hR
  obtain ⟨w1, w2, w3, w4, w5, w6, w7, w8⟩ := id hW
  obtain ⟨hS, hK, ⟨hCC, hLg, hLw, hTN⟩, ⟨t1, t2⟩, ⟨s1, s2, s3, s4⟩, hRf, hI0, hI1, ⟨hDr, hLO⟩, hG, hX⟩ := id hC
  have hRW := (WR_0 w1).1
  have h59 := (WR_0 w1).2
  have hLN := LawNow_of hRW w2
  have hBN := BarN_of hRW w2
  have hE : CE G I P 65 ρ (nfo ρ ll) (cfo ρ ll) := ⟨hCC, hRW, LWn_of (c := 65) hRW hLw⟩
  have hN := TN_of hTN
  have h0 := RW_n0 hRW
  have h1 := RW_n1 hRW
  have h2 := RW_n2 hRW
  have h3 := RW_n3 hRW
  have h8 := RW_sm hRW
  have hrk : ∀ k, RKk k → 0 ≤ I 173 k ∧ I 173 k ≤ 1000000 := fun k hk => by have := w5 k hk; rw [hRf k hk]; omega
  have hrm : ∀ {J : Nat → Nat → Int}, MI ρ lg ll tn tb fa wr st sp rf ik0 ir0 il0 ik1 ir1 il1 dk dr J → ∀ k, RKk k → 0 ≤ J 209 k ∧ J 209 k ≤ 1000000 := fun hJ k hk => by have := w5 k hk; rw [hJ.2.2.2.2.1 k hk]; omega
  have hme : ∀ {J : Nat → Nat → Int}, MI ρ lg ll tn tb fa wr st sp rf ik0 ir0 il0 ik1 ir1 il1 dk dr J → ME J ρ (nfo ρ ll) (cfo ρ ll) := fun hJ => ⟨hJ.1.1, hRW, hLN, hJ.1.2.2⟩
  have hzz : ∀ {J : Nat → Nat → Int}, MI ρ lg ll tn tb fa wr st sp rf ik0 ir0 il0 ik1 ir1 il1 dk dr J → (am_u2 J 208 0 0) 210 = ρ := fun hJ => (u2_qf (by decide)).trans hJ.1.1
  obtain ⟨I1, eK, kC, kT⟩ := k_forgetc (d := 97) hS hE
  have hrw : RW (am_u1 ρ 2 0) := RW_forget hRW
  have hmx : ∀ j, 5 ≤ j → j < 30 → (am_u1 ρ 2 0) j = ρ j := fun j a b => (by unfold am_u1; (repeat' split) <;> first | rfl | (exfalso; omega))
  refine SP_row (x := ρ 2) (ρ' := (am_u1 ρ 2 0)) (lg' := lg) (st' := st) hW hC hM eK hS (fun _ _ _ => rfl) kC (CLg_fr hLg (fun q k a b => kT q k (by omega))) ((kT _ _ (by decide)).trans s3) (fun q k h a1 a2 a3 => kT q k (by omega)) (fun q k a b => kT q k (by omega)) (WR_mix w1 hrw hmx) (by unfold am_u1; (repeat' split) <;> first | rfl | (exfalso; omega)) (fun j hj => (by unfold am_u1; (repeat' split) <;> first | rfl | (exfalso; omega))) (fun hM1 => ?_)
  exact ⟨_, by have e := m_forget (d := 99) (G := G) (I := I1) (P := P) hS; rw [hM1.1.1] at e; exact e, by rw [u2_sf, u2_qf (by decide), hM1.1.1], MLg_mix (MLg_fr hM1.1.2.1 ((u2_o (by omega)).trans (u2_o (by omega))) (fun j _ => (u2_o (by omega)).trans (u2_o (by omega))) (fun j _ => (u2_o (by omega)).trans (u2_o (by omega)))) w1 hmx, (u2_q (by decide)).trans ((u2_k (by decide)).trans hM1.2.2.2.1.2.2.1), (fun q k h a1 a2 a3 a4 => (u2_o (by unfold MK2 at h; omega)).trans (u2_o (by unfold MK2 at h; omega))), (fun q k h => (u2_o (by omega)).trans (u2_o (by omega)))⟩
theorem P_road {L : Nat} {xs : Nat → Int32} {c : Nat} {G : am_G} {I : Nat → Nat → Int} {P : Nat → Nat → Option Nat} (hR : REL L xs c G I P) (hc : c ≤ 600) {a b w : Int}  : SP L xs c G I P Sum.inl 112 189 [.inl a, .inl b, .inl w] := by
  obtain ⟨ρ, lg, ll, tn, tb, fa, wr, st, sp, rf, ik0, ir0, il0, ik1, ir1, il1, dk, dr, hW, hC, hM⟩ := hR
  obtain ⟨w1, w2, w3, w4, w5, w6, w7, w8⟩ := id hW
  obtain ⟨hS, hK, ⟨hCC, hLg, hLw, hTN⟩, ⟨t1, t2⟩, ⟨s1, s2, s3, s4⟩, hRf, hI0, hI1, ⟨hDr, hLO⟩, hG, hX⟩ := id hC
  have hRW := (WR_0 w1).1
  have h59 := (WR_0 w1).2
  have hLN := LawNow_of hRW w2
  have hBN := BarN_of hRW w2
  have hE : CE G I P 65 ρ (nfo ρ ll) (cfo ρ ll) := ⟨hCC, hRW, LWn_of (c := 65) hRW hLw⟩
  have hN := TN_of hTN
  have h0 := RW_n0 hRW
  have h1 := RW_n1 hRW
  have h2 := RW_n2 hRW
  have h3 := RW_n3 hRW
  have h8 := RW_sm hRW
  have hrk : ∀ k, RKk k → 0 ≤ I 173 k ∧ I 173 k ≤ 1000000 := fun k hk => by have := w5 k hk; rw [hRf k hk]; omega
  have hrm : ∀ {J : Nat → Nat → Int}, MI ρ lg ll tn tb fa wr st sp rf ik0 ir0 il0 ik1 ir1 il1 dk dr J → ∀ k, RKk k → 0 ≤ J 209 k ∧ J 209 k ≤ 1000000 := fun hJ k hk => by have := w5 k hk; rw [hJ.2.2.2.2.1 k hk]; omega
  have hme : ∀ {J : Nat → Nat → Int}, MI ρ lg ll tn tb fa wr st sp rf ik0 ir0 il0 ik1 ir1 il1 dk dr J → ME J ρ (nfo ρ ll) (cfo ρ ll) := fun hJ => ⟨hJ.1.1, hRW, hLN, hJ.1.2.2⟩
  have hzz : ∀ {J : Nat → Nat → Int}, MI ρ lg ll tn tb fa wr st sp rf ik0 ir0 il0 ik1 ir1 il1 dk dr J → (am_u2 J 208 0 0) 210 = ρ := fun hJ => (u2_qf (by decide)).trans hJ.1.1
  by_cases hb : (0 ≤ a ∧ a < 6) ∧ (0 ≤ b ∧ b < 6) ∧ ¬ a = b ∧ (0 ≤ w ∧ w ≤ 9)
  · obtain ⟨an, rfl⟩ : ∃ n0 : Nat, a = (n0 : Int) := ⟨a.toNat, by omega⟩
    obtain ⟨bn, rfl⟩ : ∃ n0 : Nat, b = (n0 : Int) := ⟨b.toNat, by omega⟩
    have ha6 : an < 6 := by omega
    have hb6 : bn < 6 := by omega
    have hab : ¬ an = bn := by omega
    obtain ⟨I1, eK, kC, k16, kT⟩ := k_roadc (d := 96) hS hE ha6 hb6 hab hb.2.2.2
    have hrw : RW (m_road1 ρ an bn w) := RW_road1 hRW ha6 hb6 hab hb.2.2.2
    have hmx : ∀ j, 5 ≤ j → j < 30 → (m_road1 ρ an bn w) j = ρ j := fun j a b => (by unfold m_road1 am_u1; (repeat' split) <;> first | rfl | (exfalso; omega))
    refine SP_row (x := ρ (52 + 6 * an + bn)) (ρ' := (m_road1 ρ an bn w)) (lg' := lg) (st' := 0) hW hC hM eK hS (fun _ _ _ => rfl) kC (CLg_fr hLg (fun q k a b => kT q k (by omega) (by omega) (by omega))) k16 (fun q k h a1 a2 a3 => kT q k (by omega) (by omega) (by omega)) (fun q k a b => kT q k (by omega) (by omega) (by omega)) (WR_mix w1 hrw hmx) (by unfold m_road1 am_u1; (repeat' split) <;> first | rfl | (exfalso; omega)) (fun j hj => (by unfold m_road1 am_u1; (repeat' split) <;> first | rfl | (exfalso; omega))) (fun hM1 => ?_)
    exact ⟨_, by have e := m_road (d := 96) (G := G) (I := I1) (P := P) (b := an) (o := bn) (len := w) hS ha6 hb6 hab hb.2.2.2 (by rw [hM1.1.1]; exact (by have := RW_ro hRW (6 * an + bn) (by omega); rw [show 52 + (6 * an + bn) = 52 + 6 * an + bn by omega] at this; exact this.1)); rw [hM1.1.1] at e; exact e, by rw [u2_qf (by decide), u2_sf, u2_sf, u2_qf (by decide), hM1.1.1]; rfl, MLg_mix (MLg_fr hM1.1.2.1 ((u2_o (by omega)).trans ((u2_o (by omega)).trans ((u2_o (by omega)).trans (u2_o (by omega))))) (fun j _ => (u2_o (by omega)).trans ((u2_o (by omega)).trans ((u2_o (by omega)).trans (u2_o (by omega))))) (fun j _ => (u2_o (by omega)).trans ((u2_o (by omega)).trans ((u2_o (by omega)).trans (u2_o (by omega)))))) w1 hmx, u2_e, (fun q k h a1 a2 a3 a4 => (u2_o (by unfold MK2 at h; omega)).trans ((u2_o (by unfold MK2 at h; omega)).trans ((u2_o (by unfold MK2 at h; omega)).trans (u2_o (by unfold MK2 at h; omega))))), (fun q k h => (u2_o (by omega)).trans ((u2_o (by omega)).trans ((u2_o (by omega)).trans (u2_o (by omega)))))⟩
  · exact SP_rf (x := -1) hW hC hM 1 (by unfold RKk; omega) (k_road_b (d := 96) hS hE hb (hrk 1 (by unfold RKk; omega))) (RFk_LF LF_refl rfl) (fun hM1 => ⟨_, m_road_b (d := 96) hS hb (hrm hM1 1 (by unfold RKk; omega)), RFm_TF TF_refl⟩)
theorem P_ring {L : Nat} {xs : Nat → Int32} {c : Nat} {G : am_G} {I : Nat → Nat → Int} {P : Nat → Nat → Option Nat} (hR : REL L xs c G I P) (hc : c ≤ 600) {a b : Int}  : SP L xs c G I P Sum.inl 124 239 [.inl a, .inl b] := by
  obtain ⟨ρ, lg, ll, tn, tb, fa, wr, st, sp, rf, ik0, ir0, il0, ik1, ir1, il1, dk, dr, hW, hC, hM⟩ := hR
  obtain ⟨w1, w2, w3, w4, w5, w6, w7, w8⟩ := id hW
  obtain ⟨hS, hK, ⟨hCC, hLg, hLw, hTN⟩, ⟨t1, t2⟩, ⟨s1, s2, s3, s4⟩, hRf, hI0, hI1, ⟨hDr, hLO⟩, hG, hX⟩ := id hC
  have hRW := (WR_0 w1).1
  have h59 := (WR_0 w1).2
  have hLN := LawNow_of hRW w2
  have hBN := BarN_of hRW w2
  have hE : CE G I P 65 ρ (nfo ρ ll) (cfo ρ ll) := ⟨hCC, hRW, LWn_of (c := 65) hRW hLw⟩
  have hN := TN_of hTN
  have h0 := RW_n0 hRW
  have h1 := RW_n1 hRW
  have h2 := RW_n2 hRW
  have h3 := RW_n3 hRW
  have h8 := RW_sm hRW
  have hrk : ∀ k, RKk k → 0 ≤ I 173 k ∧ I 173 k ≤ 1000000 := fun k hk => by have := w5 k hk; rw [hRf k hk]; omega
  have hrm : ∀ {J : Nat → Nat → Int}, MI ρ lg ll tn tb fa wr st sp rf ik0 ir0 il0 ik1 ir1 il1 dk dr J → ∀ k, RKk k → 0 ≤ J 209 k ∧ J 209 k ≤ 1000000 := fun hJ k hk => by have := w5 k hk; rw [hJ.2.2.2.2.1 k hk]; omega
  have hme : ∀ {J : Nat → Nat → Int}, MI ρ lg ll tn tb fa wr st sp rf ik0 ir0 il0 ik1 ir1 il1 dk dr J → ME J ρ (nfo ρ ll) (cfo ρ ll) := fun hJ => ⟨hJ.1.1, hRW, hLN, hJ.1.2.2⟩
  have hzz : ∀ {J : Nat → Nat → Int}, MI ρ lg ll tn tb fa wr st sp rf ik0 ir0 il0 ik1 ir1 il1 dk dr J → (am_u2 J 208 0 0) 210 = ρ := fun hJ => (u2_qf (by decide)).trans hJ.1.1
  obtain ⟨l1, l2, nx, l3, l4, l5⟩ := id hLg
  by_cases hb : (0 ≤ a ∧ a < ρ 0) ∧ (0 ≤ b ∧ b < ρ 1)
  · obtain ⟨cn, rfl⟩ : ∃ n0 : Nat, a = (n0 : Int) := ⟨a.toNat, by omega⟩
    obtain ⟨f, rfl⟩ : ∃ n0 : Nat, b = (n0 : Int) := ⟨b.toNat, by omega⟩
    by_cases hcan : m_can ρ (nfo ρ ll) (cfo ρ ll) cn f
    · have hq := oact_0t (ρ := ρ) (n := nfo ρ ll) (cl := cfo ρ ll) (a := (cn : Int)) (b := (f : Int)) ⟨hb, by rw [Int.toNat_natCast, Int.toNat_natCast]; exact hcan⟩
      rw [Int.toNat_natCast, Int.toNat_natCast] at hq
      rcases RW_en hRW f (by omega) with he | he
      · obtain ⟨I1, eK, kD⟩ := k_ringc_0 (d := 94) hS hE hb.1.2 hb.2.2 hBN hcan he l4 l3 l2 l1
        have er : m_ringr ρ (nfo ρ ll) (cfo ρ ll) cn f = am_u1 ρ (25 + f) (m_within (ρ (25 + f) + m_told ρ (nfo ρ ll) (cfo ρ ll) cn f) 0 999) := by unfold m_ringr; rw [if_neg (by omega)]
        have ev : m_ringv ρ (nfo ρ ll) (cfo ρ ll) cn f = m_told ρ (nfo ρ ll) (cfo ρ ll) cn f := by unfold m_ringv; rw [if_neg (by omega)]
        have eg : rgE ρ f = (0, (f : Int), ρ (25 + f)) := by unfold rgE; rw [if_neg (by omega)]
        rw [← er] at kD
        rw [← ev] at eK
        obtain ⟨o1, o2, o3, o4, o5, o6, o7⟩ := oact_ok (by decide) hRW h59 hq
        obtain ⟨kE, kG, k16, kf⟩ := kD
        have kL := CLg_deed l1 l3 l5 kG
        rw [← eg] at kL
        refine SP_row (x := m_ringv ρ (nfo ρ ll) (cfo ρ ll) cn f) (ρ' := (m_ringr ρ (nfo ρ ll) (cfo ρ ll) cn f)) (lg' := kpl (rgE ρ f) lg) (st' := 0) hW hC hM eK hS (fun _ _ _ => rfl) kE.1 kL k16 (fun q k h a1 a2 a3 => kf q k a2 (by unfold CK at h; omega) (by unfold CK at h; omega) a1 a3) (fun q k a b => kf q k (by omega) (by omega) (by omega) (by omega) (by omega)) (WR_deed w1 o1 o2 o3 o4) (o6 3 (by omega)) (fun j hj => o6 j (by omega)) (fun hM1 => ?_)
        obtain ⟨I2, eM, m1, m2, m3, m4, m5, m6⟩ := m_ring (d := 90) hS (hme hM1) hb.1.2 hb.2.2 hM1.1.2.1.2.1 hM1.1.2.1.1 hcan
        exact ⟨I2, eM, m1, MLg_deed (x := (rgE ρ f)) hM1.1.2.1 o3 m2 (m3.trans (by rw [o7]; rfl)) m4, m5, fun q k h a1 a2 a3 a4 => m6 q k (by unfold MK2 at h; omega) (by unfold MK2 at h; omega) a1 a2 a3 (by unfold MK2 at h; omega) (by unfold MK2 at h; omega), fun q k h => m6 q k (by omega) (by omega) (by omega) (by omega) (by omega) (by omega) (by omega)⟩
      · obtain ⟨I1, eK, kD⟩ := k_ringc_1 (d := 94) hS hE hb.1.2 hb.2.2 hBN hcan he l4 l3 l2 l1
        have er : m_ringr ρ (nfo ρ ll) (cfo ρ ll) cn f = am_u1 ρ (20 + f) (m_within (ρ (20 + f) + m_soak ρ (nfo ρ ll) (cfo ρ ll) cn f) 0 999) := by unfold m_ringr; rw [if_pos he]
        have ev : m_ringv ρ (nfo ρ ll) (cfo ρ ll) cn f = m_soak ρ (nfo ρ ll) (cfo ρ ll) cn f := by unfold m_ringv; rw [if_pos he]
        have eg : rgE ρ f = (0, (f : Int) + 5, ρ (20 + f)) := by unfold rgE; rw [if_pos he]
        rw [← er] at kD
        rw [← ev] at eK
        obtain ⟨o1, o2, o3, o4, o5, o6, o7⟩ := oact_ok (by decide) hRW h59 hq
        obtain ⟨kE, kG, k16, kf⟩ := kD
        have kL := CLg_deed l1 l3 l5 kG
        rw [← eg] at kL
        refine SP_row (x := m_ringv ρ (nfo ρ ll) (cfo ρ ll) cn f) (ρ' := (m_ringr ρ (nfo ρ ll) (cfo ρ ll) cn f)) (lg' := kpl (rgE ρ f) lg) (st' := 0) hW hC hM eK hS (fun _ _ _ => rfl) kE.1 kL k16 (fun q k h a1 a2 a3 => kf q k a2 (by unfold CK at h; omega) (by unfold CK at h; omega) a1 a3) (fun q k a b => kf q k (by omega) (by omega) (by omega) (by omega) (by omega)) (WR_deed w1 o1 o2 o3 o4) (o6 3 (by omega)) (fun j hj => o6 j (by omega)) (fun hM1 => ?_)
        obtain ⟨I2, eM, m1, m2, m3, m4, m5, m6⟩ := m_ring (d := 90) hS (hme hM1) hb.1.2 hb.2.2 hM1.1.2.1.2.1 hM1.1.2.1.1 hcan
        exact ⟨I2, eM, m1, MLg_deed (x := (rgE ρ f)) hM1.1.2.1 o3 m2 (m3.trans (by rw [o7]; rfl)) m4, m5, fun q k h a1 a2 a3 a4 => m6 q k (by unfold MK2 at h; omega) (by unfold MK2 at h; omega) a1 a2 a3 (by unfold MK2 at h; omega) (by unfold MK2 at h; omega), fun q k h => m6 q k (by omega) (by omega) (by omega) (by omega) (by omega) (by omega) (by omega)⟩
    · obtain ⟨I1, eK, kD⟩ := k_ringc_c (d := 94) hS hE hb.1.2 hb.2.2 hBN hcan (hrk 3 (by unfold RKk; omega))
      exact SP_rf (x := -3) hW hC hM 3 (by unfold RKk; omega) eK kD (fun hM1 => m_ring_c (d := 90) hS (hme hM1) hb.1.2 hb.2.2 hcan (hrm hM1 3 (by unfold RKk; omega)))
  · obtain ⟨I1, eK, kD⟩ := k_ringc_n (d := 94) hS hE hb (hrk 2 (by unfold RKk; omega))
    exact SP_rf (x := -2) hW hC hM 2 (by unfold RKk; omega) eK kD (fun hM1 => m_ring_n (d := 90) hS (hme hM1) hb (hrm hM1 2 (by unfold RKk; omega)))
theorem P_engage {L : Nat} {xs : Nat → Int32} {c : Nat} {G : am_G} {I : Nat → Nat → Int} {P : Nat → Nat → Option Nat} (hR : REL L xs c G I P) (hc : c ≤ 600) {a : Int}  : SP L xs c G I P Sum.inl 125 241 [.inl a] := by
  obtain ⟨ρ, lg, ll, tn, tb, fa, wr, st, sp, rf, ik0, ir0, il0, ik1, ir1, il1, dk, dr, hW, hC, hM⟩ := hR
  obtain ⟨w1, w2, w3, w4, w5, w6, w7, w8⟩ := id hW
  obtain ⟨hS, hK, ⟨hCC, hLg, hLw, hTN⟩, ⟨t1, t2⟩, ⟨s1, s2, s3, s4⟩, hRf, hI0, hI1, ⟨hDr, hLO⟩, hG, hX⟩ := id hC
  have hRW := (WR_0 w1).1
  have h59 := (WR_0 w1).2
  have hLN := LawNow_of hRW w2
  have hBN := BarN_of hRW w2
  have hE : CE G I P 65 ρ (nfo ρ ll) (cfo ρ ll) := ⟨hCC, hRW, LWn_of (c := 65) hRW hLw⟩
  have hN := TN_of hTN
  have h0 := RW_n0 hRW
  have h1 := RW_n1 hRW
  have h2 := RW_n2 hRW
  have h3 := RW_n3 hRW
  have h8 := RW_sm hRW
  have hrk : ∀ k, RKk k → 0 ≤ I 173 k ∧ I 173 k ≤ 1000000 := fun k hk => by have := w5 k hk; rw [hRf k hk]; omega
  have hrm : ∀ {J : Nat → Nat → Int}, MI ρ lg ll tn tb fa wr st sp rf ik0 ir0 il0 ik1 ir1 il1 dk dr J → ∀ k, RKk k → 0 ≤ J 209 k ∧ J 209 k ≤ 1000000 := fun hJ k hk => by have := w5 k hk; rw [hJ.2.2.2.2.1 k hk]; omega
  have hme : ∀ {J : Nat → Nat → Int}, MI ρ lg ll tn tb fa wr st sp rf ik0 ir0 il0 ik1 ir1 il1 dk dr J → ME J ρ (nfo ρ ll) (cfo ρ ll) := fun hJ => ⟨hJ.1.1, hRW, hLN, hJ.1.2.2⟩
  have hzz : ∀ {J : Nat → Nat → Int}, MI ρ lg ll tn tb fa wr st sp rf ik0 ir0 il0 ik1 ir1 il1 dk dr J → (am_u2 J 208 0 0) 210 = ρ := fun hJ => (u2_qf (by decide)).trans hJ.1.1
  obtain ⟨l1, l2, nx, l3, l4, l5⟩ := id hLg
  by_cases hb : 0 ≤ a ∧ a < ρ 1
  · obtain ⟨f, rfl⟩ : ∃ n0 : Nat, a = (n0 : Int) := ⟨a.toNat, by omega⟩
    have hq := oact_1t (ρ := ρ) (n := nfo ρ ll) (cl := cfo ρ ll) (a := (f : Int)) (b := 0) hb
    rw [Int.toNat_natCast] at hq
    obtain ⟨I1, eK, kD⟩ := k_engagec (d := 94) hS hE hb.2 l4 l3 l2 l1
    obtain ⟨o1, o2, o3, o4, o5, o6, o7⟩ := oact_ok (by decide) hRW h59 hq
    obtain ⟨kE, kG, k16, kf⟩ := kD
    have kL := CLg_deed l1 l3 l5 kG
    skip
    refine SP_row (x := 1 - ρ (15 + f)) (ρ' := (am_u1 ρ (15 + f) (1 - ρ (15 + f)))) (lg' := kpl ((1, (f : Int), ρ (15 + f)) : De) lg) (st' := 0) hW hC hM eK hS (fun _ _ _ => rfl) kE.1 kL k16 (fun q k h a1 a2 a3 => kf q k a2 (by unfold CK at h; omega) (by unfold CK at h; omega) a1 a3) (fun q k a b => kf q k (by omega) (by omega) (by omega) (by omega) (by omega)) (WR_deed w1 o1 o2 o3 o4) (o6 3 (by omega)) (fun j hj => o6 j (by omega)) (fun hM1 => ?_)
    obtain ⟨I2, eM, m1, m2, m3, m4, m5, m6⟩ := m_engage (d := 96) hS (hme hM1) hb.2 hM1.1.2.1.2.1 hM1.1.2.1.1
    exact ⟨I2, eM, m1, MLg_deed (x := ((1, (f : Int), ρ (15 + f)) : De)) hM1.1.2.1 o3 m2 (m3.trans (by rw [o7]; rfl)) m4, m5, fun q k h a1 a2 a3 a4 => m6 q k (by unfold MK2 at h; omega) (by unfold MK2 at h; omega) a1 a2 a3 (by unfold MK2 at h; omega) (by unfold MK2 at h; omega), fun q k h => m6 q k (by omega) (by omega) (by omega) (by omega) (by omega) (by omega) (by omega)⟩
  · obtain ⟨I1, eK, kD⟩ := k_engagec_n (d := 94) hS hE hb (hrk 2 (by unfold RKk; omega))
    exact SP_rf (x := -2) hW hC hM 2 (by unfold RKk; omega) eK kD (fun hM1 => m_engage_n (d := 96) hS (hme hM1) hb (hrm hM1 2 (by unfold RKk; omega)))
theorem P_smash {L : Nat} {xs : Nat → Int32} {c : Nat} {G : am_G} {I : Nat → Nat → Int} {P : Nat → Nat → Option Nat} (hR : REL L xs c G I P) (hc : c ≤ 600) {a : Int}  : SP L xs c G I P Sum.inl 126 243 [.inl a] := by
  obtain ⟨ρ, lg, ll, tn, tb, fa, wr, st, sp, rf, ik0, ir0, il0, ik1, ir1, il1, dk, dr, hW, hC, hM⟩ := hR
  obtain ⟨w1, w2, w3, w4, w5, w6, w7, w8⟩ := id hW
  obtain ⟨hS, hK, ⟨hCC, hLg, hLw, hTN⟩, ⟨t1, t2⟩, ⟨s1, s2, s3, s4⟩, hRf, hI0, hI1, ⟨hDr, hLO⟩, hG, hX⟩ := id hC
  have hRW := (WR_0 w1).1
  have h59 := (WR_0 w1).2
  have hLN := LawNow_of hRW w2
  have hBN := BarN_of hRW w2
  have hE : CE G I P 65 ρ (nfo ρ ll) (cfo ρ ll) := ⟨hCC, hRW, LWn_of (c := 65) hRW hLw⟩
  have hN := TN_of hTN
  have h0 := RW_n0 hRW
  have h1 := RW_n1 hRW
  have h2 := RW_n2 hRW
  have h3 := RW_n3 hRW
  have h8 := RW_sm hRW
  have hrk : ∀ k, RKk k → 0 ≤ I 173 k ∧ I 173 k ≤ 1000000 := fun k hk => by have := w5 k hk; rw [hRf k hk]; omega
  have hrm : ∀ {J : Nat → Nat → Int}, MI ρ lg ll tn tb fa wr st sp rf ik0 ir0 il0 ik1 ir1 il1 dk dr J → ∀ k, RKk k → 0 ≤ J 209 k ∧ J 209 k ≤ 1000000 := fun hJ k hk => by have := w5 k hk; rw [hJ.2.2.2.2.1 k hk]; omega
  have hme : ∀ {J : Nat → Nat → Int}, MI ρ lg ll tn tb fa wr st sp rf ik0 ir0 il0 ik1 ir1 il1 dk dr J → ME J ρ (nfo ρ ll) (cfo ρ ll) := fun hJ => ⟨hJ.1.1, hRW, hLN, hJ.1.2.2⟩
  have hzz : ∀ {J : Nat → Nat → Int}, MI ρ lg ll tn tb fa wr st sp rf ik0 ir0 il0 ik1 ir1 il1 dk dr J → (am_u2 J 208 0 0) 210 = ρ := fun hJ => (u2_qf (by decide)).trans hJ.1.1
  obtain ⟨l1, l2, nx, l3, l4, l5⟩ := id hLg
  by_cases hb : 0 ≤ a ∧ a < 6
  · obtain ⟨f, rfl⟩ : ∃ n0 : Nat, a = (n0 : Int) := ⟨a.toNat, by omega⟩
    have hq := oact_2t (ρ := ρ) (n := nfo ρ ll) (cl := cfo ρ ll) (a := (f : Int)) (b := 0) hb
    rw [Int.toNat_natCast] at hq
    obtain ⟨I1, eK, kD⟩ := k_smashc (d := 94) hS hE (b := f) (by omega) l4 l3 l2 l1
    obtain ⟨o1, o2, o3, o4, o5, o6, o7⟩ := oact_ok (by decide) hRW h59 hq
    obtain ⟨kE, kG, k16, kf⟩ := kD
    have kL := CLg_deed l1 l3 l5 kG
    skip
    refine SP_row (x := ((((ρ 8).toNat ^^^ 2 ^ f) >>> f &&& 1 : Nat) : Int)) (ρ' := (am_u1 ρ 8 (((ρ 8).toNat ^^^ 2 ^ f : Nat) : Int))) (lg' := kpl ((2, (f : Int), ρ 8) : De) lg) (st' := 0) hW hC hM eK hS (fun _ _ _ => rfl) kE.1 kL k16 (fun q k h a1 a2 a3 => kf q k a2 (by unfold CK at h; omega) (by unfold CK at h; omega) a1 a3) (fun q k a b => kf q k (by omega) (by omega) (by omega) (by omega) (by omega)) (WR_deed w1 o1 o2 o3 o4) (o6 3 (by omega)) (fun j hj => o6 j (by omega)) (fun hM1 => ?_)
    obtain ⟨I2, eM, m1, m2, m3, m4, m5, m6⟩ := m_smash (d := 96) hS (hme hM1) (b := f) (by omega) hM1.1.2.1.2.1 hM1.1.2.1.1
    exact ⟨I2, eM, m1, MLg_deed (x := ((2, (f : Int), ρ 8) : De)) hM1.1.2.1 o3 m2 (m3.trans (by rw [o7]; rfl)) m4, m5, fun q k h a1 a2 a3 a4 => m6 q k (by unfold MK2 at h; omega) (by unfold MK2 at h; omega) a1 a2 a3 (by unfold MK2 at h; omega) (by unfold MK2 at h; omega), fun q k h => m6 q k (by omega) (by omega) (by omega) (by omega) (by omega) (by omega) (by omega)⟩
  · obtain ⟨I1, eK, kD⟩ := k_smashc_n (d := 94) hS hb (hrk 1 (by unfold RKk; omega))
    exact SP_rf (x := -1) hW hC hM 1 (by unfold RKk; omega) eK kD (fun hM1 => m_smash_n (d := 96) hS (hme hM1) hb (hrm hM1 1 (by unfold RKk; omega)))
theorem P_pass {L : Nat} {xs : Nat → Int32} {c : Nat} {G : am_G} {I : Nat → Nat → Int} {P : Nat → Nat → Option Nat} (hR : REL L xs c G I P) (hc : c ≤ 600)   : SP L xs c G I P Sum.inl 127 246 [] := by
  obtain ⟨ρ, lg, ll, tn, tb, fa, wr, st, sp, rf, ik0, ir0, il0, ik1, ir1, il1, dk, dr, hW, hC, hM⟩ := hR
  obtain ⟨w1, w2, w3, w4, w5, w6, w7, w8⟩ := id hW
  obtain ⟨hS, hK, ⟨hCC, hLg, hLw, hTN⟩, ⟨t1, t2⟩, ⟨s1, s2, s3, s4⟩, hRf, hI0, hI1, ⟨hDr, hLO⟩, hG, hX⟩ := id hC
  have hRW := (WR_0 w1).1
  have h59 := (WR_0 w1).2
  have hLN := LawNow_of hRW w2
  have hBN := BarN_of hRW w2
  have hE : CE G I P 65 ρ (nfo ρ ll) (cfo ρ ll) := ⟨hCC, hRW, LWn_of (c := 65) hRW hLw⟩
  have hN := TN_of hTN
  have h0 := RW_n0 hRW
  have h1 := RW_n1 hRW
  have h2 := RW_n2 hRW
  have h3 := RW_n3 hRW
  have h8 := RW_sm hRW
  have hrk : ∀ k, RKk k → 0 ≤ I 173 k ∧ I 173 k ≤ 1000000 := fun k hk => by have := w5 k hk; rw [hRf k hk]; omega
  have hrm : ∀ {J : Nat → Nat → Int}, MI ρ lg ll tn tb fa wr st sp rf ik0 ir0 il0 ik1 ir1 il1 dk dr J → ∀ k, RKk k → 0 ≤ J 209 k ∧ J 209 k ≤ 1000000 := fun hJ k hk => by have := w5 k hk; rw [hJ.2.2.2.2.1 k hk]; omega
  have hme : ∀ {J : Nat → Nat → Int}, MI ρ lg ll tn tb fa wr st sp rf ik0 ir0 il0 ik1 ir1 il1 dk dr J → ME J ρ (nfo ρ ll) (cfo ρ ll) := fun hJ => ⟨hJ.1.1, hRW, hLN, hJ.1.2.2⟩
  have hzz : ∀ {J : Nat → Nat → Int}, MI ρ lg ll tn tb fa wr st sp rf ik0 ir0 il0 ik1 ir1 il1 dk dr J → (am_u2 J 208 0 0) 210 = ρ := fun hJ => (u2_qf (by decide)).trans hJ.1.1
  obtain ⟨l1, l2, nx, l3, l4, l5⟩ := id hLg
  by_cases hb : ρ 5 < 999
  · have hq := oact_3t (ρ := ρ) (n := nfo ρ ll) (cl := cfo ρ ll) (a := 0) (b := 0) hb
    obtain ⟨I1, eK, kD⟩ := k_passc (d := 94) hS hE hb hK.2.1.1 l4 l3 l2 l1
    obtain ⟨o1, o2, o3, o4, o5, o6, o7⟩ := oact_ok (by decide) hRW h59 hq
    obtain ⟨kE, kG, k16, kf⟩ := kD
    have kL := CLg_deed l1 l3 l5 kG
    skip
    refine SP_row (x := m_pass ρ (nfo ρ ll) (cfo ρ ll) 5) (ρ' := (m_pass ρ (nfo ρ ll) (cfo ρ ll))) (lg' := kpl ((3, -1, ((pk ρ : Nat) : Int)) : De) lg) (st' := 0) hW hC hM eK hS (fun _ _ _ => rfl) kE.1 kL k16 (fun q k h a1 a2 a3 => kf q k a2 (by unfold CK at h; omega) (by unfold CK at h; omega) a1 a3) (fun q k a b => kf q k (by omega) (by omega) (by omega) (by omega) (by omega)) (WR_deed w1 o1 o2 o3 o4) (o6 3 (by omega)) (fun j hj => o6 j (by omega)) (fun hM1 => ?_)
    obtain ⟨I2, eM, m1, m2, m3, m4, m5, m6⟩ := m_pass_c (d := 90) hS (hme hM1) (by omega) hM1.1.2.1.2.1 hM1.1.2.1.1
    exact ⟨I2, eM, m1, MLg_deed (x := ((3, -1, ((pk ρ : Nat) : Int)) : De)) hM1.1.2.1 o3 m2 (m3.trans (by rw [o7]; rfl)) m4, m5, fun q k h a1 a2 a3 a4 => m6 q k (by unfold MK2 at h; omega) (by unfold MK2 at h; omega) a1 a2 a3 (by unfold MK2 at h; omega) (by unfold MK2 at h; omega), fun q k h => m6 q k (by omega) (by omega) (by omega) (by omega) (by omega) (by omega) (by omega)⟩
  · obtain ⟨I1, eK, kD⟩ := k_passc_n (d := 94) hS hE hb hK.2.1.1 (hrk 3 (by unfold RKk; omega))
    exact SP_rf (x := -3) hW hC hM 3 (by unfold RKk; omega) eK kD (fun hM1 => m_pass_n (d := 90) hS (hme hM1) (by omega) (hrm hM1 3 (by unfold RKk; omega)))
theorem P_undo {L : Nat} {xs : Nat → Int32} {c : Nat} {G : am_G} {I : Nat → Nat → Int} {P : Nat → Nat → Option Nat} (hR : REL L xs c G I P) (hc : c ≤ 600)   : SP L xs c G I P Sum.inl 128 171 [] := by
  obtain ⟨ρ, lg, ll, tn, tb, fa, wr, st, sp, rf, ik0, ir0, il0, ik1, ir1, il1, dk, dr, hW, hC, hM⟩ := hR
  obtain ⟨w1, w2, w3, w4, w5, w6, w7, w8⟩ := id hW
  obtain ⟨hS, hK, ⟨hCC, hLg, hLw, hTN⟩, ⟨t1, t2⟩, ⟨s1, s2, s3, s4⟩, hRf, hI0, hI1, ⟨hDr, hLO⟩, hG, hX⟩ := id hC
  have hRW := (WR_0 w1).1
  have h59 := (WR_0 w1).2
  have hLN := LawNow_of hRW w2
  have hBN := BarN_of hRW w2
  have hE : CE G I P 65 ρ (nfo ρ ll) (cfo ρ ll) := ⟨hCC, hRW, LWn_of (c := 65) hRW hLw⟩
  have hN := TN_of hTN
  have h0 := RW_n0 hRW
  have h1 := RW_n1 hRW
  have h2 := RW_n2 hRW
  have h3 := RW_n3 hRW
  have h8 := RW_sm hRW
  have hrk : ∀ k, RKk k → 0 ≤ I 173 k ∧ I 173 k ≤ 1000000 := fun k hk => by have := w5 k hk; rw [hRf k hk]; omega
  have hrm : ∀ {J : Nat → Nat → Int}, MI ρ lg ll tn tb fa wr st sp rf ik0 ir0 il0 ik1 ir1 il1 dk dr J → ∀ k, RKk k → 0 ≤ J 209 k ∧ J 209 k ≤ 1000000 := fun hJ k hk => by have := w5 k hk; rw [hJ.2.2.2.2.1 k hk]; omega
  have hme : ∀ {J : Nat → Nat → Int}, MI ρ lg ll tn tb fa wr st sp rf ik0 ir0 il0 ik1 ir1 il1 dk dr J → ME J ρ (nfo ρ ll) (cfo ρ ll) := fun hJ => ⟨hJ.1.1, hRW, hLN, hJ.1.2.2⟩
  have hzz : ∀ {J : Nat → Nat → Int}, MI ρ lg ll tn tb fa wr st sp rf ik0 ir0 il0 ik1 ir1 il1 dk dr J → (am_u2 J 208 0 0) 210 = ρ := fun hJ => (u2_qf (by decide)).trans hJ.1.1
  obtain ⟨l1, l2, nx, l3, l4, l5⟩ := id hLg
  cases lg with
  | nil =>
    have l2 : I 84 4 = 0 := l2
    obtain ⟨I1, eK, kD⟩ := k_undoc_e (d := 94) hS hE l2 (hrk 3 (by unfold RKk; omega))
    exact SP_rf (x := -3) hW hC hM 3 (by unfold RKk; omega) eK kD (fun hM1 => ⟨_, c_undo_0 (d := 98) hS hM1.1.2.1.2.1 (hrm hM1 3 (by unfold RKk; omega)), RFm_TF TF_refl⟩)
  | cons x l =>
    have hl16 : l.length + 1 ≤ 16 := l1
    have l2 : I 84 4 = (l.length : Int) + 1 := by rw [l2]; show ((l.length + 1 : Nat) : Int) = _; omega
    have he := (w1.2.2 0 (by show 0 < l.length + 1; omega)).1
    have he : eok x.1 x.2.1 x.2.2 := he
    have hwu := WR_undo w1
    obtain ⟨q1, q2, q3⟩ := l5 0 (by show 0 < l.length + 1; omega)
    obtain ⟨I1, eK, kE, k3, k4, k16, kf⟩ := k_undoc (d := 94) hS hE l4 l3 l2 (by omega) q1 q2 q3 he (WR_0 hwu).1
    have kL : CLg I1 l := CLg_undo l1 l3 l5 k3 k4 (fun q k a b => kf q k (by omega) (by omega) (by omega))
    have hdv : 0 ≤ x.1 := by unfold eok at he; omega
    refine SP_row (x := x.1) (ρ' := und x.1 x.2.1 x.2.2 ρ) (lg' := l) (st' := 0) hW hC hM eK hS (fun _ _ _ => rfl) kE.1 kL k16 (fun q k h a1 a2 a3 => kf q k (by omega) a1 a3) (fun q k a b => kf q k (by omega) (by omega) (by omega)) hwu (und_out he (by omega)) (fun j hj => und_out he (by omega)) (fun hM1 => ?_)
    have hml := hM1.1.2.1
    have h214 : I1 214 l.length = x.1 := by have := (hml.2.2 0 (by show 0 < l.length + 1; omega)).1; rw [show (x :: l).length - 1 - 0 = l.length by show l.length + 1 - 1 - 0 = l.length; omega] at this; exact this
    have eM := c_undo_s (d := 98) (G := G) (I := I1) (P := P) (u := l.length) hS (by rw [hml.2.1]; show ((l.length + 1 : Nat) : Int) = _; omega) (by omega) (by rw [h214]; exact hdv)
    rw [h214] at eM
    have hrow : am_cp ((am_u2 (am_u2 I1 208 0 0) 208 8 (l.length : Int)) 213) ((am_u2 (am_u2 I1 208 0 0) 208 8 (l.length : Int)) 210) (25 * l.length) 5 25 = und x.1 x.2.1 x.2.2 ρ := by
      rw [u2_qf (by decide), u2_qf (by decide), u2_qf (by decide), u2_qf (by decide), hM1.1.1]
      exact MLg_row hml he
    rw [hrow] at eM
    refine ⟨_, eM, (u2_qf (by decide)).trans u1_e, MLg_undo hml ((u2_k (by decide)).trans ((u1_qk (by decide)).trans u2_e)) (funext fun k => (u2_q (by decide)).trans ((u1_qk (by decide)).trans ((u2_q (by decide)).trans (u2_q (by decide))))) (funext fun k => (u2_q (by decide)).trans ((u1_qk (by decide)).trans ((u2_q (by decide)).trans (u2_q (by decide))))), u2_e, fun q k h a1 a2 a3 a4 => (u2_o (by omega)).trans ((u1_qk a1).trans ((u2_o (by omega)).trans (u2_o (by unfold MK2 at h; omega)))), fun q k h => (u2_o (by omega)).trans ((u1_qk (by omega)).trans ((u2_o (by omega)).trans (u2_o (by omega))))⟩
