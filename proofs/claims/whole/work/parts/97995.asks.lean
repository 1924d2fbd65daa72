/-! ===== calls that ask ===== -/
theorem PAP_mk {I J : Nat → Nat → Int} {ρ : Nat → Int} (h : PAP I J ρ) (hr : I 210 = ρ) : (∀ q k, MK2 q k → J q k = I q k) ∧ (∀ q k, ¬ (208 ≤ q ∧ q ≤ 239) → J q k = I q k) := by
  obtain ⟨a, b, c⟩ := h
  refine ⟨fun q k h => ?_, fun q k h => c q k (by omega) (by omega) (by omega) (by omega) (by omega) (by omega) (by omega)⟩
  by_cases e : q = 210
  · subst e; rw [a, hr]
  · by_cases e2 : q = 213
    · subst e2; exact b k (by unfold MK2 at h; omega)
    · exact c q k (by unfold MK2 at h; omega) (by unfold MK2 at h; omega) e e2 (by unfold MK2 at h; omega) (by unfold MK2 at h; omega) (by unfold MK2 at h; omega)
theorem P_of {L : Nat} {xs : Nat → Int32} {c : Nat} {G : am_G} {I : Nat → Nat → Int} {P : Nat → Nat → Option Nat} (hR : REL L xs c G I P) (hc : c ≤ 600) {a b : Int}  : SP L xs c G I P Sum.inl 108 183 [.inl a, .inl b] := by
  obtain ⟨ρ, lg, ll, tn, tb, fa, wr, st, sp, rf, ik0, ir0, il0, ik1, ir1, il1, dk, dr, hW, hC, hM⟩ := hR
  obtain ⟨w1, w2, w3, w4, w5, w6, w7, w8⟩ := id hW
  obtain ⟨hS, hK, ⟨hCC, hLg, hLw, hTN⟩, ⟨t1, t2⟩, ⟨s1, s2, s3, s4⟩, hRf, hI0, hI1, ⟨hDr, hLO⟩, hG, hX⟩ := id hC
  have hRW := (WR_0 w1).1
  have h59 := (WR_0 w1).2
  have hLN := LawNow_of hRW w2
  have hBN := BarN_of hRW w2
  have hE : CE G I P 65 ρ (nfo ρ ll) (cfo ρ ll) := ⟨hCC, hRW, LWn_of (c := 65) hRW hLw⟩
  have hN := TN_of hTN
  have h0 := RW_n0 hRW
  have h1 := RW_n1 hRW
  have h2 := RW_n2 hRW
  have h3 := RW_n3 hRW
  have h8 := RW_sm hRW
  have hrk : ∀ k, RKk k → 0 ≤ I 173 k ∧ I 173 k ≤ 1000000 := fun k hk => by have := w5 k hk; rw [hRf k hk]; omega
  have hrm : ∀ {J : Nat → Nat → Int}, MI ρ lg ll tn tb fa wr st sp rf ik0 ir0 il0 ik1 ir1 il1 dk dr J → ∀ k, RKk k → 0 ≤ J 209 k ∧ J 209 k ≤ 1000000 := fun hJ k hk => by have := w5 k hk; rw [hJ.2.2.2.2.1 k hk]; omega
  have hme : ∀ {J : Nat → Nat → Int}, MI ρ lg ll tn tb fa wr st sp rf ik0 ir0 il0 ik1 ir1 il1 dk dr J → ME J ρ (nfo ρ ll) (cfo ρ ll) := fun hJ => ⟨hJ.1.1, hRW, hLN, hJ.1.2.2⟩
  have hzz : ∀ {J : Nat → Nat → Int}, MI ρ lg ll tn tb fa wr st sp rf ik0 ir0 il0 ik1 ir1 il1 dk dr J → (am_u2 J 208 0 0) 210 = ρ := fun hJ => (u2_qf (by decide)).trans hJ.1.1
  by_cases hb : 0 ≤ a ∧ a < ρ 0
  · skip
    obtain ⟨cn, rfl⟩ : ∃ cn : Nat, a = (cn : Int) := ⟨a.toNat, by omega⟩
    by_cases e0 : b = 0
    · subst e0
      exact SP_ro (x := ρ (30 + cn)) hW hC hM (k_of_0 (d := 95) hS hE hb.2) hS (fun _ _ _ => rfl) (fun _ _ _ _ => rfl) (fun _ _ _ => rfl) (fun hM1 => ⟨_, m_of_0 (d := 92) hS (hme hM1) hb.2, fmz, frz⟩)
    by_cases e1 : b = 1
    · subst e1
      exact SP_ro (x := ρ (36 + cn)) hW hC hM (k_of_1 (d := 95) hS hE hb.2) hS (fun _ _ _ => rfl) (fun _ _ _ _ => rfl) (fun _ _ _ => rfl) (fun hM1 => ⟨_, m_of_1 (d := 92) hS (hme hM1) hb.2, fmz, frz⟩)
    by_cases e2 : b = 2
    · subst e2
      exact SP_ro (x := ρ (9 + cn)) hW hC hM (k_of_2 (d := 95) hS hE hb.2) hS (fun _ _ _ => rfl) (fun _ _ _ _ => rfl) (fun _ _ _ => rfl) (fun hM1 => ⟨_, m_of_2 (d := 92) hS (hme hM1) hb.2, fmz, frz⟩)
    by_cases e3 : b = 3
    · subst e3
      obtain ⟨I1, eK, fK⟩ := k_of_3 (d := 95) hS hE hb.2
      exact SP_ro (x := m_goes ρ (nfo ρ ll) (cfo ρ ll) cn) hW hC hM (eK) hS (fun q k h => fK q k (by unfold CK at h; omega) (by unfold CK at h; omega)) (fun q k a b => fK q k (by omega) (by omega)) (fun _ _ _ => rfl) (fun hM1 => by obtain ⟨I2, eM, fM⟩ := m_of_3 (d := 92) hS (hme hM1) hb.2; exact ⟨I2, eM, (fun q k h => fM q k (by unfold MK2 at h; omega) (by unfold MK2 at h; omega) (by unfold MK2 at h; omega)), (fun q k h => fM q k (by omega) (by omega) (by omega))⟩)
    exact SP_ro (x := -1) hW hC hM (k_of_o (d := 95) hS hE hb.2 (by omega)) hS (fun _ _ _ => rfl) (fun _ _ _ _ => rfl) (fun _ _ _ => rfl) (fun hM1 => ⟨_, m_of_o (d := 92) hS (hme hM1) hb.2 (by omega), fmz, frz⟩)
  · exact SP_ro (x := -1) hW hC hM (k_of_b (d := 95) hS hE hb) hS (fun _ _ _ => rfl) (fun _ _ _ _ => rfl) (fun _ _ _ => rfl) (fun hM1 => ⟨_, m_of_b (d := 92) hS (hme hM1) hb, fmz, frz⟩)
theorem P_at {L : Nat} {xs : Nat → Int32} {c : Nat} {G : am_G} {I : Nat → Nat → Int} {P : Nat → Nat → Option Nat} (hR : REL L xs c G I P) (hc : c ≤ 600) {a b : Int}  : SP L xs c G I P Sum.inl 110 185 [.inl a, .inl b] := by
  obtain ⟨ρ, lg, ll, tn, tb, fa, wr, st, sp, rf, ik0, ir0, il0, ik1, ir1, il1, dk, dr, hW, hC, hM⟩ := hR
  obtain ⟨w1, w2, w3, w4, w5, w6, w7, w8⟩ := id hW
  obtain ⟨hS, hK, ⟨hCC, hLg, hLw, hTN⟩, ⟨t1, t2⟩, ⟨s1, s2, s3, s4⟩, hRf, hI0, hI1, ⟨hDr, hLO⟩, hG, hX⟩ := id hC
  have hRW := (WR_0 w1).1
  have h59 := (WR_0 w1).2
  have hLN := LawNow_of hRW w2
  have hBN := BarN_of hRW w2
  have hE : CE G I P 65 ρ (nfo ρ ll) (cfo ρ ll) := ⟨hCC, hRW, LWn_of (c := 65) hRW hLw⟩
  have hN := TN_of hTN
  have h0 := RW_n0 hRW
  have h1 := RW_n1 hRW
  have h2 := RW_n2 hRW
  have h3 := RW_n3 hRW
  have h8 := RW_sm hRW
  have hrk : ∀ k, RKk k → 0 ≤ I 173 k ∧ I 173 k ≤ 1000000 := fun k hk => by have := w5 k hk; rw [hRf k hk]; omega
  have hrm : ∀ {J : Nat → Nat → Int}, MI ρ lg ll tn tb fa wr st sp rf ik0 ir0 il0 ik1 ir1 il1 dk dr J → ∀ k, RKk k → 0 ≤ J 209 k ∧ J 209 k ≤ 1000000 := fun hJ k hk => by have := w5 k hk; rw [hJ.2.2.2.2.1 k hk]; omega
  have hme : ∀ {J : Nat → Nat → Int}, MI ρ lg ll tn tb fa wr st sp rf ik0 ir0 il0 ik1 ir1 il1 dk dr J → ME J ρ (nfo ρ ll) (cfo ρ ll) := fun hJ => ⟨hJ.1.1, hRW, hLN, hJ.1.2.2⟩
  have hzz : ∀ {J : Nat → Nat → Int}, MI ρ lg ll tn tb fa wr st sp rf ik0 ir0 il0 ik1 ir1 il1 dk dr J → (am_u2 J 208 0 0) 210 = ρ := fun hJ => (u2_qf (by decide)).trans hJ.1.1
  have hp1 : ∀ {J : Nat → Nat → Int}, MI ρ lg ll tn tb fa wr st sp rf ik0 ir0 il0 ik1 ir1 il1 dk dr J → 0 ≤ J 210 1 ∧ J 210 1 ≤ 5 := fun hJ => by rw [hJ.1.1]; exact h1
  by_cases hb : 0 ≤ a ∧ a < ρ 1
  · skip
    obtain ⟨f, rfl⟩ : ∃ f : Nat, a = (f : Int) := ⟨a.toNat, by omega⟩
    by_cases e0 : b = 0
    · subst e0
      exact SP_ro (x := ρ (42 + f)) hW hC hM (k_at_0 (d := 98) hS hE hb.2) hS (fun _ _ _ => rfl) (fun _ _ _ _ => rfl) (fun _ _ _ => rfl) (fun hM1 => ⟨_, by have e := m_at_0 (d := 97) (G := G) (I := I) (P := P) (f := f) hS (hp1 hM1) (by rw [hM1.1.1]; exact hb.2); rw [hM1.1.1] at e; exact e, fmz, frz⟩)
    by_cases e1 : b = 1
    · subst e1
      exact SP_ro (x := ρ (47 + f)) hW hC hM (k_at_1 (d := 98) hS hE hb.2) hS (fun _ _ _ => rfl) (fun _ _ _ _ => rfl) (fun _ _ _ => rfl) (fun hM1 => ⟨_, by have e := m_at_1 (d := 97) (G := G) (I := I) (P := P) (f := f) hS (hp1 hM1) (by rw [hM1.1.1]; exact hb.2); rw [hM1.1.1] at e; exact e, fmz, frz⟩)
    by_cases e2 : b = 2
    · subst e2
      exact SP_ro (x := ρ (15 + f)) hW hC hM (k_at_2 (d := 98) hS hE hb.2) hS (fun _ _ _ => rfl) (fun _ _ _ _ => rfl) (fun _ _ _ => rfl) (fun hM1 => ⟨_, by have e := m_at_2 (d := 97) (G := G) (I := I) (P := P) (f := f) hS (hp1 hM1) (by rw [hM1.1.1]; exact hb.2); rw [hM1.1.1] at e; exact e, fmz, frz⟩)
    by_cases e3 : b = 3
    · subst e3
      exact SP_ro (x := ρ (20 + f)) hW hC hM (k_at_3 (d := 98) hS hE hb.2) hS (fun _ _ _ => rfl) (fun _ _ _ _ => rfl) (fun _ _ _ => rfl) (fun hM1 => ⟨_, by have e := m_at_3 (d := 97) (G := G) (I := I) (P := P) (f := f) hS (hp1 hM1) (by rw [hM1.1.1]; exact hb.2); rw [hM1.1.1] at e; exact e, fmz, frz⟩)
    by_cases e4 : b = 4
    · subst e4
      exact SP_ro (x := ρ (25 + f)) hW hC hM (k_at_4 (d := 98) hS hE hb.2) hS (fun _ _ _ => rfl) (fun _ _ _ _ => rfl) (fun _ _ _ => rfl) (fun hM1 => ⟨_, by have e := m_at_4 (d := 97) (G := G) (I := I) (P := P) (f := f) hS (hp1 hM1) (by rw [hM1.1.1]; exact hb.2); rw [hM1.1.1] at e; exact e, fmz, frz⟩)
    exact SP_ro (x := -1) hW hC hM (k_at_o (d := 98) hS hE hb.2 (by omega)) hS (fun _ _ _ => rfl) (fun _ _ _ _ => rfl) (fun _ _ _ => rfl) (fun hM1 => ⟨_, m_at_o (d := 97) hS (hp1 hM1) (by rw [hM1.1.1]; exact hb.2) (by omega), fmz, frz⟩)
  · exact SP_ro (x := -1) hW hC hM (k_at_b (d := 98) hS hE hb) hS (fun _ _ _ => rfl) (fun _ _ _ _ => rfl) (fun _ _ _ => rfl) (fun hM1 => ⟨_, m_at_b (d := 97) hS (hp1 hM1) (by rw [hM1.1.1]; exact hb), fmz, frz⟩)
theorem P_asks {L : Nat} {xs : Nat → Int32} {c : Nat} {G : am_G} {I : Nat → Nat → Int} {P : Nat → Nat → Option Nat} (hR : REL L xs c G I P) (hc : c ≤ 600) {a b w : Int}  : SP L xs c G I P Sum.inl 111 186 [.inl a, .inl b, .inl w] := by
  obtain ⟨ρ, lg, ll, tn, tb, fa, wr, st, sp, rf, ik0, ir0, il0, ik1, ir1, il1, dk, dr, hW, hC, hM⟩ := hR
  obtain ⟨w1, w2, w3, w4, w5, w6, w7, w8⟩ := id hW
  obtain ⟨hS, hK, ⟨hCC, hLg, hLw, hTN⟩, ⟨t1, t2⟩, ⟨s1, s2, s3, s4⟩, hRf, hI0, hI1, ⟨hDr, hLO⟩, hG, hX⟩ := id hC
  have hRW := (WR_0 w1).1
  have h59 := (WR_0 w1).2
  have hLN := LawNow_of hRW w2
  have hBN := BarN_of hRW w2
  have hE : CE G I P 65 ρ (nfo ρ ll) (cfo ρ ll) := ⟨hCC, hRW, LWn_of (c := 65) hRW hLw⟩
  have hN := TN_of hTN
  have h0 := RW_n0 hRW
  have h1 := RW_n1 hRW
  have h2 := RW_n2 hRW
  have h3 := RW_n3 hRW
  have h8 := RW_sm hRW
  have hrk : ∀ k, RKk k → 0 ≤ I 173 k ∧ I 173 k ≤ 1000000 := fun k hk => by have := w5 k hk; rw [hRf k hk]; omega
  have hrm : ∀ {J : Nat → Nat → Int}, MI ρ lg ll tn tb fa wr st sp rf ik0 ir0 il0 ik1 ir1 il1 dk dr J → ∀ k, RKk k → 0 ≤ J 209 k ∧ J 209 k ≤ 1000000 := fun hJ k hk => by have := w5 k hk; rw [hJ.2.2.2.2.1 k hk]; omega
  have hme : ∀ {J : Nat → Nat → Int}, MI ρ lg ll tn tb fa wr st sp rf ik0 ir0 il0 ik1 ir1 il1 dk dr J → ME J ρ (nfo ρ ll) (cfo ρ ll) := fun hJ => ⟨hJ.1.1, hRW, hLN, hJ.1.2.2⟩
  have hzz : ∀ {J : Nat → Nat → Int}, MI ρ lg ll tn tb fa wr st sp rf ik0 ir0 il0 ik1 ir1 il1 dk dr J → (am_u2 J 208 0 0) 210 = ρ := fun hJ => (u2_qf (by decide)).trans hJ.1.1
  by_cases hb : (0 ≤ a ∧ a < ρ 0) ∧ (0 ≤ b ∧ b < ρ 1)
  · skip
    obtain ⟨cn, rfl⟩ : ∃ cn : Nat, a = (cn : Int) := ⟨a.toNat, by omega⟩
    obtain ⟨f, rfl⟩ : ∃ f : Nat, b = (f : Int) := ⟨b.toNat, by omega⟩
    by_cases e0 : w = 0
    · subst e0
      obtain ⟨I1, eK, fK⟩ := k_asks_0 (d := 95) hS hE hb.1.2 hb.2.2
      exact SP_ro (x := m_told ρ (nfo ρ ll) (cfo ρ ll) cn f) hW hC hM (eK) hS (fun q k h => fK q k (by unfold CK at h; omega) (by unfold CK at h; omega)) (fun q k a b => fK q k (by omega) (by omega)) (fun _ _ _ => rfl) (fun hM1 => by obtain ⟨I2, eM, fM⟩ := m_asks_0 (d := 91) hS (hme hM1) hb.1.2 hb.2.2; exact ⟨I2, eM, (fun q k h => fM q k (by unfold MK2 at h; omega) (by unfold MK2 at h; omega) (by unfold MK2 at h; omega)), (fun q k h => fM q k (by omega) (by omega) (by omega))⟩)
    by_cases e1 : w = 1
    · subst e1
      obtain ⟨I1, eK, fK⟩ := k_asks_1 (d := 95) hS hE hb.1.2 hb.2.2
      exact SP_ro (x := m_soak ρ (nfo ρ ll) (cfo ρ ll) cn f) hW hC hM (eK) hS (fun q k h => fK q k (by unfold CK at h; omega) (by unfold CK at h; omega)) (fun q k a b => fK q k (by omega) (by omega)) (fun _ _ _ => rfl) (fun hM1 => by obtain ⟨I2, eM, fM⟩ := m_asks_1 (d := 91) hS (hme hM1) hb.1.2 hb.2.2; exact ⟨I2, eM, (fun q k h => fM q k (by unfold MK2 at h; omega) (by unfold MK2 at h; omega) (by unfold MK2 at h; omega)), (fun q k h => fM q k (by omega) (by omega) (by omega))⟩)
    by_cases e2 : w = 2
    · subst e2
      by_cases hcan : m_can ρ (nfo ρ ll) (cfo ρ ll) cn f
      · obtain ⟨I1, eK, fK⟩ := k_asks_2t (d := 95) hS hE hb.1.2 hb.2.2 hBN hcan
        exact SP_ro (x := 1) hW hC hM (eK) hS (fun q k h => fK q k (by unfold CK at h; omega) (by unfold CK at h; omega)) (fun q k a b => fK q k (by omega) (by omega)) (fun _ _ _ => rfl) (fun hM1 => by obtain ⟨I2, eM, fM⟩ := m_asks_2t (d := 91) hS (hme hM1) hb.1.2 hb.2.2 hcan; exact ⟨I2, eM, (fun q k h => fM q k (by unfold MK2 at h; omega) (by unfold MK2 at h; omega) (by unfold MK2 at h; omega)), (fun q k h => fM q k (by omega) (by omega) (by omega))⟩)
      · obtain ⟨I1, eK, fK⟩ := k_asks_2f (d := 95) hS hE hb.1.2 hb.2.2 hBN hcan
        exact SP_ro (x := 0) hW hC hM (eK) hS (fun q k h => fK q k (by unfold CK at h; omega) (by unfold CK at h; omega)) (fun q k a b => fK q k (by omega) (by omega)) (fun _ _ _ => rfl) (fun hM1 => by obtain ⟨I2, eM, fM⟩ := m_asks_2f (d := 91) hS (hme hM1) hb.1.2 hb.2.2 hcan; exact ⟨I2, eM, (fun q k h => fM q k (by unfold MK2 at h; omega) (by unfold MK2 at h; omega) (by unfold MK2 at h; omega)), (fun q k h => fM q k (by omega) (by omega) (by omega))⟩)
    exact SP_ro (x := -1) hW hC hM (k_asks_o (d := 95) hS hE hb.1.2 hb.2.2 (by omega)) hS (fun _ _ _ => rfl) (fun _ _ _ _ => rfl) (fun _ _ _ => rfl) (fun hM1 => ⟨_, m_asks_b (d := 91) hS (hme hM1) (by omega), fmz, frz⟩)
  · exact SP_ro (x := -1) hW hC hM (k_asks_b (d := 95) hS hE hb) hS (fun _ _ _ => rfl) (fun _ _ _ _ => rfl) (fun _ _ _ => rfl) (fun hM1 => ⟨_, m_asks_b (d := 91) hS (hme hM1) (fun z => hb ⟨z.1, z.2.1⟩), fmz, frz⟩)
theorem P_box {L : Nat} {xs : Nat → Int32} {c : Nat} {G : am_G} {I : Nat → Nat → Int} {P : Nat → Nat → Option Nat} (hR : REL L xs c G I P) (hc : c ≤ 600) {a b : Int}  : SP L xs c G I P Sum.inl 113 190 [.inl a, .inl b] := by
  obtain ⟨ρ, lg, ll, tn, tb, fa, wr, st, sp, rf, ik0, ir0, il0, ik1, ir1, il1, dk, dr, hW, hC, hM⟩ := hR
  obtain ⟨w1, w2, w3, w4, w5, w6, w7, w8⟩ := id hW
  obtain ⟨hS, hK, ⟨hCC, hLg, hLw, hTN⟩, ⟨t1, t2⟩, ⟨s1, s2, s3, s4⟩, hRf, hI0, hI1, ⟨hDr, hLO⟩, hG, hX⟩ := id hC
  have hRW := (WR_0 w1).1
  have h59 := (WR_0 w1).2
  have hLN := LawNow_of hRW w2
  have hBN := BarN_of hRW w2
  have hE : CE G I P 65 ρ (nfo ρ ll) (cfo ρ ll) := ⟨hCC, hRW, LWn_of (c := 65) hRW hLw⟩
  have hN := TN_of hTN
  have h0 := RW_n0 hRW
  have h1 := RW_n1 hRW
  have h2 := RW_n2 hRW
  have h3 := RW_n3 hRW
  have h8 := RW_sm hRW
  have hrk : ∀ k, RKk k → 0 ≤ I 173 k ∧ I 173 k ≤ 1000000 := fun k hk => by have := w5 k hk; rw [hRf k hk]; omega
  have hrm : ∀ {J : Nat → Nat → Int}, MI ρ lg ll tn tb fa wr st sp rf ik0 ir0 il0 ik1 ir1 il1 dk dr J → ∀ k, RKk k → 0 ≤ J 209 k ∧ J 209 k ≤ 1000000 := fun hJ k hk => by have := w5 k hk; rw [hJ.2.2.2.2.1 k hk]; omega
  have hme : ∀ {J : Nat → Nat → Int}, MI ρ lg ll tn tb fa wr st sp rf ik0 ir0 il0 ik1 ir1 il1 dk dr J → ME J ρ (nfo ρ ll) (cfo ρ ll) := fun hJ => ⟨hJ.1.1, hRW, hLN, hJ.1.2.2⟩
  have hzz : ∀ {J : Nat → Nat → Int}, MI ρ lg ll tn tb fa wr st sp rf ik0 ir0 il0 ik1 ir1 il1 dk dr J → (am_u2 J 208 0 0) 210 = ρ := fun hJ => (u2_qf (by decide)).trans hJ.1.1
  have hp8 : ∀ {J : Nat → Nat → Int}, MI ρ lg ll tn tb fa wr st sp rf ik0 ir0 il0 ik1 ir1 il1 dk dr J → J 210 8 = (((ρ 8).toNat : Nat) : Int) := fun hJ => by rw [hJ.1.1]; exact (Int.toNat_of_nonneg h8.1).symm
  by_cases hb : (0 ≤ a ∧ a < 6) ∧ (0 ≤ b ∧ b ≤ 7)
  · skip
    obtain ⟨bn, rfl⟩ : ∃ bn : Nat, a = (bn : Int) := ⟨a.toNat, by omega⟩
    by_cases e0 : b = 0
    · subst e0
      exact SP_ro (x := (((ρ 8).toNat >>> bn &&& 1 : Nat) : Int)) hW hC hM (k_box_0 (d := 97) hS hE (by omega)) hS (fun _ _ _ => rfl) (fun _ _ _ _ => rfl) (fun _ _ _ => rfl) (fun hM1 => ⟨_, m_box_0 (d := 97) hS (by omega) (hp8 hM1) (by omega), fmz, frz⟩)
    by_cases e1 : b = 1
    · subst e1
      exact SP_ro (x := ((m_comes ρ bn (wh (ρ 8).toNat) &&& (m_comes ρ bn (wh (ρ 8).toNat) ^^^ 2 ^ bn) : Nat) : Int)) hW hC hM (k_box_1 (d := 97) hS hE (by omega)) hS (fun _ _ _ => rfl) (fun _ _ _ _ => rfl) (fun _ _ _ => rfl) (fun hM1 => ⟨_, by have e := m_box_1 (d := 97) (G := G) (I := I) (P := P) (b := bn) hS (by omega) (hp8 hM1) (by omega); rw [hzz hM1] at e; exact e, fmz, frz⟩)
    obtain ⟨on, rfl⟩ : ∃ o : Nat, b = (o : Int) + 2 := ⟨(b - 2).toNat, by omega⟩
    exact SP_ro (x := ρ (52 + 6 * bn + on)) hW hC hM (k_box_r (d := 97) hS hE (by omega) (by omega)) hS (fun _ _ _ => rfl) (fun _ _ _ _ => rfl) (fun _ _ _ => rfl) (fun hM1 => ⟨_, by have e := m_box_r (d := 97) (G := G) (I := I) (P := P) (b := bn) (o := on) hS (by omega) (by omega); rw [hM1.1.1] at e; exact e, fmz, frz⟩)
  · exact SP_ro (x := -1) hW hC hM (k_box_b (d := 97) hS hE hb) hS (fun _ _ _ => rfl) (fun _ _ _ _ => rfl) (fun _ _ _ => rfl) (fun hM1 => ⟨_, m_box_b (d := 97) hS hb, fmz, frz⟩)
theorem P_wrong {L : Nat} {xs : Nat → Int32} {c : Nat} {G : am_G} {I : Nat → Nat → Int} {P : Nat → Nat → Option Nat} (hR : REL L xs c G I P) (hc : c ≤ 600)   : SP L xs c G I P Sum.inl 118 193 [] := by
  obtain ⟨ρ, lg, ll, tn, tb, fa, wr, st, sp, rf, ik0, ir0, il0, ik1, ir1, il1, dk, dr, hW, hC, hM⟩ := hR
  obtain ⟨w1, w2, w3, w4, w5, w6, w7, w8⟩ := id hW
  obtain ⟨hS, hK, ⟨hCC, hLg, hLw, hTN⟩, ⟨t1, t2⟩, ⟨s1, s2, s3, s4⟩, hRf, hI0, hI1, ⟨hDr, hLO⟩, hG, hX⟩ := id hC
  have hRW := (WR_0 w1).1
  have h59 := (WR_0 w1).2
  have hLN := LawNow_of hRW w2
  have hBN := BarN_of hRW w2
  have hE : CE G I P 65 ρ (nfo ρ ll) (cfo ρ ll) := ⟨hCC, hRW, LWn_of (c := 65) hRW hLw⟩
  have hN := TN_of hTN
  have h0 := RW_n0 hRW
  have h1 := RW_n1 hRW
  have h2 := RW_n2 hRW
  have h3 := RW_n3 hRW
  have h8 := RW_sm hRW
  have hrk : ∀ k, RKk k → 0 ≤ I 173 k ∧ I 173 k ≤ 1000000 := fun k hk => by have := w5 k hk; rw [hRf k hk]; omega
  have hrm : ∀ {J : Nat → Nat → Int}, MI ρ lg ll tn tb fa wr st sp rf ik0 ir0 il0 ik1 ir1 il1 dk dr J → ∀ k, RKk k → 0 ≤ J 209 k ∧ J 209 k ≤ 1000000 := fun hJ k hk => by have := w5 k hk; rw [hJ.2.2.2.2.1 k hk]; omega
  have hme : ∀ {J : Nat → Nat → Int}, MI ρ lg ll tn tb fa wr st sp rf ik0 ir0 il0 ik1 ir1 il1 dk dr J → ME J ρ (nfo ρ ll) (cfo ρ ll) := fun hJ => ⟨hJ.1.1, hRW, hLN, hJ.1.2.2⟩
  have hzz : ∀ {J : Nat → Nat → Int}, MI ρ lg ll tn tb fa wr st sp rf ik0 ir0 il0 ik1 ir1 il1 dk dr J → (am_u2 J 208 0 0) 210 = ρ := fun hJ => (u2_qf (by decide)).trans hJ.1.1
  have eK := k_wrong (d := 99) (G := G) (I := I) (P := P) hS
  rw [s2] at eK
  exact SP_ro (x := wr) hW hC hM (eK) hS (fun _ _ _ => rfl) (fun _ _ _ _ => rfl) (fun _ _ _ => rfl) (fun hM1 => ⟨_, by have e := m_wrong (d := 99) (G := G) (I := I) (P := P) hS; rw [hM1.2.2.2.1.2.1] at e; exact e, fmz, frz⟩)
theorem P_fault {L : Nat} {xs : Nat → Int32} {c : Nat} {G : am_G} {I : Nat → Nat → Int} {P : Nat → Nat → Option Nat} (hR : REL L xs c G I P) (hc : c ≤ 600)   : SP L xs c G I P Sum.inl 121 205 [] := by
  obtain ⟨ρ, lg, ll, tn, tb, fa, wr, st, sp, rf, ik0, ir0, il0, ik1, ir1, il1, dk, dr, hW, hC, hM⟩ := hR
  obtain ⟨w1, w2, w3, w4, w5, w6, w7, w8⟩ := id hW
  obtain ⟨hS, hK, ⟨hCC, hLg, hLw, hTN⟩, ⟨t1, t2⟩, ⟨s1, s2, s3, s4⟩, hRf, hI0, hI1, ⟨hDr, hLO⟩, hG, hX⟩ := id hC
  have hRW := (WR_0 w1).1
  have h59 := (WR_0 w1).2
  have hLN := LawNow_of hRW w2
  have hBN := BarN_of hRW w2
  have hE : CE G I P 65 ρ (nfo ρ ll) (cfo ρ ll) := ⟨hCC, hRW, LWn_of (c := 65) hRW hLw⟩
  have hN := TN_of hTN
  have h0 := RW_n0 hRW
  have h1 := RW_n1 hRW
  have h2 := RW_n2 hRW
  have h3 := RW_n3 hRW
  have h8 := RW_sm hRW
  have hrk : ∀ k, RKk k → 0 ≤ I 173 k ∧ I 173 k ≤ 1000000 := fun k hk => by have := w5 k hk; rw [hRf k hk]; omega
  have hrm : ∀ {J : Nat → Nat → Int}, MI ρ lg ll tn tb fa wr st sp rf ik0 ir0 il0 ik1 ir1 il1 dk dr J → ∀ k, RKk k → 0 ≤ J 209 k ∧ J 209 k ≤ 1000000 := fun hJ k hk => by have := w5 k hk; rw [hJ.2.2.2.2.1 k hk]; omega
  have hme : ∀ {J : Nat → Nat → Int}, MI ρ lg ll tn tb fa wr st sp rf ik0 ir0 il0 ik1 ir1 il1 dk dr J → ME J ρ (nfo ρ ll) (cfo ρ ll) := fun hJ => ⟨hJ.1.1, hRW, hLN, hJ.1.2.2⟩
  have hzz : ∀ {J : Nat → Nat → Int}, MI ρ lg ll tn tb fa wr st sp rf ik0 ir0 il0 ik1 ir1 il1 dk dr J → (am_u2 J 208 0 0) 210 = ρ := fun hJ => (u2_qf (by decide)).trans hJ.1.1
  have eK := k_fault (d := 99) (G := G) (I := I) (P := P) hS
  rw [s1] at eK
  exact SP_ro (x := fa) hW hC hM (eK) hS (fun _ _ _ => rfl) (fun _ _ _ _ => rfl) (fun _ _ _ => rfl) (fun hM1 => ⟨_, by have e := m_fault (d := 99) (G := G) (I := I) (P := P) hS; rw [hM1.2.2.2.1.1] at e; exact e, fmz, frz⟩)
theorem P_stopped {L : Nat} {xs : Nat → Int32} {c : Nat} {G : am_G} {I : Nat → Nat → Int} {P : Nat → Nat → Option Nat} (hR : REL L xs c G I P) (hc : c ≤ 600)   : SP L xs c G I P Sum.inl 122 281 [] := by
  obtain ⟨ρ, lg, ll, tn, tb, fa, wr, st, sp, rf, ik0, ir0, il0, ik1, ir1, il1, dk, dr, hW, hC, hM⟩ := hR
  obtain ⟨w1, w2, w3, w4, w5, w6, w7, w8⟩ := id hW
  obtain ⟨hS, hK, ⟨hCC, hLg, hLw, hTN⟩, ⟨t1, t2⟩, ⟨s1, s2, s3, s4⟩, hRf, hI0, hI1, ⟨hDr, hLO⟩, hG, hX⟩ := id hC
  have hRW := (WR_0 w1).1
  have h59 := (WR_0 w1).2
  have hLN := LawNow_of hRW w2
  have hBN := BarN_of hRW w2
  have hE : CE G I P 65 ρ (nfo ρ ll) (cfo ρ ll) := ⟨hCC, hRW, LWn_of (c := 65) hRW hLw⟩
  have hN := TN_of hTN
  have h0 := RW_n0 hRW
  have h1 := RW_n1 hRW
  have h2 := RW_n2 hRW
  have h3 := RW_n3 hRW
  have h8 := RW_sm hRW
  have hrk : ∀ k, RKk k → 0 ≤ I 173 k ∧ I 173 k ≤ 1000000 := fun k hk => by have := w5 k hk; rw [hRf k hk]; omega
  have hrm : ∀ {J : Nat → Nat → Int}, MI ρ lg ll tn tb fa wr st sp rf ik0 ir0 il0 ik1 ir1 il1 dk dr J → ∀ k, RKk k → 0 ≤ J 209 k ∧ J 209 k ≤ 1000000 := fun hJ k hk => by have := w5 k hk; rw [hJ.2.2.2.2.1 k hk]; omega
  have hme : ∀ {J : Nat → Nat → Int}, MI ρ lg ll tn tb fa wr st sp rf ik0 ir0 il0 ik1 ir1 il1 dk dr J → ME J ρ (nfo ρ ll) (cfo ρ ll) := fun hJ => ⟨hJ.1.1, hRW, hLN, hJ.1.2.2⟩
  have hzz : ∀ {J : Nat → Nat → Int}, MI ρ lg ll tn tb fa wr st sp rf ik0 ir0 il0 ik1 ir1 il1 dk dr J → (am_u2 J 208 0 0) 210 = ρ := fun hJ => (u2_qf (by decide)).trans hJ.1.1
  have eK := k_stopped (d := 99) (G := G) (I := I) (P := P) hS
  rw [s4] at eK
  exact SP_ro (x := sp) hW hC hM (eK) hS (fun _ _ _ => rfl) (fun _ _ _ _ => rfl) (fun _ _ _ => rfl) (fun hM1 => ⟨_, by have e := m_stopped (d := 99) (G := G) (I := I) (P := P) hS; rw [hM1.2.2.2.1.2.2.2] at e; exact e, fmz, frz⟩)
theorem P_status {L : Nat} {xs : Nat → Int32} {c : Nat} {G : am_G} {I : Nat → Nat → Int} {P : Nat → Nat → Option Nat} (hR : REL L xs c G I P) (hc : c ≤ 600)   : SP L xs c G I P Sum.inl 150 286 [] := by
  obtain ⟨ρ, lg, ll, tn, tb, fa, wr, st, sp, rf, ik0, ir0, il0, ik1, ir1, il1, dk, dr, hW, hC, hM⟩ := hR
  obtain ⟨w1, w2, w3, w4, w5, w6, w7, w8⟩ := id hW
  obtain ⟨hS, hK, ⟨hCC, hLg, hLw, hTN⟩, ⟨t1, t2⟩, ⟨s1, s2, s3, s4⟩, hRf, hI0, hI1, ⟨hDr, hLO⟩, hG, hX⟩ := id hC
  have hRW := (WR_0 w1).1
  have h59 := (WR_0 w1).2
  have hLN := LawNow_of hRW w2
  have hBN := BarN_of hRW w2
  have hE : CE G I P 65 ρ (nfo ρ ll) (cfo ρ ll) := ⟨hCC, hRW, LWn_of (c := 65) hRW hLw⟩
  have hN := TN_of hTN
  have h0 := RW_n0 hRW
  have h1 := RW_n1 hRW
  have h2 := RW_n2 hRW
  have h3 := RW_n3 hRW
  have h8 := RW_sm hRW
  have hrk : ∀ k, RKk k → 0 ≤ I 173 k ∧ I 173 k ≤ 1000000 := fun k hk => by have := w5 k hk; rw [hRf k hk]; omega
  have hrm : ∀ {J : Nat → Nat → Int}, MI ρ lg ll tn tb fa wr st sp rf ik0 ir0 il0 ik1 ir1 il1 dk dr J → ∀ k, RKk k → 0 ≤ J 209 k ∧ J 209 k ≤ 1000000 := fun hJ k hk => by have := w5 k hk; rw [hJ.2.2.2.2.1 k hk]; omega
  have hme : ∀ {J : Nat → Nat → Int}, MI ρ lg ll tn tb fa wr st sp rf ik0 ir0 il0 ik1 ir1 il1 dk dr J → ME J ρ (nfo ρ ll) (cfo ρ ll) := fun hJ => ⟨hJ.1.1, hRW, hLN, hJ.1.2.2⟩
  have hzz : ∀ {J : Nat → Nat → Int}, MI ρ lg ll tn tb fa wr st sp rf ik0 ir0 il0 ik1 ir1 il1 dk dr J → (am_u2 J 208 0 0) 210 = ρ := fun hJ => (u2_qf (by decide)).trans hJ.1.1
  have eK := k_status (d := 99) (G := G) (I := I) (P := P) hS
  rw [s3] at eK
  exact SP_ro (x := st) hW hC hM (eK) hS (fun _ _ _ => rfl) (fun _ _ _ _ => rfl) (fun _ _ _ => rfl) (fun hM1 => ⟨_, by have e := m_status (d := 99) (G := G) (I := I) (P := P) hS; rw [hM1.2.2.2.1.2.2.1] at e; exact e, fmz, frz⟩)
theorem P_where {L : Nat} {xs : Nat → Int32} {c : Nat} {G : am_G} {I : Nat → Nat → Int} {P : Nat → Nat → Option Nat} (hR : REL L xs c G I P) (hc : c ≤ 600) {a b : Int}  : SP L xs c G I P Sum.inl 129 247 [.inl a, .inl b] := by
  obtain ⟨ρ, lg, ll, tn, tb, fa, wr, st, sp, rf, ik0, ir0, il0, ik1, ir1, il1, dk, dr, hW, hC, hM⟩ := hR
  obtain ⟨w1, w2, w3, w4, w5, w6, w7, w8⟩ := id hW
  obtain ⟨hS, hK, ⟨hCC, hLg, hLw, hTN⟩, ⟨t1, t2⟩, ⟨s1, s2, s3, s4⟩, hRf, hI0, hI1, ⟨hDr, hLO⟩, hG, hX⟩ := id hC
  have hRW := (WR_0 w1).1
  have h59 := (WR_0 w1).2
  have hLN := LawNow_of hRW w2
  have hBN := BarN_of hRW w2
  have hE : CE G I P 65 ρ (nfo ρ ll) (cfo ρ ll) := ⟨hCC, hRW, LWn_of (c := 65) hRW hLw⟩
  have hN := TN_of hTN
  have h0 := RW_n0 hRW
  have h1 := RW_n1 hRW
  have h2 := RW_n2 hRW
  have h3 := RW_n3 hRW
  have h8 := RW_sm hRW
  have hrk : ∀ k, RKk k → 0 ≤ I 173 k ∧ I 173 k ≤ 1000000 := fun k hk => by have := w5 k hk; rw [hRf k hk]; omega
  have hrm : ∀ {J : Nat → Nat → Int}, MI ρ lg ll tn tb fa wr st sp rf ik0 ir0 il0 ik1 ir1 il1 dk dr J → ∀ k, RKk k → 0 ≤ J 209 k ∧ J 209 k ≤ 1000000 := fun hJ k hk => by have := w5 k hk; rw [hJ.2.2.2.2.1 k hk]; omega
  have hme : ∀ {J : Nat → Nat → Int}, MI ρ lg ll tn tb fa wr st sp rf ik0 ir0 il0 ik1 ir1 il1 dk dr J → ME J ρ (nfo ρ ll) (cfo ρ ll) := fun hJ => ⟨hJ.1.1, hRW, hLN, hJ.1.2.2⟩
  have hzz : ∀ {J : Nat → Nat → Int}, MI ρ lg ll tn tb fa wr st sp rf ik0 ir0 il0 ik1 ir1 il1 dk dr J → (am_u2 J 208 0 0) 210 = ρ := fun hJ => (u2_qf (by decide)).trans hJ.1.1
  by_cases hb : (0 ≤ a ∧ a < ρ 0) ∧ (0 ≤ b ∧ b ≤ 60)
  · obtain ⟨cn, rfl⟩ : ∃ cn : Nat, a = (cn : Int) := ⟨a.toNat, by omega⟩
    obtain ⟨kn, rfl⟩ : ∃ kn : Nat, b = (kn : Int) := ⟨b.toNat, by omega⟩
    obtain ⟨I1, P1, eK, hS1, fK, pK⟩ := k_wherec (d := 94) (k := kn) hS hE hN h59 hb.1.2 (by omega)
    exact SP_ro (x := m_pN ρ (nfo ρ ll) (cfo ρ ll) kn (9 + cn)) hW hC hM (eK) hS1 (fun q k h => fK q k (by unfold CK at h; omega) (by unfold CK at h; omega) (by unfold CK at h; omega)) (fun q k a b => fK q k (by omega) (by omega) (by omega)) (fun q k h => pK.1 q k (by unfold PK at h; omega)) (fun hM1 => by obtain ⟨I2, eM, fM⟩ := m_where (d := 90) (k := kn) hS1 (hme hM1) h59 hb.1.2 (by omega); exact ⟨I2, eM, PAP_mk fM hM1.1.1⟩)
  · exact SP_ro (x := -1) hW hC hM (k_where_b (d := 94) hS hE hb) hS (fun _ _ _ => rfl) (fun _ _ _ _ => rfl) (fun _ _ _ => rfl) (fun hM1 => ⟨_, m_where_b (d := 91) hS (hme hM1) hb, fmz, frz⟩)
theorem P_first {L : Nat} {xs : Nat → Int32} {c : Nat} {G : am_G} {I : Nat → Nat → Int} {P : Nat → Nat → Option Nat} (hR : REL L xs c G I P) (hc : c ≤ 600) {a b : Int}  : SP L xs c G I P Sum.inl 130 249 [.inl a, .inl b] := by
  obtain ⟨ρ, lg, ll, tn, tb, fa, wr, st, sp, rf, ik0, ir0, il0, ik1, ir1, il1, dk, dr, hW, hC, hM⟩ := hR
  obtain ⟨w1, w2, w3, w4, w5, w6, w7, w8⟩ := id hW
  obtain ⟨hS, hK, ⟨hCC, hLg, hLw, hTN⟩, ⟨t1, t2⟩, ⟨s1, s2, s3, s4⟩, hRf, hI0, hI1, ⟨hDr, hLO⟩, hG, hX⟩ := id hC
  have hRW := (WR_0 w1).1
  have h59 := (WR_0 w1).2
  have hLN := LawNow_of hRW w2
  have hBN := BarN_of hRW w2
  have hE : CE G I P 65 ρ (nfo ρ ll) (cfo ρ ll) := ⟨hCC, hRW, LWn_of (c := 65) hRW hLw⟩
  have hN := TN_of hTN
  have h0 := RW_n0 hRW
  have h1 := RW_n1 hRW
  have h2 := RW_n2 hRW
  have h3 := RW_n3 hRW
  have h8 := RW_sm hRW
  have hrk : ∀ k, RKk k → 0 ≤ I 173 k ∧ I 173 k ≤ 1000000 := fun k hk => by have := w5 k hk; rw [hRf k hk]; omega
  have hrm : ∀ {J : Nat → Nat → Int}, MI ρ lg ll tn tb fa wr st sp rf ik0 ir0 il0 ik1 ir1 il1 dk dr J → ∀ k, RKk k → 0 ≤ J 209 k ∧ J 209 k ≤ 1000000 := fun hJ k hk => by have := w5 k hk; rw [hJ.2.2.2.2.1 k hk]; omega
  have hme : ∀ {J : Nat → Nat → Int}, MI ρ lg ll tn tb fa wr st sp rf ik0 ir0 il0 ik1 ir1 il1 dk dr J → ME J ρ (nfo ρ ll) (cfo ρ ll) := fun hJ => ⟨hJ.1.1, hRW, hLN, hJ.1.2.2⟩
  have hzz : ∀ {J : Nat → Nat → Int}, MI ρ lg ll tn tb fa wr st sp rf ik0 ir0 il0 ik1 ir1 il1 dk dr J → (am_u2 J 208 0 0) 210 = ρ := fun hJ => (u2_qf (by decide)).trans hJ.1.1
  by_cases hb : (0 ≤ a ∧ a < 6) ∧ (0 ≤ b ∧ b ≤ 1)
  · by_cases e0 : b = 0
    · subst e0
      obtain ⟨I1, P1, eK, hS1, fK, pK⟩ := k_firstc_0 (d := 94) hS hE hN h59 hb.1
      exact SP_ro (x := (if 60 < m_first ρ (nfo ρ ll) (cfo ρ ll) a then -1 else (m_first ρ (nfo ρ ll) (cfo ρ ll) a : Int))) hW hC hM (eK) hS1 (fun q k h => fK q k (by unfold CK at h; omega) (by unfold CK at h; omega) (by unfold CK at h; omega)) (fun q k a b => fK q k (by omega) (by omega) (by omega)) (fun q k h => pK.1 q k (by unfold PK at h; omega)) (fun hM1 => by obtain ⟨I2, eM, fM⟩ := m_first_0 (d := 90) hS1 (hme hM1) h59 hb.1; exact ⟨I2, eM, PAP_mk fM hM1.1.1⟩)
    · have e1 : b = 1 := by omega
      subst e1
      obtain ⟨I1, P1, eK, hS1, fK, pK⟩ := k_firstc_1 (d := 94) hS hE hN h59 hb.1
      exact SP_ro (x := (if 60 < m_first ρ (nfo ρ ll) (cfo ρ ll) a then -1 else m_cloudIn (m_pN ρ (nfo ρ ll) (cfo ρ ll) (m_first ρ (nfo ρ ll) (cfo ρ ll) a)) (ρ 0).toNat a)) hW hC hM (eK) hS1 (fun q k h => fK q k (by unfold CK at h; omega) (by unfold CK at h; omega) (by unfold CK at h; omega)) (fun q k a b => fK q k (by omega) (by omega) (by omega)) (fun q k h => pK.1 q k (by unfold PK at h; omega)) (fun hM1 => by obtain ⟨I2, eM, fM⟩ := m_first_1 (d := 90) hS1 (hme hM1) h59 hb.1; exact ⟨I2, eM, PAP_mk fM hM1.1.1⟩)
  · exact SP_ro (x := -1) hW hC hM (k_first_b (d := 94) hS hE hb) hS (fun _ _ _ => rfl) (fun _ _ _ _ => rfl) (fun _ _ _ => rfl) (fun hM1 => ⟨_, m_first_b (d := 91) hS (hme hM1) hb, fmz, frz⟩)
theorem P_meeting {L : Nat} {xs : Nat → Int32} {c : Nat} {G : am_G} {I : Nat → Nat → Int} {P : Nat → Nat → Option Nat} (hR : REL L xs c G I P) (hc : c ≤ 600) {a b : Int}  : SP L xs c G I P Sum.inl 131 250 [.inl a, .inl b] := by
  obtain ⟨ρ, lg, ll, tn, tb, fa, wr, st, sp, rf, ik0, ir0, il0, ik1, ir1, il1, dk, dr, hW, hC, hM⟩ := hR
  obtain ⟨w1, w2, w3, w4, w5, w6, w7, w8⟩ := id hW
  obtain ⟨hS, hK, ⟨hCC, hLg, hLw, hTN⟩, ⟨t1, t2⟩, ⟨s1, s2, s3, s4⟩, hRf, hI0, hI1, ⟨hDr, hLO⟩, hG, hX⟩ := id hC
  have hRW := (WR_0 w1).1
  have h59 := (WR_0 w1).2
  have hLN := LawNow_of hRW w2
  have hBN := BarN_of hRW w2
  have hE : CE G I P 65 ρ (nfo ρ ll) (cfo ρ ll) := ⟨hCC, hRW, LWn_of (c := 65) hRW hLw⟩
  have hN := TN_of hTN
  have h0 := RW_n0 hRW
  have h1 := RW_n1 hRW
  have h2 := RW_n2 hRW
  have h3 := RW_n3 hRW
  have h8 := RW_sm hRW
  have hrk : ∀ k, RKk k → 0 ≤ I 173 k ∧ I 173 k ≤ 1000000 := fun k hk => by have := w5 k hk; rw [hRf k hk]; omega
  have hrm : ∀ {J : Nat → Nat → Int}, MI ρ lg ll tn tb fa wr st sp rf ik0 ir0 il0 ik1 ir1 il1 dk dr J → ∀ k, RKk k → 0 ≤ J 209 k ∧ J 209 k ≤ 1000000 := fun hJ k hk => by have := w5 k hk; rw [hJ.2.2.2.2.1 k hk]; omega
  have hme : ∀ {J : Nat → Nat → Int}, MI ρ lg ll tn tb fa wr st sp rf ik0 ir0 il0 ik1 ir1 il1 dk dr J → ME J ρ (nfo ρ ll) (cfo ρ ll) := fun hJ => ⟨hJ.1.1, hRW, hLN, hJ.1.2.2⟩
  have hzz : ∀ {J : Nat → Nat → Int}, MI ρ lg ll tn tb fa wr st sp rf ik0 ir0 il0 ik1 ir1 il1 dk dr J → (am_u2 J 208 0 0) 210 = ρ := fun hJ => (u2_qf (by decide)).trans hJ.1.1
  by_cases hb : (0 ≤ a ∧ a < ρ 0) ∧ (0 ≤ b ∧ b < ρ 0) ∧ ¬ a = b
  · obtain ⟨an, rfl⟩ : ∃ cn : Nat, a = (cn : Int) := ⟨a.toNat, by omega⟩
    obtain ⟨bn, rfl⟩ : ∃ kn : Nat, b = (kn : Int) := ⟨b.toNat, by omega⟩
    obtain ⟨I1, P1, eK, hS1, fK, pK⟩ := k_meetc (d := 94) hS hE hN h59 hb.1.2 hb.2.1.2 (by omega)
    exact SP_ro (x := (if 60 < m_meet ρ (nfo ρ ll) (cfo ρ ll) an bn then -1 else (m_meet ρ (nfo ρ ll) (cfo ρ ll) an bn : Int))) hW hC hM (eK) hS1 (fun q k h => fK q k (by unfold CK at h; omega) (by unfold CK at h; omega) (by unfold CK at h; omega)) (fun q k a b => fK q k (by omega) (by omega) (by omega)) (fun q k h => pK.1 q k (by unfold PK at h; omega)) (fun hM1 => by obtain ⟨I2, eM, fM⟩ := m_meet_c (d := 90) hS1 (hme hM1) h59 hb.1.2 hb.2.1.2 (by omega); exact ⟨I2, eM, PAP_mk fM hM1.1.1⟩)
  · exact SP_ro (x := -1) hW hC hM (k_meet_b (d := 94) hS hE hb) hS (fun _ _ _ => rfl) (fun _ _ _ _ => rfl) (fun _ _ _ => rfl) (fun hM1 => ⟨_, m_meet_b (d := 91) hS (hme hM1) hb, fmz, frz⟩)
theorem P_again {L : Nat} {xs : Nat → Int32} {c : Nat} {G : am_G} {I : Nat → Nat → Int} {P : Nat → Nat → Option Nat} (hR : REL L xs c G I P) (hc : c ≤ 600)   : SP L xs c G I P Sum.inl 132 252 [] := by
  obtain ⟨ρ, lg, ll, tn, tb, fa, wr, st, sp, rf, ik0, ir0, il0, ik1, ir1, il1, dk, dr, hW, hC, hM⟩ := hR
  obtain ⟨w1, w2, w3, w4, w5, w6, w7, w8⟩ := id hW
  obtain ⟨hS, hK, ⟨hCC, hLg, hLw, hTN⟩, ⟨t1, t2⟩, ⟨s1, s2, s3, s4⟩, hRf, hI0, hI1, ⟨hDr, hLO⟩, hG, hX⟩ := id hC
  have hRW := (WR_0 w1).1
  have h59 := (WR_0 w1).2
  have hLN := LawNow_of hRW w2
  have hBN := BarN_of hRW w2
  have hE : CE G I P 65 ρ (nfo ρ ll) (cfo ρ ll) := ⟨hCC, hRW, LWn_of (c := 65) hRW hLw⟩
  have hN := TN_of hTN
  have h0 := RW_n0 hRW
  have h1 := RW_n1 hRW
  have h2 := RW_n2 hRW
  have h3 := RW_n3 hRW
  have h8 := RW_sm hRW
  have hrk : ∀ k, RKk k → 0 ≤ I 173 k ∧ I 173 k ≤ 1000000 := fun k hk => by have := w5 k hk; rw [hRf k hk]; omega
  have hrm : ∀ {J : Nat → Nat → Int}, MI ρ lg ll tn tb fa wr st sp rf ik0 ir0 il0 ik1 ir1 il1 dk dr J → ∀ k, RKk k → 0 ≤ J 209 k ∧ J 209 k ≤ 1000000 := fun hJ k hk => by have := w5 k hk; rw [hJ.2.2.2.2.1 k hk]; omega
  have hme : ∀ {J : Nat → Nat → Int}, MI ρ lg ll tn tb fa wr st sp rf ik0 ir0 il0 ik1 ir1 il1 dk dr J → ME J ρ (nfo ρ ll) (cfo ρ ll) := fun hJ => ⟨hJ.1.1, hRW, hLN, hJ.1.2.2⟩
  have hzz : ∀ {J : Nat → Nat → Int}, MI ρ lg ll tn tb fa wr st sp rf ik0 ir0 il0 ik1 ir1 il1 dk dr J → (am_u2 J 208 0 0) 210 = ρ := fun hJ => (u2_qf (by decide)).trans hJ.1.1
  obtain ⟨I1, P1, eK, hS1, fK, pK⟩ := k_againc (d := 94) hS hE hN h59
  exact SP_ro (x := (if 60 < m_again ρ (nfo ρ ll) (cfo ρ ll) then -1 else (m_again ρ (nfo ρ ll) (cfo ρ ll) : Int))) hW hC hM (eK) hS1 (fun q k h => fK q k (by unfold CK at h; omega) (by unfold CK at h; omega) (by unfold CK at h; omega)) (fun q k a b => fK q k (by omega) (by omega) (by omega)) (fun q k h => pK.1 q k (by unfold PK at h; omega)) (fun hM1 => by obtain ⟨I2, eM, fM⟩ := m_again_c (d := 90) hS1 (hme hM1) h59; exact ⟨I2, eM, PAP_mk fM hM1.1.1⟩)
theorem P_answered {L : Nat} {xs : Nat → Int32} {c : Nat} {G : am_G} {I : Nat → Nat → Int} {P : Nat → Nat → Option Nat} (hR : REL L xs c G I P) (hc : c ≤ 600) {a : Int} (ha : a ≤ 2147483647) : SP L xs c G I P Sum.inl 133 257 [.inl a] := by
  obtain ⟨ρ, lg, ll, tn, tb, fa, wr, st, sp, rf, ik0, ir0, il0, ik1, ir1, il1, dk, dr, hW, hC, hM⟩ := hR
  obtain ⟨w1, w2, w3, w4, w5, w6, w7, w8⟩ := id hW
  obtain ⟨hS, hK, ⟨hCC, hLg, hLw, hTN⟩, ⟨t1, t2⟩, ⟨s1, s2, s3, s4⟩, hRf, hI0, hI1, ⟨hDr, hLO⟩, hG, hX⟩ := id hC
  have hRW := (WR_0 w1).1
  have h59 := (WR_0 w1).2
  have hLN := LawNow_of hRW w2
  have hBN := BarN_of hRW w2
  have hE : CE G I P 65 ρ (nfo ρ ll) (cfo ρ ll) := ⟨hCC, hRW, LWn_of (c := 65) hRW hLw⟩
  have hN := TN_of hTN
  have h0 := RW_n0 hRW
  have h1 := RW_n1 hRW
  have h2 := RW_n2 hRW
  have h3 := RW_n3 hRW
  have h8 := RW_sm hRW
  have hrk : ∀ k, RKk k → 0 ≤ I 173 k ∧ I 173 k ≤ 1000000 := fun k hk => by have := w5 k hk; rw [hRf k hk]; omega
  have hrm : ∀ {J : Nat → Nat → Int}, MI ρ lg ll tn tb fa wr st sp rf ik0 ir0 il0 ik1 ir1 il1 dk dr J → ∀ k, RKk k → 0 ≤ J 209 k ∧ J 209 k ≤ 1000000 := fun hJ k hk => by have := w5 k hk; rw [hJ.2.2.2.2.1 k hk]; omega
  have hme : ∀ {J : Nat → Nat → Int}, MI ρ lg ll tn tb fa wr st sp rf ik0 ir0 il0 ik1 ir1 il1 dk dr J → ME J ρ (nfo ρ ll) (cfo ρ ll) := fun hJ => ⟨hJ.1.1, hRW, hLN, hJ.1.2.2⟩
  have hzz : ∀ {J : Nat → Nat → Int}, MI ρ lg ll tn tb fa wr st sp rf ik0 ir0 il0 ik1 ir1 il1 dk dr J → (am_u2 J 208 0 0) 210 = ρ := fun hJ => (u2_qf (by decide)).trans hJ.1.1
  obtain ⟨N, hNN⟩ : ∃ N : Nat, ρ 0 = (N : Int) := ⟨(ρ 0).toNat, by omega⟩
  obtain ⟨F, hF⟩ : ∃ F : Nat, ρ 1 = (F : Int) := ⟨(ρ 1).toNat, by omega⟩
  obtain ⟨H, hH⟩ : ∃ H : Nat, ρ 2 = (H : Int) := ⟨(ρ 2).toNat, by omega⟩
  by_cases hb : 0 ≤ a ∧ a ≤ ρ 0
  · by_cases e0 : a = 0
    · subst e0
      obtain ⟨I1, eK, _, fK⟩ := k_answered_0 (d := 92) hS hE hNN hBN
      exact SP_ro (x := BS (gn ρ (nfo ρ ll) (cfo ρ ll)) N N 0) hW hC hM (eK) hS (fun q k h => fK q k (by unfold CK at h; omega) (by unfold CK at h; omega) (by unfold CK at h; omega)) (fun q k a b => fK q k (by omega) (by omega) (by omega)) (fun _ _ _ => rfl) (fun hM1 => by obtain ⟨I2, eM, _, fM⟩ := m_answered_0 (d := 89) hS (hme hM1) hNN; exact ⟨I2, eM, (fun q k h => fM q k (by unfold MK2 at h; omega) (by unfold MK2 at h; omega) (by unfold MK2 at h; omega) (by unfold MK2 at h; omega) (by unfold MK2 at h; omega) (by unfold MK2 at h; omega)), (fun q k h => fM q k (by omega) (by omega) (by omega) (by omega) (by omega) (by omega))⟩)
    · obtain ⟨an, rfl⟩ : ∃ cn : Nat, a = ((cn + 1 : Nat) : Int) := ⟨(a - 1).toNat, by omega⟩
      obtain ⟨I1, eK, _, fK⟩ := k_answered (d := 92) hS hE hNN hBN (a := an) (by omega)
      exact SP_ro (x := ((lq (gn ρ (nfo ρ ll) (cfo ρ ll)) N an (tkn (gn ρ (nfo ρ ll) (cfo ρ ll)) N an) : Nat) : Int)) hW hC hM (eK) hS (fun q k h => fK q k (by unfold CK at h; omega) (by unfold CK at h; omega) (by unfold CK at h; omega)) (fun q k a b => fK q k (by omega) (by omega) (by omega)) (fun _ _ _ => rfl) (fun hM1 => by obtain ⟨I2, eM, _, fM⟩ := m_answered_c (d := 89) hS (hme hM1) hNN (a := an) (by omega); exact ⟨I2, eM, (fun q k h => fM q k (by unfold MK2 at h; omega) (by unfold MK2 at h; omega) (by unfold MK2 at h; omega) (by unfold MK2 at h; omega) (by unfold MK2 at h; omega) (by unfold MK2 at h; omega)), (fun q k h => fM q k (by omega) (by omega) (by omega) (by omega) (by omega) (by omega))⟩)
  · exact SP_ro (x := -1) hW hC hM (k_answered_b (d := 92) hS hE hb ha) hS (fun _ _ _ => rfl) (fun _ _ _ _ => rfl) (fun _ _ _ => rfl) (fun hM1 => ⟨_, m_answered_b (d := 89) hS (hme hM1) hNN (by omega), fmz, frz⟩)
theorem P_canBe {L : Nat} {xs : Nat → Int32} {c : Nat} {G : am_G} {I : Nat → Nat → Int} {P : Nat → Nat → Option Nat} (hR : REL L xs c G I P) (hc : c ≤ 600)   : SP L xs c G I P Sum.inl 136 262 [] := by
  obtain ⟨ρ, lg, ll, tn, tb, fa, wr, st, sp, rf, ik0, ir0, il0, ik1, ir1, il1, dk, dr, hW, hC, hM⟩ := hR
  obtain ⟨w1, w2, w3, w4, w5, w6, w7, w8⟩ := id hW
  obtain ⟨hS, hK, ⟨hCC, hLg, hLw, hTN⟩, ⟨t1, t2⟩, ⟨s1, s2, s3, s4⟩, hRf, hI0, hI1, ⟨hDr, hLO⟩, hG, hX⟩ := id hC
  have hRW := (WR_0 w1).1
  have h59 := (WR_0 w1).2
  have hLN := LawNow_of hRW w2
  have hBN := BarN_of hRW w2
  have hE : CE G I P 65 ρ (nfo ρ ll) (cfo ρ ll) := ⟨hCC, hRW, LWn_of (c := 65) hRW hLw⟩
  have hN := TN_of hTN
  have h0 := RW_n0 hRW
  have h1 := RW_n1 hRW
  have h2 := RW_n2 hRW
  have h3 := RW_n3 hRW
  have h8 := RW_sm hRW
  have hrk : ∀ k, RKk k → 0 ≤ I 173 k ∧ I 173 k ≤ 1000000 := fun k hk => by have := w5 k hk; rw [hRf k hk]; omega
  have hrm : ∀ {J : Nat → Nat → Int}, MI ρ lg ll tn tb fa wr st sp rf ik0 ir0 il0 ik1 ir1 il1 dk dr J → ∀ k, RKk k → 0 ≤ J 209 k ∧ J 209 k ≤ 1000000 := fun hJ k hk => by have := w5 k hk; rw [hJ.2.2.2.2.1 k hk]; omega
  have hme : ∀ {J : Nat → Nat → Int}, MI ρ lg ll tn tb fa wr st sp rf ik0 ir0 il0 ik1 ir1 il1 dk dr J → ME J ρ (nfo ρ ll) (cfo ρ ll) := fun hJ => ⟨hJ.1.1, hRW, hLN, hJ.1.2.2⟩
  have hzz : ∀ {J : Nat → Nat → Int}, MI ρ lg ll tn tb fa wr st sp rf ik0 ir0 il0 ik1 ir1 il1 dk dr J → (am_u2 J 208 0 0) 210 = ρ := fun hJ => (u2_qf (by decide)).trans hJ.1.1
  obtain ⟨N, hNN⟩ : ∃ N : Nat, ρ 0 = (N : Int) := ⟨(ρ 0).toNat, by omega⟩
  obtain ⟨F, hF⟩ : ∃ F : Nat, ρ 1 = (F : Int) := ⟨(ρ 1).toNat, by omega⟩
  obtain ⟨H, hH⟩ : ∃ H : Nat, ρ 2 = (H : Int) := ⟨(ρ 2).toNat, by omega⟩
  obtain ⟨I1, eK, _, fK⟩ := k_canBe (d := 93) hS hE hNN hBN hH
  exact SP_ro (x := ((cbt ρ (nfo ρ ll) (cfo ρ ll) H N : Nat) : Int)) hW hC hM (eK) hS (fun q k h => fK q k (by unfold CK at h; omega) (by unfold CK at h; omega)) (fun q k a b => fK q k (by omega) (by omega)) (fun _ _ _ => rfl) (fun hM1 => by obtain ⟨I2, eM, _, fM⟩ := m_canBe (d := 91) hS (hme hM1) hNN hH; exact ⟨I2, eM, (fun q k h => fM q k (by unfold MK2 at h; omega) (by unfold MK2 at h; omega) (by unfold MK2 at h; omega)), (fun q k h => fM q k (by omega) (by omega) (by omega))⟩)
theorem P_ask {L : Nat} {xs : Nat → Int32} {c : Nat} {G : am_G} {I : Nat → Nat → Int} {P : Nat → Nat → Option Nat} (hR : REL L xs c G I P) (hc : c ≤ 600) {a : Int}  : SP L xs c G I P Sum.inl 137 263 [.inl a] := by
  obtain ⟨ρ, lg, ll, tn, tb, fa, wr, st, sp, rf, ik0, ir0, il0, ik1, ir1, il1, dk, dr, hW, hC, hM⟩ := hR
  obtain ⟨w1, w2, w3, w4, w5, w6, w7, w8⟩ := id hW
  obtain ⟨hS, hK, ⟨hCC, hLg, hLw, hTN⟩, ⟨t1, t2⟩, ⟨s1, s2, s3, s4⟩, hRf, hI0, hI1, ⟨hDr, hLO⟩, hG, hX⟩ := id hC
  have hRW := (WR_0 w1).1
  have h59 := (WR_0 w1).2
  have hLN := LawNow_of hRW w2
  have hBN := BarN_of hRW w2
  have hE : CE G I P 65 ρ (nfo ρ ll) (cfo ρ ll) := ⟨hCC, hRW, LWn_of (c := 65) hRW hLw⟩
  have hN := TN_of hTN
  have h0 := RW_n0 hRW
  have h1 := RW_n1 hRW
  have h2 := RW_n2 hRW
  have h3 := RW_n3 hRW
  have h8 := RW_sm hRW
  have hrk : ∀ k, RKk k → 0 ≤ I 173 k ∧ I 173 k ≤ 1000000 := fun k hk => by have := w5 k hk; rw [hRf k hk]; omega
  have hrm : ∀ {J : Nat → Nat → Int}, MI ρ lg ll tn tb fa wr st sp rf ik0 ir0 il0 ik1 ir1 il1 dk dr J → ∀ k, RKk k → 0 ≤ J 209 k ∧ J 209 k ≤ 1000000 := fun hJ k hk => by have := w5 k hk; rw [hJ.2.2.2.2.1 k hk]; omega
  have hme : ∀ {J : Nat → Nat → Int}, MI ρ lg ll tn tb fa wr st sp rf ik0 ir0 il0 ik1 ir1 il1 dk dr J → ME J ρ (nfo ρ ll) (cfo ρ ll) := fun hJ => ⟨hJ.1.1, hRW, hLN, hJ.1.2.2⟩
  have hzz : ∀ {J : Nat → Nat → Int}, MI ρ lg ll tn tb fa wr st sp rf ik0 ir0 il0 ik1 ir1 il1 dk dr J → (am_u2 J 208 0 0) 210 = ρ := fun hJ => (u2_qf (by decide)).trans hJ.1.1
  obtain ⟨N, hNN⟩ : ∃ N : Nat, ρ 0 = (N : Int) := ⟨(ρ 0).toNat, by omega⟩
  obtain ⟨F, hF⟩ : ∃ F : Nat, ρ 1 = (F : Int) := ⟨(ρ 1).toNat, by omega⟩
  obtain ⟨H, hH⟩ : ∃ H : Nat, ρ 2 = (H : Int) := ⟨(ρ 2).toNat, by omega⟩
  by_cases hb : 0 ≤ a ∧ a ≤ 1
  · by_cases hne : cbt ρ (nfo ρ ll) (cfo ρ ll) H N = 0
    · by_cases e0 : a = 0
      · subst e0
        obtain ⟨I1, eK, _, fK⟩ := k_askc_0z (d := 92) hS hE hNN hBN hH hF hne
        exact SP_ro (x := -1) hW hC hM (eK) hS (fun q k h => fK q k (by unfold CK at h; omega) (by unfold CK at h; omega) (by unfold CK at h; omega)) (fun q k a b => fK q k (by omega) (by omega) (by omega)) (fun _ _ _ => rfl) (fun hM1 => by obtain ⟨I2, eM, _, fM⟩ := m_ask_0z (d := 91) hS (hme hM1) hNN hH hF hne; exact ⟨I2, eM, (fun q k h => fM q k (by unfold MK2 at h; omega) (by unfold MK2 at h; omega) (by unfold MK2 at h; omega) (by unfold MK2 at h; omega)), (fun q k h => fM q k (by omega) (by omega) (by omega) (by omega))⟩)
      · have e1 : a = 1 := by omega
        subst e1
        obtain ⟨I1, eK, _, fK⟩ := k_askc_1z (d := 92) hS hE hNN hBN hH hF hne
        exact SP_ro (x := -1) hW hC hM (eK) hS (fun q k h => fK q k (by unfold CK at h; omega) (by unfold CK at h; omega) (by unfold CK at h; omega)) (fun q k a b => fK q k (by omega) (by omega) (by omega)) (fun _ _ _ => rfl) (fun hM1 => by obtain ⟨I2, eM, _, fM⟩ := m_ask_1z (d := 91) hS (hme hM1) hNN hH hF hne; exact ⟨I2, eM, (fun q k h => fM q k (by unfold MK2 at h; omega) (by unfold MK2 at h; omega) (by unfold MK2 at h; omega) (by unfold MK2 at h; omega)), (fun q k h => fM q k (by omega) (by omega) (by omega) (by omega))⟩)
    · by_cases e0 : a = 0
      · subst e0
        obtain ⟨I1, eK, _, fK⟩ := k_askc_0 (d := 92) hS hE hNN hBN hH hF hne
        exact SP_ro (x := (tsk ρ (nfo ρ ll) (cfo ρ ll) (cbt ρ (nfo ρ ll) (cfo ρ ll) H N) N F).1) hW hC hM (eK) hS (fun q k h => fK q k (by unfold CK at h; omega) (by unfold CK at h; omega) (by unfold CK at h; omega)) (fun q k a b => fK q k (by omega) (by omega) (by omega)) (fun _ _ _ => rfl) (fun hM1 => by obtain ⟨I2, eM, _, fM⟩ := m_ask_0 (d := 91) hS (hme hM1) hNN hH hF hne; exact ⟨I2, eM, (fun q k h => fM q k (by unfold MK2 at h; omega) (by unfold MK2 at h; omega) (by unfold MK2 at h; omega) (by unfold MK2 at h; omega)), (fun q k h => fM q k (by omega) (by omega) (by omega) (by omega))⟩)
      · have e1 : a = 1 := by omega
        subst e1
        obtain ⟨I1, eK, _, fK⟩ := k_askc_1 (d := 92) hS hE hNN hBN hH hF hne
        exact SP_ro (x := fwv (tsk ρ (nfo ρ ll) (cfo ρ ll) (cbt ρ (nfo ρ ll) (cfo ρ ll) H N) N F)) hW hC hM (eK) hS (fun q k h => fK q k (by unfold CK at h; omega) (by unfold CK at h; omega) (by unfold CK at h; omega)) (fun q k a b => fK q k (by omega) (by omega) (by omega)) (fun _ _ _ => rfl) (fun hM1 => by obtain ⟨I2, eM, _, fM⟩ := m_ask_1 (d := 91) hS (hme hM1) hNN hH hF hne; exact ⟨I2, eM, (fun q k h => fM q k (by unfold MK2 at h; omega) (by unfold MK2 at h; omega) (by unfold MK2 at h; omega) (by unfold MK2 at h; omega)), (fun q k h => fM q k (by omega) (by omega) (by omega) (by omega))⟩)
  · exact SP_ro (x := -1) hW hC hM (k_askc_b (d := 92) hS hb) hS (fun _ _ _ => rfl) (fun _ _ _ _ => rfl) (fun _ _ _ => rfl) (fun hM1 => by obtain ⟨I2, eM, _, fM⟩ := m_ask_b (d := 91) hS (hme hM1) hNN hH hF hb; exact ⟨I2, eM, (fun q k h => fM q k (by unfold MK2 at h; omega) (by unfold MK2 at h; omega) (by unfold MK2 at h; omega) (by unfold MK2 at h; omega)), (fun q k h => fM q k (by omega) (by omega) (by omega) (by omega))⟩)
theorem P_fair {L : Nat} {xs : Nat → Int32} {c : Nat} {G : am_G} {I : Nat → Nat → Int} {P : Nat → Nat → Option Nat} (hR : REL L xs c G I P) (hc : c ≤ 600) {a : Int}  : SP L xs c G I P Sum.inl 142 272 [.inl a] := by
  obtain ⟨ρ, lg, ll, tn, tb, fa, wr, st, sp, rf, ik0, ir0, il0, ik1, ir1, il1, dk, dr, hW, hC, hM⟩ := hR
  obtain ⟨w1, w2, w3, w4, w5, w6, w7, w8⟩ := id hW
  obtain ⟨hS, hK, ⟨hCC, hLg, hLw, hTN⟩, ⟨t1, t2⟩, ⟨s1, s2, s3, s4⟩, hRf, hI0, hI1, ⟨hDr, hLO⟩, hG, hX⟩ := id hC
  have hRW := (WR_0 w1).1
  have h59 := (WR_0 w1).2
  have hLN := LawNow_of hRW w2
  have hBN := BarN_of hRW w2
  have hE : CE G I P 65 ρ (nfo ρ ll) (cfo ρ ll) := ⟨hCC, hRW, LWn_of (c := 65) hRW hLw⟩
  have hN := TN_of hTN
  have h0 := RW_n0 hRW
  have h1 := RW_n1 hRW
  have h2 := RW_n2 hRW
  have h3 := RW_n3 hRW
  have h8 := RW_sm hRW
  have hrk : ∀ k, RKk k → 0 ≤ I 173 k ∧ I 173 k ≤ 1000000 := fun k hk => by have := w5 k hk; rw [hRf k hk]; omega
  have hrm : ∀ {J : Nat → Nat → Int}, MI ρ lg ll tn tb fa wr st sp rf ik0 ir0 il0 ik1 ir1 il1 dk dr J → ∀ k, RKk k → 0 ≤ J 209 k ∧ J 209 k ≤ 1000000 := fun hJ k hk => by have := w5 k hk; rw [hJ.2.2.2.2.1 k hk]; omega
  have hme : ∀ {J : Nat → Nat → Int}, MI ρ lg ll tn tb fa wr st sp rf ik0 ir0 il0 ik1 ir1 il1 dk dr J → ME J ρ (nfo ρ ll) (cfo ρ ll) := fun hJ => ⟨hJ.1.1, hRW, hLN, hJ.1.2.2⟩
  have hzz : ∀ {J : Nat → Nat → Int}, MI ρ lg ll tn tb fa wr st sp rf ik0 ir0 il0 ik1 ir1 il1 dk dr J → (am_u2 J 208 0 0) 210 = ρ := fun hJ => (u2_qf (by decide)).trans hJ.1.1
  obtain ⟨N, hNN⟩ : ∃ N : Nat, ρ 0 = (N : Int) := ⟨(ρ 0).toNat, by omega⟩
  obtain ⟨F, hF⟩ : ∃ F : Nat, ρ 1 = (F : Int) := ⟨(ρ 1).toNat, by omega⟩
  obtain ⟨H, hH⟩ : ∃ H : Nat, ρ 2 = (H : Int) := ⟨(ρ 2).toNat, by omega⟩
  by_cases hb : 0 ≤ a ∧ a < ρ 1
  · obtain ⟨f, rfl⟩ : ∃ cn : Nat, a = (cn : Int) := ⟨a.toNat, by omega⟩
    obtain ⟨I1, eK, _, fK⟩ := k_fairc (d := 94) hS hE hNN hBN hF (f := f) (by omega)
    exact SP_ro (x := fsh ρ (nfo ρ ll) (cfo ρ ll) F N f) hW hC hM (eK) hS (fun q k h => fK q k (by unfold CK at h; omega) (by unfold CK at h; omega) (by unfold CK at h; omega)) (fun q k a b => fK q k (by omega) (by omega) (by omega)) (fun _ _ _ => rfl) (fun hM1 => by obtain ⟨I2, eM, _, fM⟩ := m_fair (d := 91) hS (hme hM1) hNN hF (f := f) (by omega); exact ⟨I2, eM, (fun q k h => fM q k (by unfold MK2 at h; omega) (by unfold MK2 at h; omega) (by unfold MK2 at h; omega) (by unfold MK2 at h; omega)), (fun q k h => fM q k (by omega) (by omega) (by omega) (by omega))⟩)
  · exact SP_ro (x := -1) hW hC hM (k_fairc_b (d := 94) hS hE hb) hS (fun _ _ _ => rfl) (fun _ _ _ _ => rfl) (fun _ _ _ => rfl) (fun hM1 => ⟨_, m_fair_b (d := 91) hS (hme hM1) hb, fmz, frz⟩)
theorem P_way {L : Nat} {xs : Nat → Int32} {c : Nat} {G : am_G} {I : Nat → Nat → Int} {P : Nat → Nat → Option Nat} (hR : REL L xs c G I P) (hc : c ≤ 600) {a b w : Int}  : SP L xs c G I P Sum.inl 138 266 [.inl a, .inl b, .inl w] := by
  obtain ⟨ρ, lg, ll, tn, tb, fa, wr, st, sp, rf, ik0, ir0, il0, ik1, ir1, il1, dk, dr, hW, hC, hM⟩ := hR
  obtain ⟨w1, w2, w3, w4, w5, w6, w7, w8⟩ := id hW
  obtain ⟨hS, hK, ⟨hCC, hLg, hLw, hTN⟩, ⟨t1, t2⟩, ⟨s1, s2, s3, s4⟩, hRf, hI0, hI1, ⟨hDr, hLO⟩, hG, hX⟩ := id hC
  have hRW := (WR_0 w1).1
  have h59 := (WR_0 w1).2
  have hLN := LawNow_of hRW w2
  have hBN := BarN_of hRW w2
  have hE : CE G I P 65 ρ (nfo ρ ll) (cfo ρ ll) := ⟨hCC, hRW, LWn_of (c := 65) hRW hLw⟩
  have hN := TN_of hTN
  have h0 := RW_n0 hRW
  have h1 := RW_n1 hRW
  have h2 := RW_n2 hRW
  have h3 := RW_n3 hRW
  have h8 := RW_sm hRW
  have hrk : ∀ k, RKk k → 0 ≤ I 173 k ∧ I 173 k ≤ 1000000 := fun k hk => by have := w5 k hk; rw [hRf k hk]; omega
  have hrm : ∀ {J : Nat → Nat → Int}, MI ρ lg ll tn tb fa wr st sp rf ik0 ir0 il0 ik1 ir1 il1 dk dr J → ∀ k, RKk k → 0 ≤ J 209 k ∧ J 209 k ≤ 1000000 := fun hJ k hk => by have := w5 k hk; rw [hJ.2.2.2.2.1 k hk]; omega
  have hme : ∀ {J : Nat → Nat → Int}, MI ρ lg ll tn tb fa wr st sp rf ik0 ir0 il0 ik1 ir1 il1 dk dr J → ME J ρ (nfo ρ ll) (cfo ρ ll) := fun hJ => ⟨hJ.1.1, hRW, hLN, hJ.1.2.2⟩
  have hzz : ∀ {J : Nat → Nat → Int}, MI ρ lg ll tn tb fa wr st sp rf ik0 ir0 il0 ik1 ir1 il1 dk dr J → (am_u2 J 208 0 0) 210 = ρ := fun hJ => (u2_qf (by decide)).trans hJ.1.1
  have hrd : hroad ρ := RW_ro hRW
  by_cases hb : (0 ≤ a ∧ a < 6) ∧ (0 ≤ b ∧ b < 6) ∧ -1 ≤ w
  · skip
    obtain ⟨fr, rfl⟩ : ∃ fr : Nat, a = (fr : Int) := ⟨a.toNat, by omega⟩
    obtain ⟨to_, rfl⟩ : ∃ to_ : Nat, b = (to_ : Int) := ⟨b.toNat, by omega⟩
    by_cases e : w = -1
    · subst e
      exact SP_ro (x := m_way ρ fr to_ (-1)) hW hC hM (k_way_n (d := 96) hS hCC hrd (by omega) (by omega)) hS (fun q k h => u1_qk (by unfold CK at h; omega)) (fun q k a b => u1_qk (by omega)) (fun _ _ _ => rfl) (fun hM1 => by obtain ⟨I2, eM, fM⟩ := m_way_n (d := 96) (fr := fr) (to_ := to_) hS hM1.1.1 hrd (by omega) (by omega); exact ⟨I2, eM, (fun q k h => fM q k (by unfold MK2 at h; omega) (by unfold MK2 at h; omega)), (fun q k h => fM q k (by omega) (by omega))⟩)
    obtain ⟨i, rfl⟩ : ∃ i : Nat, w = (i : Int) := ⟨w.toNat, by omega⟩
    by_cases hl : lc ρ to_ fr = 100000000
    · exact SP_ro (x := m_way ρ fr to_ (i : Int)) hW hC hM (k_way_z (d := 96) hS hCC hrd (by omega) (by omega) hl) hS (fun q k h => u1_qk (by unfold CK at h; omega)) (fun q k a b => u1_qk (by omega)) (fun _ _ _ => rfl) (fun hM1 => by obtain ⟨I2, eM, fM⟩ := m_way_z (d := 96) (fr := fr) (to_ := to_) (i := i) hS hM1.1.1 hrd (by omega) (by omega) hl; exact ⟨I2, eM, (fun q k h => fM q k (by unfold MK2 at h; omega) (by unfold MK2 at h; omega)), (fun q k h => fM q k (by omega) (by omega))⟩)
    · exact SP_ro (x := m_way ρ fr to_ (i : Int)) hW hC hM (k_way_y (d := 96) hS hCC hrd (by omega) (by omega) hl) hS (fun q k h => u1_qk (by unfold CK at h; omega)) (fun q k a b => u1_qk (by omega)) (fun _ _ _ => rfl) (fun hM1 => by obtain ⟨I2, eM, fM⟩ := m_way_y (d := 96) (fr := fr) (to_ := to_) (i := i) hS hM1.1.1 hrd (by omega) (by omega) hl; exact ⟨I2, eM, (fun q k h => fM q k (by unfold MK2 at h; omega) (by unfold MK2 at h; omega)), (fun q k h => fM q k (by omega) (by omega))⟩)
  · exact SP_ro (x := -1) hW hC hM (k_way_b (d := 96) hb) hS (fun _ _ _ => rfl) (fun _ _ _ _ => rfl) (fun _ _ _ => rfl) (fun hM1 => ⟨_, m_way_b (d := 96) hS hb, fmz, frz⟩)
theorem P_part {L : Nat} {xs : Nat → Int32} {c : Nat} {G : am_G} {I : Nat → Nat → Int} {P : Nat → Nat → Option Nat} (hR : REL L xs c G I P) (hc : c ≤ 600) {a b w : Int}  : SP L xs c G I P Sum.inl 139 267 [.inl a, .inl b, .inl w] := by
  obtain ⟨ρ, lg, ll, tn, tb, fa, wr, st, sp, rf, ik0, ir0, il0, ik1, ir1, il1, dk, dr, hW, hC, hM⟩ := hR
  obtain ⟨w1, w2, w3, w4, w5, w6, w7, w8⟩ := id hW
  obtain ⟨hS, hK, ⟨hCC, hLg, hLw, hTN⟩, ⟨t1, t2⟩, ⟨s1, s2, s3, s4⟩, hRf, hI0, hI1, ⟨hDr, hLO⟩, hG, hX⟩ := id hC
  have hRW := (WR_0 w1).1
  have h59 := (WR_0 w1).2
  have hLN := LawNow_of hRW w2
  have hBN := BarN_of hRW w2
  have hE : CE G I P 65 ρ (nfo ρ ll) (cfo ρ ll) := ⟨hCC, hRW, LWn_of (c := 65) hRW hLw⟩
  have hN := TN_of hTN
  have h0 := RW_n0 hRW
  have h1 := RW_n1 hRW
  have h2 := RW_n2 hRW
  have h3 := RW_n3 hRW
  have h8 := RW_sm hRW
  have hrk : ∀ k, RKk k → 0 ≤ I 173 k ∧ I 173 k ≤ 1000000 := fun k hk => by have := w5 k hk; rw [hRf k hk]; omega
  have hrm : ∀ {J : Nat → Nat → Int}, MI ρ lg ll tn tb fa wr st sp rf ik0 ir0 il0 ik1 ir1 il1 dk dr J → ∀ k, RKk k → 0 ≤ J 209 k ∧ J 209 k ≤ 1000000 := fun hJ k hk => by have := w5 k hk; rw [hJ.2.2.2.2.1 k hk]; omega
  have hme : ∀ {J : Nat → Nat → Int}, MI ρ lg ll tn tb fa wr st sp rf ik0 ir0 il0 ik1 ir1 il1 dk dr J → ME J ρ (nfo ρ ll) (cfo ρ ll) := fun hJ => ⟨hJ.1.1, hRW, hLN, hJ.1.2.2⟩
  have hzz : ∀ {J : Nat → Nat → Int}, MI ρ lg ll tn tb fa wr st sp rf ik0 ir0 il0 ik1 ir1 il1 dk dr J → (am_u2 J 208 0 0) 210 = ρ := fun hJ => (u2_qf (by decide)).trans hJ.1.1
  have hp8 : ∀ {J : Nat → Nat → Int}, MI ρ lg ll tn tb fa wr st sp rf ik0 ir0 il0 ik1 ir1 il1 dk dr J → J 210 8 = (((ρ 8).toNat : Nat) : Int) := fun hJ => by rw [hJ.1.1]; exact (Int.toNat_of_nonneg h8.1).symm
  by_cases hb : (0 ≤ a ∧ a < 6) ∧ (0 ≤ b ∧ b < 6) ∧ ¬ a = b ∧ (0 ≤ w ∧ w ≤ 1)
  · skip
    obtain ⟨one, rfl⟩ : ∃ one : Nat, a = (one : Int) := ⟨a.toNat, by omega⟩
    obtain ⟨other, rfl⟩ : ∃ other : Nat, b = (other : Int) := ⟨b.toNat, by omega⟩
    by_cases e0 : w = 0
    · subst e0
      exact SP_ro (x := (if (m_part ρ (ρ 8).toNat one other).1 = -1 then -1 else (m_part ρ (ρ 8).toNat one other).2)) hW hC hM (k_partc_0 (d := 96) hS hE (by omega) (by omega) (by omega)) hS (fun _ _ _ => rfl) (fun _ _ _ _ => rfl) (fun _ _ _ => rfl) (fun hM1 => ⟨_, by have e := m_part_0 (d := 96) (G := G) (I := I) (P := P) (one := one) (other := other) hS (by omega) (by omega) (by omega) (hp8 hM1) (by omega); rw [hzz hM1] at e; exact e, fmz, frz⟩)
    have e1 : w = 1 := by omega
    subst e1
    exact SP_ro (x := (m_part ρ (ρ 8).toNat one other).1) hW hC hM (k_partc_1 (d := 96) hS hE (by omega) (by omega) (by omega)) hS (fun _ _ _ => rfl) (fun _ _ _ _ => rfl) (fun _ _ _ => rfl) (fun hM1 => ⟨_, by have e := m_part_1 (d := 96) (G := G) (I := I) (P := P) (one := one) (other := other) hS (by omega) (by omega) (by omega) (hp8 hM1) (by omega); rw [hzz hM1] at e; exact e, fmz, frz⟩)
  · exact SP_ro (x := -1) hW hC hM (k_partc_b (d := 96) hS hE hb) hS (fun _ _ _ => rfl) (fun _ _ _ _ => rfl) (fun _ _ _ => rfl) (fun hM1 => ⟨_, m_part_b (d := 96) hS hb, fmz, frz⟩)
theorem P_leave {L : Nat} {xs : Nat → Int32} {c : Nat} {G : am_G} {I : Nat → Nat → Int} {P : Nat → Nat → Option Nat} (hR : REL L xs c G I P) (hc : c ≤ 600) {w : Int}  : SP L xs c G I P Sum.inl 140 270 [.inl w] := by
  obtain ⟨ρ, lg, ll, tn, tb, fa, wr, st, sp, rf, ik0, ir0, il0, ik1, ir1, il1, dk, dr, hW, hC, hM⟩ := hR
  obtain ⟨w1, w2, w3, w4, w5, w6, w7, w8⟩ := id hW
  obtain ⟨hS, hK, ⟨hCC, hLg, hLw, hTN⟩, ⟨t1, t2⟩, ⟨s1, s2, s3, s4⟩, hRf, hI0, hI1, ⟨hDr, hLO⟩, hG, hX⟩ := id hC
  have hRW := (WR_0 w1).1
  have h59 := (WR_0 w1).2
  have hLN := LawNow_of hRW w2
  have hBN := BarN_of hRW w2
  have hE : CE G I P 65 ρ (nfo ρ ll) (cfo ρ ll) := ⟨hCC, hRW, LWn_of (c := 65) hRW hLw⟩
  have hN := TN_of hTN
  have h0 := RW_n0 hRW
  have h1 := RW_n1 hRW
  have h2 := RW_n2 hRW
  have h3 := RW_n3 hRW
  have h8 := RW_sm hRW
  have hrk : ∀ k, RKk k → 0 ≤ I 173 k ∧ I 173 k ≤ 1000000 := fun k hk => by have := w5 k hk; rw [hRf k hk]; omega
  have hrm : ∀ {J : Nat → Nat → Int}, MI ρ lg ll tn tb fa wr st sp rf ik0 ir0 il0 ik1 ir1 il1 dk dr J → ∀ k, RKk k → 0 ≤ J 209 k ∧ J 209 k ≤ 1000000 := fun hJ k hk => by have := w5 k hk; rw [hJ.2.2.2.2.1 k hk]; omega
  have hme : ∀ {J : Nat → Nat → Int}, MI ρ lg ll tn tb fa wr st sp rf ik0 ir0 il0 ik1 ir1 il1 dk dr J → ME J ρ (nfo ρ ll) (cfo ρ ll) := fun hJ => ⟨hJ.1.1, hRW, hLN, hJ.1.2.2⟩
  have hzz : ∀ {J : Nat → Nat → Int}, MI ρ lg ll tn tb fa wr st sp rf ik0 ir0 il0 ik1 ir1 il1 dk dr J → (am_u2 J 208 0 0) 210 = ρ := fun hJ => (u2_qf (by decide)).trans hJ.1.1
  have hp8 : ∀ {J : Nat → Nat → Int}, MI ρ lg ll tn tb fa wr st sp rf ik0 ir0 il0 ik1 ir1 il1 dk dr J → J 210 8 = (((ρ 8).toNat : Nat) : Int) := fun hJ => by rw [hJ.1.1]; exact (Int.toNat_of_nonneg h8.1).symm
  have hho : ∀ {J : Nat → Nat → Int}, MI ρ lg ll tn tb fa wr st sp rf ik0 ir0 il0 ik1 ir1 il1 dk dr J → ∀ d, am_call am_B am_M (d + 1) 268 [.inr (.inr (some 208))] (G, (am_u2 J 208 0 0), P) = some (some (.inl (m_homes ρ : Int)), (G, (am_u2 J 208 0 0), P)) := fun hJ d => c_homes (d := d) (I := am_u2 _ 208 0 0) (F := (ρ 1).toNat) (hm := fun i => (ρ (42 + i)).toNat) hS (by rw [hzz hJ]; omega) (by omega) (fun i hi => by have := RW_by hRW i (by omega); rw [hzz hJ]; omega) (fun i hi => by have := RW_by hRW i (by omega); omega)
  have hh6 : m_homes ρ < 64 := am_it_inv (f := fun i s => s ||| 2 ^ (ρ (42 + i)).toNat) (inv := fun _ s => s < 64) (N := (ρ 1).toNat) (fun i s hi h => by have := RW_by hRW i (by omega); exact or_bit_lt h (by omega)) (ρ 1).toNat 0 0 (by omega) (by decide)
  by_cases hb : 0 ≤ w ∧ w ≤ 1
  · skip
    by_cases e0 : w = 0
    · subst e0
      exact SP_ro (x := (if (m_leave ρ (ρ 8).toNat (m_homes ρ)).1 = -1 then -1 else (m_leave ρ (ρ 8).toNat (m_homes ρ)).2)) hW hC hM (k_leavec_0 (d := 96) hS hE) hS (fun _ _ _ => rfl) (fun _ _ _ _ => rfl) (fun _ _ _ => rfl) (fun hM1 => ⟨_, by have e := m_leave_0 (d := 96) (G := G) (I := I) (P := P) (need := m_homes ρ) hS hh6 (hp8 hM1) (by omega) (hho hM1); rw [hzz hM1] at e; exact e, fmz, frz⟩)
    have e1 : w = 1 := by omega
    subst e1
    exact SP_ro (x := (m_leave ρ (ρ 8).toNat (m_homes ρ)).1) hW hC hM (k_leavec_1 (d := 96) hS hE) hS (fun _ _ _ => rfl) (fun _ _ _ _ => rfl) (fun _ _ _ => rfl) (fun hM1 => ⟨_, by have e := m_leave_1 (d := 96) (G := G) (I := I) (P := P) (need := m_homes ρ) hS hh6 (hp8 hM1) (by omega) (hho hM1); rw [hzz hM1] at e; exact e, fmz, frz⟩)
  · exact SP_ro (x := -1) hW hC hM (k_leavec_b (d := 96) hb) hS (fun _ _ _ => rfl) (fun _ _ _ _ => rfl) (fun _ _ _ => rfl) (fun hM1 => ⟨_, m_leave_b (d := 96) hS hb, fmz, frz⟩)
theorem P_needed {L : Nat} {xs : Nat → Int32} {c : Nat} {G : am_G} {I : Nat → Nat → Int} {P : Nat → Nat → Option Nat} (hR : REL L xs c G I P) (hc : c ≤ 600)   : SP L xs c G I P Sum.inl 141 271 [] := by
  obtain ⟨ρ, lg, ll, tn, tb, fa, wr, st, sp, rf, ik0, ir0, il0, ik1, ir1, il1, dk, dr, hW, hC, hM⟩ := hR
  obtain ⟨w1, w2, w3, w4, w5, w6, w7, w8⟩ := id hW
  obtain ⟨hS, hK, ⟨hCC, hLg, hLw, hTN⟩, ⟨t1, t2⟩, ⟨s1, s2, s3, s4⟩, hRf, hI0, hI1, ⟨hDr, hLO⟩, hG, hX⟩ := id hC
  have hRW := (WR_0 w1).1
  have h59 := (WR_0 w1).2
  have hLN := LawNow_of hRW w2
  have hBN := BarN_of hRW w2
  have hE : CE G I P 65 ρ (nfo ρ ll) (cfo ρ ll) := ⟨hCC, hRW, LWn_of (c := 65) hRW hLw⟩
  have hN := TN_of hTN
  have h0 := RW_n0 hRW
  have h1 := RW_n1 hRW
  have h2 := RW_n2 hRW
  have h3 := RW_n3 hRW
  have h8 := RW_sm hRW
  have hrk : ∀ k, RKk k → 0 ≤ I 173 k ∧ I 173 k ≤ 1000000 := fun k hk => by have := w5 k hk; rw [hRf k hk]; omega
  have hrm : ∀ {J : Nat → Nat → Int}, MI ρ lg ll tn tb fa wr st sp rf ik0 ir0 il0 ik1 ir1 il1 dk dr J → ∀ k, RKk k → 0 ≤ J 209 k ∧ J 209 k ≤ 1000000 := fun hJ k hk => by have := w5 k hk; rw [hJ.2.2.2.2.1 k hk]; omega
  have hme : ∀ {J : Nat → Nat → Int}, MI ρ lg ll tn tb fa wr st sp rf ik0 ir0 il0 ik1 ir1 il1 dk dr J → ME J ρ (nfo ρ ll) (cfo ρ ll) := fun hJ => ⟨hJ.1.1, hRW, hLN, hJ.1.2.2⟩
  have hzz : ∀ {J : Nat → Nat → Int}, MI ρ lg ll tn tb fa wr st sp rf ik0 ir0 il0 ik1 ir1 il1 dk dr J → (am_u2 J 208 0 0) 210 = ρ := fun hJ => (u2_qf (by decide)).trans hJ.1.1
  have hp8 : ∀ {J : Nat → Nat → Int}, MI ρ lg ll tn tb fa wr st sp rf ik0 ir0 il0 ik1 ir1 il1 dk dr J → J 210 8 = (((ρ 8).toNat : Nat) : Int) := fun hJ => by rw [hJ.1.1]; exact (Int.toNat_of_nonneg h8.1).symm
  exact SP_ro (x := ((m_needed ρ (ρ 8).toNat : Nat) : Int)) hW hC hM (k_neededc (d := 96) hS hE) hS (fun _ _ _ => rfl) (fun _ _ _ _ => rfl) (fun _ _ _ => rfl) (fun hM1 => ⟨_, by have e := m_needed_c (d := 97) (G := G) (I := I) (P := P) hS (hp8 hM1) (by omega); rw [hzz hM1] at e; exact e, fmz, frz⟩)
theorem am_it_eq2 {σ : Type} {f g : Nat → σ → σ} {N : Nat} {s0 : σ} (h : ∀ i s, i < N → f i s = g i s) : am_it f N 0 s0 = am_it g N 0 s0 := by
  have key : ∀ k, k ≤ N → am_it f k 0 s0 = am_it g k 0 s0 := by
    intro k
    induction k with
    | zero => intro _; rfl
    | succ k ih =>
      intro hk
      rw [am_it_succ, am_it_succ, ih (by omega), h _ _ (by omega)]
  exact key N (Nat.le_refl _)
theorem P_few {L : Nat} {xs : Nat → Int32} {c : Nat} {G : am_G} {I : Nat → Nat → Int} {P : Nat → Nat → Option Nat} (hR : REL L xs c G I P) (hc : c ≤ 600) {a b : Int}  : SP L xs c G I P (fun x => Sum.inr (Sum.inl x)) 143 273 [.inl a, .inl b] := by
  obtain ⟨ρ, lg, ll, tn, tb, fa, wr, st, sp, rf, ik0, ir0, il0, ik1, ir1, il1, dk, dr, hW, hC, hM⟩ := hR
  obtain ⟨w1, w2, w3, w4, w5, w6, w7, w8⟩ := id hW
  obtain ⟨hS, hK, ⟨hCC, hLg, hLw, hTN⟩, ⟨t1, t2⟩, ⟨s1, s2, s3, s4⟩, hRf, hI0, hI1, ⟨hDr, hLO⟩, hG, hX⟩ := id hC
  have hRW := (WR_0 w1).1
  have h59 := (WR_0 w1).2
  have hLN := LawNow_of hRW w2
  have hBN := BarN_of hRW w2
  have hE : CE G I P 65 ρ (nfo ρ ll) (cfo ρ ll) := ⟨hCC, hRW, LWn_of (c := 65) hRW hLw⟩
  have hN := TN_of hTN
  have h0 := RW_n0 hRW
  have h1 := RW_n1 hRW
  have h2 := RW_n2 hRW
  have h3 := RW_n3 hRW
  have h8 := RW_sm hRW
  have hrk : ∀ k, RKk k → 0 ≤ I 173 k ∧ I 173 k ≤ 1000000 := fun k hk => by have := w5 k hk; rw [hRf k hk]; omega
  have hrm : ∀ {J : Nat → Nat → Int}, MI ρ lg ll tn tb fa wr st sp rf ik0 ir0 il0 ik1 ir1 il1 dk dr J → ∀ k, RKk k → 0 ≤ J 209 k ∧ J 209 k ≤ 1000000 := fun hJ k hk => by have := w5 k hk; rw [hJ.2.2.2.2.1 k hk]; omega
  have hme : ∀ {J : Nat → Nat → Int}, MI ρ lg ll tn tb fa wr st sp rf ik0 ir0 il0 ik1 ir1 il1 dk dr J → ME J ρ (nfo ρ ll) (cfo ρ ll) := fun hJ => ⟨hJ.1.1, hRW, hLN, hJ.1.2.2⟩
  have hzz : ∀ {J : Nat → Nat → Int}, MI ρ lg ll tn tb fa wr st sp rf ik0 ir0 il0 ik1 ir1 il1 dk dr J → (am_u2 J 208 0 0) 210 = ρ := fun hJ => (u2_qf (by decide)).trans hJ.1.1
  by_cases hb : (1 ≤ a ∧ a ≤ 20) ∧ (0 ≤ b ∧ b ≤ 99)
  · skip
    obtain ⟨kn, rfl⟩ : ∃ kn : Nat, a = (kn : Int) := ⟨a.toNat, by omega⟩
    obtain ⟨nn, rfl⟩ : ∃ nn : Nat, b = (nn : Int) := ⟨b.toNat, by omega⟩
    have hfd := RW_fa hRW
    have es : am_it (fun i v => v + (kfew (ρ 6) kn nn (I 172)) i) kn 0 0 = am_it (fun i v => v + (m_few (ρ 6) kn nn ((am_u2 (am_u1 I 172 (kfew (ρ 6) kn nn (I 172))) 208 0 0) 236)) i) kn 0 0 := am_it_eq2 (fun i v hi => by show v + _ = v + _; rw [few_eq (by omega) i hi])
    have eK := k_fewc (d := 98) (G := G) (P := P) (I := I) (k := kn) (n := nn) hS (by omega) (by omega) (show I 80 1 = ρ 6 from CC_te hCC 1 (by decide)) hfd
    exact SP_ro (x := _) hW hC hM (eK) hS (fun q k h => u1_qk (by unfold CK at h; omega)) (fun q k a b => u1_qk (by omega)) (fun _ _ _ => rfl) (fun hM1 => by have e := m_few_c (d := 98) (G := G) (P := P) (I := am_u1 I 172 (kfew (ρ 6) kn nn (I 172))) (k := kn) (n := nn) hS (by omega) (by omega) (congrFun hM1.1.1 6) hfd; rw [← es] at e; exact ⟨_, e, fun q k h => (u1_qk (by unfold MK2 at h; omega)).trans (u2_o (by unfold MK2 at h; omega)), fun q k h => (u1_qk (by omega)).trans (u2_o (by omega))⟩)
  · exact SP_ro (x := -1) hW hC hM (k_few_b (d := 98) hb) hS (fun _ _ _ => rfl) (fun _ _ _ _ => rfl) (fun _ _ _ => rfl) (fun hM1 => ⟨_, m_few_b (d := 98) hS hb, fmz, frz⟩)
theorem P_compare {L : Nat} {xs : Nat → Int32} {c : Nat} {G : am_G} {I : Nat → Nat → Int} {P : Nat → Nat → Option Nat} (hR : REL L xs c G I P) (hc : c ≤ 600) {a : Int}  : SP L xs c G I P Sum.inl 144 258 [.inl a] := by
  obtain ⟨ρ, lg, ll, tn, tb, fa, wr, st, sp, rf, ik0, ir0, il0, ik1, ir1, il1, dk, dr, hW, hC, hM⟩ := hR
  obtain ⟨w1, w2, w3, w4, w5, w6, w7, w8⟩ := id hW
  obtain ⟨hS, hK, ⟨hCC, hLg, hLw, hTN⟩, ⟨t1, t2⟩, ⟨s1, s2, s3, s4⟩, hRf, hI0, hI1, ⟨hDr, hLO⟩, hG, hX⟩ := id hC
  have hRW := (WR_0 w1).1
  have h59 := (WR_0 w1).2
  have hLN := LawNow_of hRW w2
  have hBN := BarN_of hRW w2
  have hE : CE G I P 65 ρ (nfo ρ ll) (cfo ρ ll) := ⟨hCC, hRW, LWn_of (c := 65) hRW hLw⟩
  have hN := TN_of hTN
  have h0 := RW_n0 hRW
  have h1 := RW_n1 hRW
  have h2 := RW_n2 hRW
  have h3 := RW_n3 hRW
  have h8 := RW_sm hRW
  have hrk : ∀ k, RKk k → 0 ≤ I 173 k ∧ I 173 k ≤ 1000000 := fun k hk => by have := w5 k hk; rw [hRf k hk]; omega
  have hrm : ∀ {J : Nat → Nat → Int}, MI ρ lg ll tn tb fa wr st sp rf ik0 ir0 il0 ik1 ir1 il1 dk dr J → ∀ k, RKk k → 0 ≤ J 209 k ∧ J 209 k ≤ 1000000 := fun hJ k hk => by have := w5 k hk; rw [hJ.2.2.2.2.1 k hk]; omega
  have hme : ∀ {J : Nat → Nat → Int}, MI ρ lg ll tn tb fa wr st sp rf ik0 ir0 il0 ik1 ir1 il1 dk dr J → ME J ρ (nfo ρ ll) (cfo ρ ll) := fun hJ => ⟨hJ.1.1, hRW, hLN, hJ.1.2.2⟩
  have hzz : ∀ {J : Nat → Nat → Int}, MI ρ lg ll tn tb fa wr st sp rf ik0 ir0 il0 ik1 ir1 il1 dk dr J → (am_u2 J 208 0 0) 210 = ρ := fun hJ => (u2_qf (by decide)).trans hJ.1.1
  by_cases hb : a = -1 ∨ (0 ≤ a ∧ a < ρ 3)
  · have hRf2 : RW (am_u1 ρ 4 a) := RWs_fo hRW (by omega)
    have e3 : am_u1 ρ 4 a 3 = ρ 3 := rfl
    have hL2 := LawNow_of hRf2 (RLs_eq w2 e3 (fun j hj => by unfold am_u1; rw [if_neg (by omega)]))
    have hLw2 : LWS G I P (65 + 16) (am_u1 ρ 4 a) ll := LWS_eq hLw hRW e3 (fun _ _ _ => rfl) (fun _ _ _ => rfl) (fun _ _ => rfl)
    have hW2 := LWn_of (c := 65) hRf2 hLw2
    have hB2 := BarN_of hRf2 (RLs_eq w2 e3 (fun j hj => by unfold am_u1; rw [if_neg (by omega)]))
    obtain ⟨N, hNN⟩ : ∃ N : Nat, am_u1 ρ 4 a 0 = (N : Int) := ⟨(ρ 0).toNat, by show ρ 0 = _; omega⟩
    obtain ⟨I1, P1, eK, hS1, fK, pK⟩ := k_compare (d := 92) hS hE hN h59 hb hW2 hB2 hNN
    exact SP_ro (x := BS (gn (am_u1 ρ 4 a) (nfo (am_u1 ρ 4 a) ll) (cfo (am_u1 ρ 4 a) ll)) N N 0) hW hC hM (eK) hS1 (fun q k h => fK q k (by unfold CK at h; omega) (by unfold CK at h; omega) (by unfold CK at h; omega)) (fun q k a b => fK q k (by omega) (by omega) (by omega)) (fun q k h => pK.1 q k (by unfold PK at h; omega)) (fun hM1 => by obtain ⟨I2, eM, _, fM⟩ := m_compare (d := 89) hS1 (hme hM1) hb hL2 hNN; exact ⟨I2, eM, (fun q k h => fM q k (by unfold MK2 at h; omega) (by unfold MK2 at h; omega) (by unfold MK2 at h; omega) (by unfold MK2 at h; omega) (by unfold MK2 at h; omega) (by unfold MK2 at h; omega)), (fun q k h => fM q k (by omega) (by omega) (by omega) (by omega) (by omega) (by omega))⟩)
  · exact SP_ro (x := -1) hW hC hM (k_compare_b (d := 92) hS hE hb) hS (fun _ _ _ => rfl) (fun _ _ _ _ => rfl) (fun _ _ _ => rfl) (fun hM1 => ⟨_, m_compare_b (d := 89) hS (hme hM1) hb, fmz, frz⟩)
theorem P_drawn {L : Nat} {xs : Nat → Int32} {c : Nat} {G : am_G} {I : Nat → Nat → Int} {P : Nat → Nat → Option Nat} (hR : REL L xs c G I P) (hc : c ≤ 600) {a b : Int}  : SP L xs c G I P Sum.inl 146 284 [.inl a, .inl b] := by
  obtain ⟨ρ, lg, ll, tn, tb, fa, wr, st, sp, rf, ik0, ir0, il0, ik1, ir1, il1, dk, dr, hW, hC, hM⟩ := hR
  obtain ⟨w1, w2, w3, w4, w5, w6, w7, w8⟩ := id hW
  obtain ⟨hS, hK, ⟨hCC, hLg, hLw, hTN⟩, ⟨t1, t2⟩, ⟨s1, s2, s3, s4⟩, hRf, hI0, hI1, ⟨hDr, hLO⟩, hG, hX⟩ := id hC
  have hRW := (WR_0 w1).1
  have h59 := (WR_0 w1).2
  have hLN := LawNow_of hRW w2
  have hBN := BarN_of hRW w2
  have hE : CE G I P 65 ρ (nfo ρ ll) (cfo ρ ll) := ⟨hCC, hRW, LWn_of (c := 65) hRW hLw⟩
  have hN := TN_of hTN
  have h0 := RW_n0 hRW
  have h1 := RW_n1 hRW
  have h2 := RW_n2 hRW
  have h3 := RW_n3 hRW
  have h8 := RW_sm hRW
  have hrk : ∀ k, RKk k → 0 ≤ I 173 k ∧ I 173 k ≤ 1000000 := fun k hk => by have := w5 k hk; rw [hRf k hk]; omega
  have hrm : ∀ {J : Nat → Nat → Int}, MI ρ lg ll tn tb fa wr st sp rf ik0 ir0 il0 ik1 ir1 il1 dk dr J → ∀ k, RKk k → 0 ≤ J 209 k ∧ J 209 k ≤ 1000000 := fun hJ k hk => by have := w5 k hk; rw [hJ.2.2.2.2.1 k hk]; omega
  have hme : ∀ {J : Nat → Nat → Int}, MI ρ lg ll tn tb fa wr st sp rf ik0 ir0 il0 ik1 ir1 il1 dk dr J → ME J ρ (nfo ρ ll) (cfo ρ ll) := fun hJ => ⟨hJ.1.1, hRW, hLN, hJ.1.2.2⟩
  have hzz : ∀ {J : Nat → Nat → Int}, MI ρ lg ll tn tb fa wr st sp rf ik0 ir0 il0 ik1 ir1 il1 dk dr J → (am_u2 J 208 0 0) 210 = ρ := fun hJ => (u2_qf (by decide)).trans hJ.1.1
  obtain ⟨d0, d1, d2⟩ := id w8
  have hdm : ∀ {J : Nat → Nat → Int}, MI ρ lg ll tn tb fa wr st sp rf ik0 ir0 il0 ik1 ir1 il1 dk dr J → (-1 ≤ J 208 57 ∧ J 208 57 ≤ 6) ∧ (-1 ≤ J 208 58 ∧ J 208 58 ≤ 5) ∧ (∀ x : Int, (0 ≤ x ∧ x < J 208 57) ↔ (0 ≤ x ∧ x < dr 0)) ∧ (∀ x : Int, (0 ≤ x ∧ x < J 208 58) ↔ (0 ≤ x ∧ x < dr 1)) ∧ (∀ j, (0 < dr 0 ∨ 0 < dr 1) → j < 25 → J 239 j = dr (5 + j)) := by
    intro J hJ
    rcases hJ.2.2.2.2.2.2.2 with ⟨e, q1, q2⟩ | ⟨e, q1, q2, q3⟩
    · have := d2 e
      exact ⟨by omega, by omega, fun x => by omega, fun x => by omega, fun j h => by omega⟩
    · exact ⟨by omega, by omega, fun x => by rw [q1], fun x => by rw [q2], fun j _ hj => q3 j hj⟩
  by_cases e0 : b = 0
  · subst e0
    by_cases hk : 0 ≤ a ∧ a < dr 0
    · obtain ⟨k, rfl⟩ : ∃ k : Nat, a = (k : Int) := ⟨a.toNat, by omega⟩
      exact SP_ro (x := dr (9 + k)) hW hC hM (k_drawn_0 (d := 98) hS hDr hk.2 (by omega)) hS (fun _ _ _ => rfl) (fun _ _ _ _ => rfl) (fun _ _ _ => rfl) (fun hM1 => ⟨_, by have q := hdm hM1; have e := m_drawn_0 (d := 98) (G := G) (I := I) (P := P) (k := k) hS q.1 q.2.1 ((q.2.2.1 (k : Int)).mpr hk).2; rw [q.2.2.2.2 _ (by omega) (by omega)] at e; rw [show 5 + (4 + k) = 9 + k by omega] at e; exact e, fmz, frz⟩)
    · exact SP_ro (x := -1) hW hC hM (k_drawn_0n (d := 98) hS hDr hk) hS (fun _ _ _ => rfl) (fun _ _ _ _ => rfl) (fun _ _ _ => rfl) (fun hM1 => ⟨_, by have q := hdm hM1; exact m_drawn_0n (d := 98) hS q.1 q.2.1 (fun z => hk ((q.2.2.1 a).mp z)), fmz, frz⟩)
  by_cases e1 : b = 1
  · subst e1
    by_cases hk : 0 ≤ a ∧ a < dr 1
    · obtain ⟨k, rfl⟩ : ∃ k : Nat, a = (k : Int) := ⟨a.toNat, by omega⟩
      exact SP_ro (x := dr (20 + k)) hW hC hM (k_drawn_1 (d := 98) hS hDr hk.2 (by omega)) hS (fun _ _ _ => rfl) (fun _ _ _ _ => rfl) (fun _ _ _ => rfl) (fun hM1 => ⟨_, by have q := hdm hM1; have e := m_drawn_1 (d := 98) (G := G) (I := I) (P := P) (k := k) hS q.1 q.2.1 ((q.2.2.2.1 (k : Int)).mpr hk).2; rw [q.2.2.2.2 _ (by omega) (by omega)] at e; rw [show 5 + (15 + k) = 20 + k by omega] at e; exact e, fmz, frz⟩)
    · exact SP_ro (x := -1) hW hC hM (k_drawn_n (d := 98) hS hDr hk (by decide)) hS (fun _ _ _ => rfl) (fun _ _ _ _ => rfl) (fun _ _ _ => rfl) (fun hM1 => ⟨_, by have q := hdm hM1; exact m_drawn_1n (d := 98) hS q.1 q.2.1 (fun z => hk ((q.2.2.2.1 a).mp z)), fmz, frz⟩)
  by_cases e2 : b = 2
  · subst e2
    by_cases hk : 0 ≤ a ∧ a < dr 1
    · obtain ⟨k, rfl⟩ : ∃ k : Nat, a = (k : Int) := ⟨a.toNat, by omega⟩
      exact SP_ro (x := dr (25 + k)) hW hC hM (k_drawn_2 (d := 98) hS hDr hk.2 (by omega)) hS (fun _ _ _ => rfl) (fun _ _ _ _ => rfl) (fun _ _ _ => rfl) (fun hM1 => ⟨_, by have q := hdm hM1; have e := m_drawn_2 (d := 98) (G := G) (I := I) (P := P) (k := k) hS q.1 q.2.1 ((q.2.2.2.1 (k : Int)).mpr hk).2; rw [q.2.2.2.2 _ (by omega) (by omega)] at e; rw [show 5 + (20 + k) = 25 + k by omega] at e; exact e, fmz, frz⟩)
    · exact SP_ro (x := -1) hW hC hM (k_drawn_n (d := 98) hS hDr hk (by decide)) hS (fun _ _ _ => rfl) (fun _ _ _ _ => rfl) (fun _ _ _ => rfl) (fun hM1 => ⟨_, by have q := hdm hM1; exact m_drawn_2n (d := 98) hS q.1 q.2.1 (fun z => hk ((q.2.2.2.1 a).mp z)), fmz, frz⟩)
  exact SP_ro (x := -1) hW hC hM (k_drawn_o (d := 98) hS hDr (by omega)) hS (fun _ _ _ => rfl) (fun _ _ _ _ => rfl) (fun _ _ _ => rfl) (fun hM1 => ⟨_, m_drawn_o (d := 98) hS (by omega), fmz, frz⟩)
theorem P_count {L : Nat} {xs : Nat → Int32} {c : Nat} {G : am_G} {I : Nat → Nat → Int} {P : Nat → Nat → Option Nat} (hR : REL L xs c G I P) (hc : c ≤ 600) {w : Int}  : SP L xs c G I P Sum.inl 149 285 [.inl w] := by
  obtain ⟨ρ, lg, ll, tn, tb, fa, wr, st, sp, rf, ik0, ir0, il0, ik1, ir1, il1, dk, dr, hW, hC, hM⟩ := hR
  obtain ⟨w1, w2, w3, w4, w5, w6, w7, w8⟩ := id hW
  obtain ⟨hS, hK, ⟨hCC, hLg, hLw, hTN⟩, ⟨t1, t2⟩, ⟨s1, s2, s3, s4⟩, hRf, hI0, hI1, ⟨hDr, hLO⟩, hG, hX⟩ := id hC
  have hRW := (WR_0 w1).1
  have h59 := (WR_0 w1).2
  have hLN := LawNow_of hRW w2
  have hBN := BarN_of hRW w2
  have hE : CE G I P 65 ρ (nfo ρ ll) (cfo ρ ll) := ⟨hCC, hRW, LWn_of (c := 65) hRW hLw⟩
  have hN := TN_of hTN
  have h0 := RW_n0 hRW
  have h1 := RW_n1 hRW
  have h2 := RW_n2 hRW
  have h3 := RW_n3 hRW
  have h8 := RW_sm hRW
  have hrk : ∀ k, RKk k → 0 ≤ I 173 k ∧ I 173 k ≤ 1000000 := fun k hk => by have := w5 k hk; rw [hRf k hk]; omega
  have hrm : ∀ {J : Nat → Nat → Int}, MI ρ lg ll tn tb fa wr st sp rf ik0 ir0 il0 ik1 ir1 il1 dk dr J → ∀ k, RKk k → 0 ≤ J 209 k ∧ J 209 k ≤ 1000000 := fun hJ k hk => by have := w5 k hk; rw [hJ.2.2.2.2.1 k hk]; omega
  have hme : ∀ {J : Nat → Nat → Int}, MI ρ lg ll tn tb fa wr st sp rf ik0 ir0 il0 ik1 ir1 il1 dk dr J → ME J ρ (nfo ρ ll) (cfo ρ ll) := fun hJ => ⟨hJ.1.1, hRW, hLN, hJ.1.2.2⟩
  have hzz : ∀ {J : Nat → Nat → Int}, MI ρ lg ll tn tb fa wr st sp rf ik0 ir0 il0 ik1 ir1 il1 dk dr J → (am_u2 J 208 0 0) 210 = ρ := fun hJ => (u2_qf (by decide)).trans hJ.1.1
  obtain ⟨F, hF⟩ : ∃ F : Nat, ρ 1 = (F : Int) := ⟨(ρ 1).toNat, by omega⟩
  by_cases e0 : w = 0
  · subst e0
    exact SP_ro (x := ρ 0) hW hC hM (k_count_0 (d := 98) hS hE) hS (fun _ _ _ => rfl) (fun _ _ _ _ => rfl) (fun _ _ _ => rfl) (fun hM1 => ⟨_, by have e := m_count_0 (d := 98) (G := G) (I := I) (P := P) hS; rw [hM1.1.1] at e; exact e, fmz, frz⟩)
  by_cases e1 : w = 1
  · subst e1
    exact SP_ro (x := ρ 1) hW hC hM (k_count_1 (d := 98) hS hE) hS (fun _ _ _ => rfl) (fun _ _ _ _ => rfl) (fun _ _ _ => rfl) (fun hM1 => ⟨_, by have e := m_count_1 (d := 98) (G := G) (I := I) (P := P) hS; rw [hM1.1.1] at e; exact e, fmz, frz⟩)
  by_cases e2 : w = 2
  · subst e2
    exact SP_ro (x := ρ 8) hW hC hM (k_count_2 (d := 98) hS hE) hS (fun _ _ _ => rfl) (fun _ _ _ _ => rfl) (fun _ _ _ => rfl) (fun hM1 => ⟨_, by have e := m_count_2 (d := 98) (G := G) (I := I) (P := P) hS; rw [hM1.1.1] at e; exact e, fmz, frz⟩)
  by_cases e3 : w = 3
  · subst e3
    exact SP_ro (x := m_sum ρ 25 F) hW hC hM (k_count_3 (d := 98) hS hE hF) hS (fun _ _ _ => rfl) (fun _ _ _ _ => rfl) (fun _ _ _ => rfl) (fun hM1 => ⟨_, by have e := m_count_3 (d := 98) (G := G) (I := I) (P := P) (F := F) hS (by rw [hzz hM1]; exact hF) (by omega) (fun i hi => by rw [hzz hM1]; exact RW_kn hRW i (by omega)); rw [hzz hM1] at e; exact e, fmz, frz⟩)
  by_cases e4 : w = 4
  · subst e4
    exact SP_ro (x := m_sum ρ 20 F) hW hC hM (k_count_4 (d := 98) hS hE hF) hS (fun _ _ _ => rfl) (fun _ _ _ _ => rfl) (fun _ _ _ => rfl) (fun hM1 => ⟨_, by have e := m_count_4 (d := 98) (G := G) (I := I) (P := P) (F := F) hS (by rw [hzz hM1]; exact hF) (by omega) (fun i hi => by rw [hzz hM1]; exact RW_we hRW i (by omega)); rw [hzz hM1] at e; exact e, fmz, frz⟩)
  by_cases e5 : w = 5
  · subst e5
    exact SP_ro (x := ρ 2) hW hC hM (k_count_5 (d := 98) hS hE) hS (fun _ _ _ => rfl) (fun _ _ _ _ => rfl) (fun _ _ _ => rfl) (fun hM1 => ⟨_, by have e := m_count_5 (d := 98) (G := G) (I := I) (P := P) hS; rw [hM1.1.1] at e; exact e, fmz, frz⟩)
  by_cases e6 : w = 6
  · subst e6
    exact SP_ro (x := ρ 3) hW hC hM (k_count_6 (d := 98) hS hE) hS (fun _ _ _ => rfl) (fun _ _ _ _ => rfl) (fun _ _ _ => rfl) (fun hM1 => ⟨_, by have e := m_count_6 (d := 98) (G := G) (I := I) (P := P) hS; rw [hM1.1.1] at e; exact e, fmz, frz⟩)
  by_cases e7 : w = 7
  · subst e7
    have eK := k_count_7 (d := 98) (G := G) (I := I) (P := P) hS
    rw [hLg.2.1] at eK
    exact SP_ro (x := (lg.length : Int)) hW hC hM (eK) hS (fun _ _ _ => rfl) (fun _ _ _ _ => rfl) (fun _ _ _ => rfl) (fun hM1 => ⟨_, by have e := m_count_7 (d := 98) (G := G) (I := I) (P := P) hS; rw [hM1.1.2.1.2.1] at e; exact e, fmz, frz⟩)
  by_cases e8 : w = 8
  · subst e8
    have eK := k_count_8 (d := 98) (G := G) (I := I) (P := P) hS
    rw [t1] at eK
    exact SP_ro (x := (tn : Int)) hW hC hM (eK) hS (fun _ _ _ => rfl) (fun _ _ _ _ => rfl) (fun _ _ _ => rfl) (fun hM1 => ⟨_, by have e := m_count_8 (d := 98) (G := G) (I := I) (P := P) hS; rw [hM1.2.2.1.1] at e; exact e, fmz, frz⟩)
  by_cases e9 : w = 9
  · subst e9
    have eK := k_count_9 (d := 98) (G := G) (I := I) (P := P) hS hK.2.2
    rw [hRf 1 (by unfold RKk; omega)] at eK
    exact SP_ro (x := rf 1) hW hC hM (eK) hS (fun _ _ _ => rfl) (fun _ _ _ _ => rfl) (fun _ _ _ => rfl) (fun hM1 => ⟨_, by have e := m_count_9 (d := 98) (G := G) (I := I) (P := P) hS; rw [hM1.2.2.2.2.1 1 (by unfold RKk; omega)] at e; exact e, fmz, frz⟩)
  by_cases e10 : w = 10
  · subst e10
    have eK := k_count_10 (d := 98) (G := G) (I := I) (P := P) hS hK.2.2
    rw [hRf 2 (by unfold RKk; omega)] at eK
    exact SP_ro (x := rf 2) hW hC hM (eK) hS (fun _ _ _ => rfl) (fun _ _ _ _ => rfl) (fun _ _ _ => rfl) (fun hM1 => ⟨_, by have e := m_count_10 (d := 98) (G := G) (I := I) (P := P) hS; rw [hM1.2.2.2.2.1 2 (by unfold RKk; omega)] at e; exact e, fmz, frz⟩)
  by_cases e11 : w = 11
  · subst e11
    have eK := k_count_11 (d := 98) (G := G) (I := I) (P := P) hS hK.2.2
    rw [hRf 3 (by unfold RKk; omega)] at eK
    exact SP_ro (x := rf 3) hW hC hM (eK) hS (fun _ _ _ => rfl) (fun _ _ _ _ => rfl) (fun _ _ _ => rfl) (fun hM1 => ⟨_, by have e := m_count_11 (d := 98) (G := G) (I := I) (P := P) hS; rw [hM1.2.2.2.2.1 3 (by unfold RKk; omega)] at e; exact e, fmz, frz⟩)
  by_cases e12 : w = 12
  · subst e12
    have eK := k_count_12 (d := 98) (G := G) (I := I) (P := P) hS hK.2.2
    rw [hRf 5 (by unfold RKk; omega)] at eK
    exact SP_ro (x := rf 5) hW hC hM (eK) hS (fun _ _ _ => rfl) (fun _ _ _ _ => rfl) (fun _ _ _ => rfl) (fun hM1 => ⟨_, by have e := m_count_12 (d := 98) (G := G) (I := I) (P := P) hS; rw [hM1.2.2.2.2.1 5 (by unfold RKk; omega)] at e; exact e, fmz, frz⟩)
  by_cases e13 : w = 13
  · subst e13
    have eK := k_count_13 (d := 98) (G := G) (I := I) (P := P) hS hK.2.2
    rw [hRf 6 (by unfold RKk; omega)] at eK
    exact SP_ro (x := rf 6) hW hC hM (eK) hS (fun _ _ _ => rfl) (fun _ _ _ _ => rfl) (fun _ _ _ => rfl) (fun hM1 => ⟨_, by have e := m_count_13 (d := 98) (G := G) (I := I) (P := P) hS; rw [hM1.2.2.2.2.1 6 (by unfold RKk; omega)] at e; exact e, fmz, frz⟩)
  by_cases e14 : w = 14
  · subst e14
    exact SP_ro (x := ρ 4) hW hC hM (k_count_14 (d := 98) hS hE) hS (fun _ _ _ => rfl) (fun _ _ _ _ => rfl) (fun _ _ _ => rfl) (fun hM1 => ⟨_, by have e := m_count_14 (d := 98) (G := G) (I := I) (P := P) hS; rw [hM1.1.1] at e; exact e, fmz, frz⟩)
  by_cases e15 : w = 15
  · subst e15
    exact SP_ro (x := ρ 5) hW hC hM (k_count_15 (d := 98) hS hE) hS (fun _ _ _ => rfl) (fun _ _ _ _ => rfl) (fun _ _ _ => rfl) (fun hM1 => ⟨_, by have e := m_count_15 (d := 98) (G := G) (I := I) (P := P) hS; rw [hM1.1.1] at e; exact e, fmz, frz⟩)
  by_cases e16 : w = 16
  · subst e16
    exact SP_ro (x := ρ 6) hW hC hM (k_count_16 (d := 98) hS hE) hS (fun _ _ _ => rfl) (fun _ _ _ _ => rfl) (fun _ _ _ => rfl) (fun hM1 => ⟨_, by have e := m_count_16 (d := 98) (G := G) (I := I) (P := P) hS; rw [hM1.1.1] at e; exact e, fmz, frz⟩)
  by_cases e17 : w = 17
  · subst e17
    exact SP_ro (x := ρ 7) hW hC hM (k_count_17 (d := 98) hS hE) hS (fun _ _ _ => rfl) (fun _ _ _ _ => rfl) (fun _ _ _ => rfl) (fun hM1 => ⟨_, by have e := m_count_17 (d := 98) (G := G) (I := I) (P := P) hS; rw [hM1.1.1] at e; exact e, fmz, frz⟩)
  exact SP_ro (x := -1) hW hC hM (k_count_o (d := 98) hS (by omega)) hS (fun _ _ _ => rfl) (fun _ _ _ _ => rfl) (fun _ _ _ => rfl) (fun hM1 => ⟨_, m_count_o (d := 98) hS (by omega), fmz, frz⟩)
