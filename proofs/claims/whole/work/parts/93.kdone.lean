/-! ===== the class: its face, what is done ===== -/
/-- a refusal of the class -/
def RFk (k : Nat) (I J : Nat → Nat → Int) : Prop := J 64 16 = -(k : Int) ∧ J 173 k = I 173 k + 1 ∧ (∀ q j, ¬ q = 89 → ¬ q = 90 → ¬ (q = 64 ∧ j = 16) → ¬ (q = 173 ∧ j = k) → J q j = I q j)
theorem RFk_LF {I J : Nat → Nat → Int} {k : Nat} {x : Int} (h : LF I J) (hx : I 173 k = x) : RFk k I (am_u2 (am_u2 J 173 k (x + 1)) 64 16 (-(k : Int))) := by
  refine ⟨u2_e, (u2_q (by decide)).trans (u2_e.trans (by rw [hx])), fun q j a b c d => ?_⟩
  rw [u2_o c, u2_o d, h q j a b]
/-- a deed of the class -/
def DNk (G : am_G) (P : Nat → Nat → Option Nat) (I J : Nat → Nat → Int) (ρ' : Nat → Int) (n : Nat) (cl : Nat → Cl) (nx u : Nat) (dd w b : Int) : Prop := CE G J P 65 ρ' n cl ∧ LGk I J 84 nx u dd w b ∧ J 64 16 = 0 ∧ (∀ q k, ¬ (84 ≤ q ∧ q ≤ 87) → ¬ q = 89 → ¬ q = 90 → ¬ (65 ≤ q ∧ q ≤ 80) → ¬ (q = 64 ∧ k = 16) → J q k = I q k)
theorem DNk_w {G : am_G} {P : Nat → Nat → Option Nat} {I J : Nat → Nat → Int} {ρ' : Nat → Int} {n : Nat} {cl : Nat → Cl} {nx u : Nat} {dd w b : Int} (h1 : CE G J P 65 ρ' n cl) (h2 : LGk I J 84 nx u dd w b) (h3 : DFK I J 65 84) : DNk G P I (am_u2 J 64 16 0) ρ' n cl nx u dd w b := by
  refine ⟨CE_set h1 (CC_w65 h1.1 (by omega)) h1.2.1 rfl (fun q k h => u2_q (by omega)), ⟨fun j => (u2_q (by decide)).trans (h2.1 j), fun j => (u2_q (by decide)).trans (h2.2.1 j), fun j => (u2_q (by decide)).trans (h2.2.2.1 j), (u2_q (by decide)).trans h2.2.2.2.1, (u2_q (by decide)).trans h2.2.2.2.2⟩, u2_e, fun q k a b c d e => ?_⟩
  rw [u2_o e, h3 q k a b c d]
theorem k_ringc_n {d : Nat} {G : am_G} {I : Nat → Nat → Int} {P : Nat → Nat → Option Nat} (hS : ST G P) {ρ : Nat → Int} {n : Nat} {cl : Nat → Cl} (hE : CE G I P 65 ρ n cl) {c1 f : Int} (hb : ¬ ((0 ≤ c1 ∧ c1 < ρ 0) ∧ (0 ≤ f ∧ f < ρ 1))) (hR : 0 ≤ I 173 2 ∧ I 173 2 ≤ 1000000) : ∃ I1, am_call am_B am_M (d + 6) 124 [(.inr (.inr (some 64))), (.inl c1), (.inl f)] (G, I, P) = some (some (.inl (-2)), (G, I1, P)) ∧ (RFk 2 I I1) := by
  have w : am_ex (am_call am_B am_M (d + 5)) (am_B 124) (am_B 124 0) [some (.inr (.inr (some 64))), some (.inl c1), some (.inl f)] [] (G, I, P) (fun o => ∃ I1, o = (some (.inl (-2)), (G, I1, P)) ∧ (RFk 2 I I1)) := by
    refine (ex_6_0 (ex_6_0 (ix_41r (sh_64 hS) (pt_64_5 hS) (ex_4_1 (ex_4_2 (ix_46 (S' := [(.inl (-2)), (.inr (.inr (some 64)))]) rfl (sh_91 hS) (k_ring_n_n hS hE hb) rfl rfl (ix_46 (S' := [(.inl (-2))]) rfl (sh_64 hS) (k_settle_n hS (k := 2) (x := I 173 2) (by decide) (by decide) rfl hR) rfl rfl ?_)))))))
    exact ex_53 ⟨_, rfl, RFk_LF LF_refl rfl⟩
  obtain ⟨o, e, I1, rfl, h⟩ := am_doQ (as := [(.inr (.inr (some 64))), (.inl c1), (.inl f)]) (Nat.le_of_ble_eq_true rfl) rfl w
  exact ⟨I1, e, h⟩
theorem k_ringc_c {d : Nat} {G : am_G} {I : Nat → Nat → Int} {P : Nat → Nat → Option Nat} (hS : ST G P) {ρ : Nat → Int} {n : Nat} {cl : Nat → Cl} (hE : CE G I P 65 ρ n cl) {c1 f : Nat} (hc1 : (c1 : Int) < ρ 0) (hf1 : (f : Int) < ρ 1) (hBN : BarN n cl) (hcan : ¬ m_can ρ n cl c1 f) (hR : 0 ≤ I 173 3 ∧ I 173 3 ≤ 1000000) : ∃ I1, am_call am_B am_M (d + 6) 124 [(.inr (.inr (some 64))), (.inl (c1 : Int)), (.inl (f : Int))] (G, I, P) = some (some (.inl (-3)), (G, I1, P)) ∧ (RFk 3 I I1) := by
  have w : am_ex (am_call am_B am_M (d + 5)) (am_B 124) (am_B 124 0) [some (.inr (.inr (some 64))), some (.inl (c1 : Int)), some (.inl (f : Int))] [] (G, I, P) (fun o => ∃ I1, o = (some (.inl (-3)), (G, I1, P)) ∧ (RFk 3 I I1)) := by
    refine (ex_6_0 (ex_6_0 (ix_41r (sh_64 hS) (pt_64_5 hS) (ex_4_1 (ex_4_2 ?_)))))
    obtain ⟨K, eK, fK⟩ := k_ring_n_c (d := d) hS hE hc1 hf1 hBN hcan
    refine (ix_46 (S' := [(.inl (-3)), (.inr (.inr (some 64)))]) rfl (sh_91 hS) eK rfl rfl (ix_46 (S' := [(.inl (-3))]) rfl (sh_64 hS) (k_settle_n hS (k := 3) (x := I 173 3) (by decide) (by decide) (fK _ _ (by decide) (by decide)) hR) rfl rfl ?_))
    exact ex_53 ⟨_, rfl, RFk_LF fK rfl⟩
  obtain ⟨o, e, I1, rfl, h⟩ := am_doQ (as := [(.inr (.inr (some 64))), (.inl (c1 : Int)), (.inl (f : Int))]) (Nat.le_of_ble_eq_true rfl) rfl w
  exact ⟨I1, e, h⟩
theorem k_ringc_0 {d : Nat} {G : am_G} {I : Nat → Nat → Int} {P : Nat → Nat → Option Nat} (hS : ST G P) {ρ : Nat → Int} {n : Nat} {cl : Nat → Cl} (hE : CE G I P 65 ρ n cl) {c1 f : Nat} (hc1 : (c1 : Int) < ρ 0) (hf1 : (f : Int) < ρ 1) (hBN : BarN n cl) (hcan : m_can ρ n cl c1 f) (he : ρ (15 + f) = 0) {nx u : Nat} (hnx : I 84 3 = (nx : Int)) (hn16 : nx < 16) (hu : I 84 4 = (u : Int)) (hu16 : u ≤ 16) : ∃ I1, am_call am_B am_M (d + 6) 124 [(.inr (.inr (some 64))), (.inl (c1 : Int)), (.inl (f : Int))] (G, I, P) = some (some (.inl (m_told ρ n cl c1 f)), (G, I1, P)) ∧ (DNk G P I I1 (am_u1 ρ (25 + f) (m_within (ρ (25 + f) + (m_told ρ n cl c1 f)) 0 999)) n cl nx u 0 (f : Int) (ρ (25 + f))) := by
  have hvp := (m_told_b (ρ := ρ) (n := n) (cl := cl) (c := c1) (f := f)).1
  have w : am_ex (am_call am_B am_M (d + 5)) (am_B 124) (am_B 124 0) [some (.inr (.inr (some 64))), some (.inl (c1 : Int)), some (.inl (f : Int))] [] (G, I, P) (fun o => ∃ I1, o = (some (.inl (m_told ρ n cl c1 f)), (G, I1, P)) ∧ (DNk G P I I1 (am_u1 ρ (25 + f) (m_within (ρ (25 + f) + (m_told ρ n cl c1 f)) 0 999)) n cl nx u 0 (f : Int) (ρ (25 + f)))) := by
    refine (ex_6_0 (ex_6_0 (ix_41r (sh_64 hS) (pt_64_5 hS) (ex_4_1 (ex_4_2 ?_)))))
    obtain ⟨K, eK, hEK, hLK, hDK⟩ := k_ring_n_0 (d := d) hS hE hc1 hf1 hBN hcan he hnx hn16 hu hu16
    refine (ix_46 (S' := [(.inl (m_told ρ n cl c1 f)), (.inr (.inr (some 64)))]) rfl (sh_91 hS) eK rfl rfl (ix_46 (S' := [(.inl (m_told ρ n cl c1 f))]) rfl (sh_64 hS) (k_settle_p hS hvp) rfl rfl ?_))
    exact ex_53 ⟨_, rfl, DNk_w hEK hLK hDK⟩
  obtain ⟨o, e, I1, rfl, h⟩ := am_doQ (as := [(.inr (.inr (some 64))), (.inl (c1 : Int)), (.inl (f : Int))]) (Nat.le_of_ble_eq_true rfl) rfl w
  exact ⟨I1, e, h⟩
theorem k_ringc_1 {d : Nat} {G : am_G} {I : Nat → Nat → Int} {P : Nat → Nat → Option Nat} (hS : ST G P) {ρ : Nat → Int} {n : Nat} {cl : Nat → Cl} (hE : CE G I P 65 ρ n cl) {c1 f : Nat} (hc1 : (c1 : Int) < ρ 0) (hf1 : (f : Int) < ρ 1) (hBN : BarN n cl) (hcan : m_can ρ n cl c1 f) (he : ρ (15 + f) = 1) {nx u : Nat} (hnx : I 84 3 = (nx : Int)) (hn16 : nx < 16) (hu : I 84 4 = (u : Int)) (hu16 : u ≤ 16) : ∃ I1, am_call am_B am_M (d + 6) 124 [(.inr (.inr (some 64))), (.inl (c1 : Int)), (.inl (f : Int))] (G, I, P) = some (some (.inl (m_soak ρ n cl c1 f)), (G, I1, P)) ∧ (DNk G P I I1 (am_u1 ρ (20 + f) (m_within (ρ (20 + f) + (m_soak ρ n cl c1 f)) 0 999)) n cl nx u 0 ((f : Int) + 5) (ρ (20 + f))) := by
  have hvp := (m_soak_b (ρ := ρ) (n := n) (cl := cl) (c := c1) (f := f)).1
  have w : am_ex (am_call am_B am_M (d + 5)) (am_B 124) (am_B 124 0) [some (.inr (.inr (some 64))), some (.inl (c1 : Int)), some (.inl (f : Int))] [] (G, I, P) (fun o => ∃ I1, o = (some (.inl (m_soak ρ n cl c1 f)), (G, I1, P)) ∧ (DNk G P I I1 (am_u1 ρ (20 + f) (m_within (ρ (20 + f) + (m_soak ρ n cl c1 f)) 0 999)) n cl nx u 0 ((f : Int) + 5) (ρ (20 + f)))) := by
    refine (ex_6_0 (ex_6_0 (ix_41r (sh_64 hS) (pt_64_5 hS) (ex_4_1 (ex_4_2 ?_)))))
    obtain ⟨K, eK, hEK, hLK, hDK⟩ := k_ring_n_1 (d := d) hS hE hc1 hf1 hBN hcan he hnx hn16 hu hu16
    refine (ix_46 (S' := [(.inl (m_soak ρ n cl c1 f)), (.inr (.inr (some 64)))]) rfl (sh_91 hS) eK rfl rfl (ix_46 (S' := [(.inl (m_soak ρ n cl c1 f))]) rfl (sh_64 hS) (k_settle_p hS hvp) rfl rfl ?_))
    exact ex_53 ⟨_, rfl, DNk_w hEK hLK hDK⟩
  obtain ⟨o, e, I1, rfl, h⟩ := am_doQ (as := [(.inr (.inr (some 64))), (.inl (c1 : Int)), (.inl (f : Int))]) (Nat.le_of_ble_eq_true rfl) rfl w
  exact ⟨I1, e, h⟩
theorem k_engagec_n {d : Nat} {G : am_G} {I : Nat → Nat → Int} {P : Nat → Nat → Option Nat} (hS : ST G P) {ρ : Nat → Int} {n : Nat} {cl : Nat → Cl} (hE : CE G I P 65 ρ n cl) {f : Int} (hb : ¬ (0 ≤ f ∧ f < ρ 1)) (hR : 0 ≤ I 173 2 ∧ I 173 2 ≤ 1000000) : ∃ I1, am_call am_B am_M (d + 6) 125 [(.inr (.inr (some 64))), (.inl f)] (G, I, P) = some (some (.inl (-2)), (G, I1, P)) ∧ (RFk 2 I I1) := by
  have w : am_ex (am_call am_B am_M (d + 5)) (am_B 125) (am_B 125 0) [some (.inr (.inr (some 64))), some (.inl f)] [] (G, I, P) (fun o => ∃ I1, o = (some (.inl (-2)), (G, I1, P)) ∧ (RFk 2 I I1)) := by
    refine (ex_6_0 (ex_6_0 (ix_41r (sh_64 hS) (pt_64_5 hS) (ex_4_1 (ix_46 (S' := [(.inl (-2)), (.inr (.inr (some 64)))]) rfl (sh_91 hS) (k_engage_n_n hS hE hb) rfl rfl (ix_46 (S' := [(.inl (-2))]) rfl (sh_64 hS) (k_settle_n hS (k := 2) (x := I 173 2) (by decide) (by decide) rfl hR) rfl rfl ?_))))))
    exact ex_53 ⟨_, rfl, RFk_LF LF_refl rfl⟩
  obtain ⟨o, e, I1, rfl, h⟩ := am_doQ (as := [(.inr (.inr (some 64))), (.inl f)]) (Nat.le_of_ble_eq_true rfl) rfl w
  exact ⟨I1, e, h⟩
theorem k_engagec {d : Nat} {G : am_G} {I : Nat → Nat → Int} {P : Nat → Nat → Option Nat} (hS : ST G P) {ρ : Nat → Int} {n : Nat} {cl : Nat → Cl} (hE : CE G I P 65 ρ n cl) {f : Nat} (hf1 : (f : Int) < ρ 1) {nx u : Nat} (hnx : I 84 3 = (nx : Int)) (hn16 : nx < 16) (hu : I 84 4 = (u : Int)) (hu16 : u ≤ 16) : ∃ I1, am_call am_B am_M (d + 6) 125 [(.inr (.inr (some 64))), (.inl (f : Int))] (G, I, P) = some (some (.inl (1 - ρ (15 + f))), (G, I1, P)) ∧ (DNk G P I I1 (am_u1 ρ (15 + f) (1 - ρ (15 + f))) n cl nx u 1 (f : Int) (ρ (15 + f))) := by
  have h0 := RW_n0 hE.2.1
  have h1 := RW_n1 hE.2.1
  have h3 := RW_n3 hE.2.1
  have h8 := RW_sm hE.2.1
  have hvp : 0 ≤ 1 - ρ (15 + f) := by have := RW_en hE.2.1 f (by omega); omega
  have w : am_ex (am_call am_B am_M (d + 5)) (am_B 125) (am_B 125 0) [some (.inr (.inr (some 64))), some (.inl (f : Int))] [] (G, I, P) (fun o => ∃ I1, o = (some (.inl (1 - ρ (15 + f))), (G, I1, P)) ∧ (DNk G P I I1 (am_u1 ρ (15 + f) (1 - ρ (15 + f))) n cl nx u 1 (f : Int) (ρ (15 + f)))) := by
    refine (ex_6_0 (ex_6_0 (ix_41r (sh_64 hS) (pt_64_5 hS) (ex_4_1 ?_))))
    obtain ⟨K, eK, hEK, hLK, hDK⟩ := k_engage_n (d := d + 3) hS hE hf1 hnx hn16 hu hu16
    refine (ix_46 (S' := [(.inl (1 - ρ (15 + f))), (.inr (.inr (some 64)))]) rfl (sh_91 hS) eK rfl rfl (ix_46 (S' := [(.inl (1 - ρ (15 + f)))]) rfl (sh_64 hS) (k_settle_p hS hvp) rfl rfl ?_))
    exact ex_53 ⟨_, rfl, DNk_w hEK hLK hDK⟩
  obtain ⟨o, e, I1, rfl, h⟩ := am_doQ (as := [(.inr (.inr (some 64))), (.inl (f : Int))]) (Nat.le_of_ble_eq_true rfl) rfl w
  exact ⟨I1, e, h⟩
theorem k_smashc_n {d : Nat} {G : am_G} {I : Nat → Nat → Int} {P : Nat → Nat → Option Nat} (hS : ST G P) {b : Int} (hb : ¬ (0 ≤ b ∧ b < 6)) (hR : 0 ≤ I 173 1 ∧ I 173 1 ≤ 1000000) : ∃ I1, am_call am_B am_M (d + 6) 126 [(.inr (.inr (some 64))), (.inl b)] (G, I, P) = some (some (.inl (-1)), (G, I1, P)) ∧ (RFk 1 I I1) := by
  have w : am_ex (am_call am_B am_M (d + 5)) (am_B 126) (am_B 126 0) [some (.inr (.inr (some 64))), some (.inl b)] [] (G, I, P) (fun o => ∃ I1, o = (some (.inl (-1)), (G, I1, P)) ∧ (RFk 1 I I1)) := by
    refine (ex_6_0 (ex_6_0 (ix_41r (sh_64 hS) (pt_64_5 hS) (ex_4_1 (ix_46 (S' := [(.inl (-1)), (.inr (.inr (some 64)))]) rfl (sh_91 hS) (k_smash_n_n hb) rfl rfl (ix_46 (S' := [(.inl (-1))]) rfl (sh_64 hS) (k_settle_n hS (k := 1) (x := I 173 1) (by decide) (by decide) rfl hR) rfl rfl ?_))))))
    exact ex_53 ⟨_, rfl, RFk_LF LF_refl rfl⟩
  obtain ⟨o, e, I1, rfl, h⟩ := am_doQ (as := [(.inr (.inr (some 64))), (.inl b)]) (Nat.le_of_ble_eq_true rfl) rfl w
  exact ⟨I1, e, h⟩
theorem k_smashc {d : Nat} {G : am_G} {I : Nat → Nat → Int} {P : Nat → Nat → Option Nat} (hS : ST G P) {ρ : Nat → Int} {n : Nat} {cl : Nat → Cl} (hE : CE G I P 65 ρ n cl) {b : Nat} (hb : b < 6) {nx u : Nat} (hnx : I 84 3 = (nx : Int)) (hn16 : nx < 16) (hu : I 84 4 = (u : Int)) (hu16 : u ≤ 16) : ∃ I1, am_call am_B am_M (d + 6) 126 [(.inr (.inr (some 64))), (.inl (b : Int))] (G, I, P) = some (some (.inl ((((ρ 8).toNat ^^^ 2 ^ b) >>> b &&& 1 : Nat) : Int)), (G, I1, P)) ∧ (DNk G P I I1 (am_u1 ρ 8 (((ρ 8).toNat ^^^ 2 ^ b : Nat) : Int)) n cl nx u 2 (b : Int) (ρ 8)) := by
  have hvp : 0 ≤ ((((ρ 8).toNat ^^^ 2 ^ b) >>> b &&& 1 : Nat) : Int) := Int.natCast_nonneg _
  have w : am_ex (am_call am_B am_M (d + 5)) (am_B 126) (am_B 126 0) [some (.inr (.inr (some 64))), some (.inl (b : Int))] [] (G, I, P) (fun o => ∃ I1, o = (some (.inl ((((ρ 8).toNat ^^^ 2 ^ b) >>> b &&& 1 : Nat) : Int)), (G, I1, P)) ∧ (DNk G P I I1 (am_u1 ρ 8 (((ρ 8).toNat ^^^ 2 ^ b : Nat) : Int)) n cl nx u 2 (b : Int) (ρ 8))) := by
    refine (ex_6_0 (ex_6_0 (ix_41r (sh_64 hS) (pt_64_5 hS) (ex_4_1 ?_))))
    obtain ⟨K, eK, hEK, hLK, hDK⟩ := k_smash_n (d := d + 2) hS hE hb hnx hn16 hu hu16
    refine (ix_46 (S' := [(.inl ((((ρ 8).toNat ^^^ 2 ^ b) >>> b &&& 1 : Nat) : Int)), (.inr (.inr (some 64)))]) rfl (sh_91 hS) eK rfl rfl (ix_46 (S' := [(.inl ((((ρ 8).toNat ^^^ 2 ^ b) >>> b &&& 1 : Nat) : Int))]) rfl (sh_64 hS) (k_settle_p hS hvp) rfl rfl ?_))
    exact ex_53 ⟨_, rfl, DNk_w hEK hLK hDK⟩
  obtain ⟨o, e, I1, rfl, h⟩ := am_doQ (as := [(.inr (.inr (some 64))), (.inl (b : Int))]) (Nat.le_of_ble_eq_true rfl) rfl w
  exact ⟨I1, e, h⟩
theorem k_passc_n {d : Nat} {G : am_G} {I : Nat → Nat → Int} {P : Nat → Nat → Option Nat} (hS : ST G P) {ρ : Nat → Int} {n : Nat} {cl : Nat → Cl} (hE : CE G I P 65 ρ n cl) (h9 : ¬ ρ 5 < 999) (ht1 : I 1 0 = 999) (hR : 0 ≤ I 173 3 ∧ I 173 3 ≤ 1000000) : ∃ I1, am_call am_B am_M (d + 6) 127 [(.inr (.inr (some 64)))] (G, I, P) = some (some (.inl (-3)), (G, I1, P)) ∧ (RFk 3 I I1) := by
  have w : am_ex (am_call am_B am_M (d + 5)) (am_B 127) (am_B 127 0) [some (.inr (.inr (some 64)))] [] (G, I, P) (fun o => ∃ I1, o = (some (.inl (-3)), (G, I1, P)) ∧ (RFk 3 I I1)) := by
    refine (ex_6_0 (ex_6_0 (ix_41r (sh_64 hS) (pt_64_5 hS) (ix_46 (S' := [(.inl (-3)), (.inr (.inr (some 64)))]) rfl (sh_91 hS) (k_night_n_n hS hE h9 ht1) rfl rfl (ix_46 (S' := [(.inl (-3))]) rfl (sh_64 hS) (k_settle_n hS (k := 3) (x := I 173 3) (by decide) (by decide) rfl hR) rfl rfl ?_)))))
    exact ex_53 ⟨_, rfl, RFk_LF LF_refl rfl⟩
  obtain ⟨o, e, I1, rfl, h⟩ := am_doQ (as := [(.inr (.inr (some 64)))]) (Nat.le_of_ble_eq_true rfl) rfl w
  exact ⟨I1, e, h⟩
theorem k_passc {d : Nat} {G : am_G} {I : Nat → Nat → Int} {P : Nat → Nat → Option Nat} (hS : ST G P) {ρ : Nat → Int} {n : Nat} {cl : Nat → Cl} (hE : CE G I P 65 ρ n cl) (h9 : ρ 5 < 999) (ht1 : I 1 0 = 999) {nx u : Nat} (hnx : I 84 3 = (nx : Int)) (hn16 : nx < 16) (hu : I 84 4 = (u : Int)) (hu16 : u ≤ 16) : ∃ I1, am_call am_B am_M (d + 6) 127 [(.inr (.inr (some 64)))] (G, I, P) = some (some (.inl (m_pass ρ n cl 5)), (G, I1, P)) ∧ (DNk G P I I1 (m_pass ρ n cl) n cl nx u 3 (-1) ((pk ρ : Nat) : Int)) := by
  have hvp : 0 ≤ m_pass ρ n cl 5 := by rw [m_pass_5]; have := RW_ni hE.2.1; omega
  have w : am_ex (am_call am_B am_M (d + 5)) (am_B 127) (am_B 127 0) [some (.inr (.inr (some 64)))] [] (G, I, P) (fun o => ∃ I1, o = (some (.inl (m_pass ρ n cl 5)), (G, I1, P)) ∧ (DNk G P I I1 (m_pass ρ n cl) n cl nx u 3 (-1) ((pk ρ : Nat) : Int))) := by
    refine (ex_6_0 (ex_6_0 (ix_41r (sh_64 hS) (pt_64_5 hS) ?_)))
    obtain ⟨K, eK, hEK, hLK, hDK⟩ := k_night_n (d := d) hS hE h9 ht1 hnx hn16 hu hu16
    refine (ix_46 (S' := [(.inl (m_pass ρ n cl 5)), (.inr (.inr (some 64)))]) rfl (sh_91 hS) eK rfl rfl (ix_46 (S' := [(.inl (m_pass ρ n cl 5))]) rfl (sh_64 hS) (k_settle_p hS hvp) rfl rfl ?_))
    exact ex_53 ⟨_, rfl, DNk_w hEK hLK hDK⟩
  obtain ⟨o, e, I1, rfl, h⟩ := am_doQ (as := [(.inr (.inr (some 64)))]) (Nat.le_of_ble_eq_true rfl) rfl w
  exact ⟨I1, e, h⟩
theorem k_undoc_e {d : Nat} {G : am_G} {I : Nat → Nat → Int} {P : Nat → Nat → Option Nat} (hS : ST G P) {ρ : Nat → Int} {n : Nat} {cl : Nat → Cl} (hE : CE G I P 65 ρ n cl) (hu : I 84 4 = 0) (hR : 0 ≤ I 173 3 ∧ I 173 3 ≤ 1000000) : ∃ I1, am_call am_B am_M (d + 6) 128 [(.inr (.inr (some 64)))] (G, I, P) = some (some (.inl (-3)), (G, I1, P)) ∧ (RFk 3 I I1) := by
  have w : am_ex (am_call am_B am_M (d + 5)) (am_B 128) (am_B 128 0) [some (.inr (.inr (some 64)))] [] (G, I, P) (fun o => ∃ I1, o = (some (.inl (-3)), (G, I1, P)) ∧ (RFk 3 I I1)) := by
    refine (ex_6_0 (ex_6_0 (ix_41r (sh_64 hS) (pt_64_5 hS) (ix_46 (S' := [(.inl (-3)), (.inr (.inr (some 64)))]) rfl (sh_91 hS) (k_undo_e hS hE hu) rfl rfl (ix_46 (S' := [(.inl (-3))]) rfl (sh_64 hS) (k_settle_n hS (k := 3) (x := I 173 3) (by decide) (by decide) rfl hR) rfl rfl ?_)))))
    exact ex_53 ⟨_, rfl, RFk_LF LF_refl rfl⟩
  obtain ⟨o, e, I1, rfl, h⟩ := am_doQ (as := [(.inr (.inr (some 64)))]) (Nat.le_of_ble_eq_true rfl) rfl w
  exact ⟨I1, e, h⟩
/-- a deed taken back by the class -/
def UNk (G : am_G) (P : Nat → Nat → Option Nat) (I J : Nat → Nat → Int) (ρ' : Nat → Int) (n : Nat) (cl : Nat → Cl) (nx u : Nat) : Prop := CE G J P 65 ρ' n cl ∧ J 84 3 = (((nx + 15) % 16 : Nat) : Int) ∧ J 84 4 = (u : Int) ∧ J 64 16 = 0 ∧ (∀ q k, ¬ q = 84 → ¬ (65 ≤ q ∧ q ≤ 80) → ¬ (q = 64 ∧ k = 16) → J q k = I q k)
theorem UNk_w {G : am_G} {P : Nat → Nat → Option Nat} {I J : Nat → Nat → Int} {ρ' : Nat → Int} {n : Nat} {cl : Nat → Cl} {nx u : Nat} (h1 : CE G J P 65 ρ' n cl) (h2 : J 84 3 = (((nx + 15) % 16 : Nat) : Int)) (h3 : J 84 4 = (u : Int)) (h4 : ∀ q k, ¬ q = 84 → ¬ (65 ≤ q ∧ q ≤ 80) → J q k = I q k) : UNk G P I (am_u2 J 64 16 0) ρ' n cl nx u :=
  ⟨CE_set h1 (CC_w65 h1.1 (by omega)) h1.2.1 rfl (fun q k h => u2_q (by omega)), (u2_q (by decide)).trans h2, (u2_q (by decide)).trans h3, u2_e, fun q k a b e => (u2_o e).trans (h4 q k a b)⟩
/-- an entry of the log -/
def eok (dd w b : Int) : Prop := (dd = 0 ∧ 0 ≤ w ∧ w < 10 ∧ 0 ≤ b ∧ b ≤ 999) ∨ (dd = 1 ∧ 0 ≤ w ∧ w < 5 ∧ (b = 0 ∨ b = 1)) ∨ (dd = 2 ∧ 0 ≤ b ∧ b < 64) ∨ (dd = 3 ∧ 0 ≤ b ∧ b < 262144)
theorem k_undo {d : Nat} {G : am_G} {I : Nat → Nat → Int} {P : Nat → Nat → Option Nat} (hS : ST G P) {ρ : Nat → Int} {n : Nat} {cl : Nat → Cl} (hE : CE G I P 65 ρ n cl) {nx u : Nat} (hnx : I 84 3 = (nx : Int)) (hn16 : nx < 16) (hu : I 84 4 = (u : Int) + 1) (hu16 : u < 16) {dd w b : Int} (hd : I 85 ((nx + 15) % 16) = dd) (hw : I 86 ((nx + 15) % 16) = w) (hbb : I 87 ((nx + 15) % 16) = b) (hok : eok dd w b) (hR : RW (und dd w b ρ)) : ∃ I1, am_call am_B am_M (d + 3) 27 [.inr (.inr (some 91))] (G, I, P) = some (some (.inl dd), (G, I1, P)) ∧ (CE G I1 P 65 (und dd w b ρ) n cl ∧ I1 84 3 = ((((nx + 15) % 16) : Nat) : Int) ∧ I1 84 4 = (u : Int) ∧ (∀ q k, ¬ q = 84 → ¬ (65 ≤ q ∧ q ≤ 80) → I1 q k = I q k)) := by
  rcases hok with ⟨rfl, h1, h2, h3⟩ | ⟨rfl, h1, h2, h3⟩ | ⟨rfl, h3⟩ | ⟨rfl, h3⟩
  · by_cases h : w < 5
    · obtain ⟨f, rfl⟩ : ∃ f : Nat, w = (f : Int) := ⟨w.toNat, by omega⟩
      have := k_undo_0k (d := d) hS hE hnx hn16 hu hu16 (f := f) (by omega) hd hw hbb h3
      unfold und; rw [if_pos rfl, if_pos h, Int.toNat_natCast]; exact this
    · obtain ⟨f, rfl⟩ : ∃ f : Nat, w = (f : Int) + 5 := ⟨(w - 5).toNat, by omega⟩
      have := k_undo_0w (d := d) hS hE hnx hn16 hu hu16 (f := f) (by omega) hd hw hbb h3
      unfold und; rw [if_pos rfl, if_neg h, show ((f : Int) + 5 - 5).toNat = f by omega]; exact this
  · obtain ⟨f, rfl⟩ : ∃ f : Nat, w = (f : Int) := ⟨w.toNat, by omega⟩
    have := k_undo_1 (d := d) hS hE hnx hn16 hu hu16 (f := f) (by omega) hd hw hbb h3
    unfold und; rw [if_neg (by decide), if_pos rfl, Int.toNat_natCast]; exact this
  · have := k_undo_2 (d := d) hS hE hnx hn16 hu hu16 hd hw hbb h3
    unfold und; rw [if_neg (by decide), if_neg (by decide), if_pos rfl]; exact this
  · obtain ⟨m, rfl⟩ : ∃ m : Nat, b = (m : Int) := ⟨b.toNat, by omega⟩
    have hR2 := hR
    unfold und at hR2 ⊢
    rw [if_neg (by decide), if_neg (by decide), if_neg (by decide), Int.toNat_natCast] at hR2 ⊢
    exact k_undo_3 (d := d) hS hE hnx hn16 hu hu16 (b := m) (by omega) hd hw hbb hR2
theorem k_undoc {d : Nat} {G : am_G} {I : Nat → Nat → Int} {P : Nat → Nat → Option Nat} (hS : ST G P) {ρ : Nat → Int} {n : Nat} {cl : Nat → Cl} (hE : CE G I P 65 ρ n cl) {nx u : Nat} (hnx : I 84 3 = (nx : Int)) (hn16 : nx < 16) (hu : I 84 4 = (u : Int) + 1) (hu16 : u < 16) {dd w0 b : Int} (hd : I 85 ((nx + 15) % 16) = dd) (hw : I 86 ((nx + 15) % 16) = w0) (hbb : I 87 ((nx + 15) % 16) = b) (hok : eok dd w0 b) (hRR : RW (und dd w0 b ρ)) : ∃ I1, am_call am_B am_M (d + 6) 128 [(.inr (.inr (some 64)))] (G, I, P) = some (some (.inl dd), (G, I1, P)) ∧ (UNk G P I I1 (und dd w0 b ρ) n cl nx u) := by
  have hvp : 0 ≤ dd := by unfold eok at hok; omega
  have w : am_ex (am_call am_B am_M (d + 5)) (am_B 128) (am_B 128 0) [some (.inr (.inr (some 64)))] [] (G, I, P) (fun o => ∃ I1, o = (some (.inl dd), (G, I1, P)) ∧ (UNk G P I I1 (und dd w0 b ρ) n cl nx u)) := by
    refine (ex_6_0 (ex_6_0 (ix_41r (sh_64 hS) (pt_64_5 hS) ?_)))
    obtain ⟨K, eK, hEK, h3K, h4K, hDK⟩ := k_undo (d := d + 2) hS hE hnx hn16 hu hu16 hd hw hbb hok hRR
    refine (ix_46 (S' := [(.inl dd), (.inr (.inr (some 64)))]) rfl (sh_91 hS) eK rfl rfl (ix_46 (S' := [(.inl dd)]) rfl (sh_64 hS) (k_settle_p hS hvp) rfl rfl ?_))
    exact ex_53 ⟨_, rfl, UNk_w hEK h3K h4K hDK⟩
  obtain ⟨o, e, I1, rfl, h⟩ := am_doQ (as := [(.inr (.inr (some 64)))]) (Nat.le_of_ble_eq_true rfl) rfl w
  exact ⟨I1, e, h⟩
