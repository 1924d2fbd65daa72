/-! ===== the class on paper: when all is as it was; draws ===== -/
theorem k_again {d : Nat} {G : am_G} {I : Nat → Nat → Int} {P : Nat → Nat → Option Nat} (hS : ST G P) {ρ : Nat → Int} {n : Nat} {cl : Nat → Cl} (hE : CE G I P 65 ρ n cl) (hN : TN G P 65) (h59 : ρ 5 ≤ 999) : ∃ I1 P1, am_call am_B am_M (d + 5) 57 [(.inr (.inr (some 121))), (.inr (.inr (some 65)))] (G, I, P) = some (some (.inl (if 60 < m_again ρ n cl then -1 else (m_again ρ n cl : Int))), (G, I1, P1)) ∧ (ST G P1 ∧ PF2 I I1 ∧ PP2 P P1) := by
  have h06 := RW_n0 hE.2.1
  have w : am_ex (am_call am_B am_M (d + 4)) (am_B 57) (am_B 57 0) [some (.inr (.inr (some 121))), some (.inr (.inr (some 65))), none, none, none] [] (G, I, P) (fun o => ∃ I1 P1, o = (some (.inl (if 60 < m_again ρ n cl then -1 else (m_again ρ n cl : Int))), (G, I1, P1)) ∧ (ST G P1 ∧ PF2 I I1 ∧ PP2 P P1)) := by
    refine (ex_6_0 (ix_41r (sh_121 hS) (pt_121_1 hS) (ex_6_1 ?_)))
    obtain ⟨JC, P1, eC, hcC, h6C, fC, fP⟩ := k_copy (d := d + 2) hS cq122 cq65 (by decide) hN hE.1
    have hS : ST G P1 := ST_tx hS (fun q k _ h => fP q k (h 122 cq122))
    have hEC : CE G JC P1 122 ρ n cl := ⟨hcC, hE.2.1, LWn_cp hE.2.2 (fun q k h => fC q k (by omega)) (fun q k h => fP q k (by omega)) h6C⟩
    refine (ix_46 (S' := []) rfl (sh_122 hS) eC rfl rfl (ex_0 (ex_7_2 rfl (ex_58 ?_))))
    refine ex_forR (b := 1) (σ := Nat → Int) (60) (fun i s => m_pass s n cl) (fun i s J => CE G J P1 122 s n cl ∧ s = m_pN ρ n cl i ∧ PF2 I J ∧ ∀ j, j < i → ¬ (fun i => decide (m_there (m_pN ρ n cl i) (fun c => ρ (9 + c)) (ρ 0).toNat = 1)) (1 + j) = true) (fun i s e_i => [some (.inr (.inr (some 121))), some (.inr (.inr (some 65))), some (.inl ((i : Int) + 1)), (e_i 3), (e_i 4)]) ?_ (60) (0) (ρ) (fun k_ => ([some (.inr (.inr (some 121))), some (.inr (.inr (some 65))), some (.inl 1), none, none] : am_L).getD k_ none) (JC) (by omega) (⟨hEC, rfl, fun q k _ _ h => fC q k (by omega), fun j hj => absurd hj (by omega)⟩) rfl ?_
    · intro i s e_i J hii hvi hki
      obtain ⟨hEi, hsp, hfi, hno⟩ := hvi
      have hok := pN_rw (n := n) (cl := cl) hE.2.1 h59 i (by omega)
      rw [← hsp] at hok
      have h0i := RW_n0 hEi.2.1
      have hs0 : s 0 = ρ 0 := hok.2.2 0 (by omega)
      refine (ex_4_2 (ex_0 ?_))
      refine ex_ic4 (fun hc13 => by exfalso; omega) (fun hc13 => ?_)
      refine (ex_6_0 (ix_41r (sh_121 hS) (pt_121_0 hS) (ex_6_0 (ix_41r (sh_121 hS) (pt_121_1 hS) ?_))))
      obtain ⟨J2, e2, hE2, f2⟩ := k_letGo (d := d) hS cq122 hEi (N := (s 0).toNat) (by omega) (by omega)
      have hcN : CC J2 65 ρ := CC_fr hE.1 (fun q k h1 h2 _ => (f2 q k (by omega) (by omega) (by omega) (by omega)).trans (hfi q k (by omega) (by omega) (by omega)))
      have hp0 : m_pass s n cl 0 = ρ 0 := (m_pass_out hEi.2.1 (by omega)).trans hs0
      refine (ix_46 (S' := []) rfl (sh_88 hS) e2 rfl rfl (ex_0 (ex_7_3 rfl (ex_0 (ex_7_4 rfl (ex_58 ?_))))))
      refine ex_forH (b := 3) (σ := Int) ((ρ 0).toNat) (fun x so => if so = 1 ∧ m_pass s n cl (9 + x) = ρ (9 + x) then 1 else 0) (fun x so => so = 0 ∨ so = 1) (fun x so e_x => [some (.inr (.inr (some 121))), some (.inr (.inr (some 65))), some (.inl ((i : Int) + 1)), some (.inl so), some (.inl (x : Int))]) (fun x so => (G, J2, P1)) ?_ ?_ ((ρ 0).toNat) (0) (1) (fun k_ => ([some (.inr (.inr (some 121))), some (.inr (.inr (some 65))), some (.inl ((i : Int) + 1)), some (.inl 1), some (.inl 0)] : am_L).getD k_ none) (by omega) (Or.inr rfl) rfl (rfl) ?_
      · intro x so hix hvx
        show (if so = 1 ∧ m_pass s n cl (9 + x) = ρ (9 + x) then (1 : Int) else 0) = 0 ∨ (if so = 1 ∧ m_pass s n cl (9 + x) = ρ (9 + x) then (1 : Int) else 0) = 1
        split
        · exact Or.inr rfl
        · exact Or.inl rfl
      · intro x so e_x hix hvx so' hsx hkx
        have hvx : so = 0 ∨ so = 1 := hvx
        refine (ex_4_4 (ex_6_0 (ix_41r (sh_121 hS) (pt_121_1 hS) (ix_41i (v := ((ρ 0).toNat : Int)) (sh_122 hS) ((CC_n0 hE2.1).trans (hp0.trans (Int.toNat_of_nonneg h06.1).symm)) ?_))))
        refine ex_ic3 (fun hc41 => by exfalso; omega) (fun hc41 => ?_)
        refine (ex_4_3 ?_)
        refine ex_if0 (fun hc45 => ?_) (fun hc45 => ?_)
        · refine (ex_0 (ex_58 (ex_7_3 rfl (ex_10_4 ⟨by omega, by omega⟩ rfl (ex_28 ?_)))))
          rw [hsx.trans (if_neg (by omega))] at hkx
          exact hkx (fun k_ => ([some (.inr (.inr (some 121))), some (.inr (.inr (some 65))), some (.inl ((i : Int) + 1)), some (.inl 0), some (.inl ((x : Int) + 1))] : am_L).getD k_ none)
        · refine (ex_6_0 (ix_41r (sh_121 hS) (pt_121_1 hS) (ix_41r (sh_122 hS) (pt_122_3 hS) (ex_4_4 (ix_30 (j := x) (v := ((m_pass s n cl) (9 + x))) (sh_129 hS) (by omega) (by omega) (by omega) (CC_at hE2.1 x (by omega)) (ex_6_1 (ix_41r (sh_65 hS) (pt_65_3 hS) (ex_4_4 (ix_30 (j := x) (v := (ρ (9 + x))) (sh_72 hS) (by omega) (by omega) (by omega) (CC_at hcN x (by omega)) ?_)))))))))
          refine ex_ic1 (fun hc65 => ?_) (fun hc65 => ?_)
          · refine (ex_0 (ex_58 (ex_7_3 rfl (ex_10_4 ⟨by omega, by omega⟩ rfl (ex_28 ?_)))))
            rw [hsx.trans (if_neg (by omega))] at hkx
            exact hkx (fun k_ => ([some (.inr (.inr (some 121))), some (.inr (.inr (some 65))), some (.inl ((i : Int) + 1)), some (.inl 0), some (.inl ((x : Int) + 1))] : am_L).getD k_ none)
          · refine (ex_0 (ex_28 (ex_7_3 rfl (ex_10_4 ⟨by omega, by omega⟩ rfl (ex_28 ?_)))))
            rw [hsx.trans (if_pos ⟨by omega, by omega⟩)] at hkx
            exact hkx (fun k_ => ([some (.inr (.inr (some 121))), some (.inr (.inr (some 65))), some (.inl ((i : Int) + 1)), some (.inl 1), some (.inl ((x : Int) + 1))] : am_L).getD k_ none)
      · intro so e_x hsx hvx
        have hvx : so = 0 ∨ so = 1 := hvx
        have hth : m_there (m_pass s n cl) (fun c => ρ (9 + c)) (ρ 0).toNat = so := hsx.symm
        refine (ex_4_4 (ex_6_0 (ix_41r (sh_121 hS) (pt_121_1 hS) (ix_41i (v := ((ρ 0).toNat : Int)) (sh_122 hS) ((CC_n0 hE2.1).trans (hp0.trans (Int.toNat_of_nonneg h06.1).symm)) ?_))))
        refine ex_ic3 (fun hc41 => ?_) (fun hc41 => by exfalso; omega)
        refine (ex_4_3 ?_)
        refine ex_if0 (fun hc81 => ?_) (fun hc81 => ?_)
        · refine (ex_10_2 ⟨by omega, by omega⟩ rfl (ex_28 ?_))
          exact hki (m_pass s n cl) (fun k_ => ([some (.inr (.inr (some 121))), some (.inr (.inr (some 65))), some (.inl (((i : Int) + 1) + 1)), some (.inl so), some (.inl (((ρ 0).toNat) : Int))] : am_L).getD k_ none) _ (rfl) (⟨hE2, (by rw [m_pN_succ, ← hsp]), fun q k h1 h2 h3 => (f2 q k h1 h2 (by omega) (by omega)).trans (hfi q k h1 h2 h3), fun j hj => (by by_cases hji : j < i; exact hno j hji; have : j = i := (by omega); subst this; rw [decide_eq_true_iff, Nat.add_comm, m_pN_succ, ← hsp]; omega)⟩)
        · refine (ex_4_2 ?_)
          exact ex_53 ⟨_, _, (by rw [show m_again ρ n cl = i + 1 from fnd_at _ 60 1 (i + 1) (by omega) (by omega) (fun x h1 hx => by have := hno (x - 1) (by omega); rw [show 1 + (x - 1) = x by omega] at this; exact this) (by rw [decide_eq_true_iff, m_pN_succ, ← hsp]; omega)]; rw [if_neg (by omega)]; rfl), hS, (fun q k h1 h2 h3 => (f2 q k h1 h2 (by omega) (by omega)).trans (hfi q k h1 h2 h3)), ⟨fP, h6C⟩⟩
    · intro s e_i J hsi hvi
      obtain ⟨hEi, hsp, hfi, hno⟩ := hvi
      refine (ex_4_2 (ex_0 ?_))
      refine ex_ic4 (fun hc13 => ?_) (fun hc13 => by exfalso; omega)
      refine (ex_0 ?_)
      exact ex_53 ⟨_, _, (by rw [show m_again ρ n cl = 61 from fnd_no _ 60 1 (fun x h1 hx => by have := hno (x - 1) (by omega); rw [show 1 + (x - 1) = x by omega] at this; exact this)]; rfl), hS, hfi, ⟨fP, h6C⟩⟩
  obtain ⟨o, e, I1, P1, rfl, h⟩ := am_doQ (as := [(.inr (.inr (some 121))), (.inr (.inr (some 65)))]) (Nat.le_of_ble_eq_true rfl) rfl w
  exact ⟨I1, P1, e, h⟩
theorem k_draw {d : Nat} {G : am_G} {I : Nat → Nat → Int} {P : Nat → Nat → Option Nat} (hS : ST G P) {m st : Int} (h0 : I 121 4 = st) (h1 : 0 ≤ st ∧ st ≤ 1000003) (hm : 0 < m ∧ m ≤ 100) : am_call am_B am_M (d + 1) 60 [(.inr (.inr (some 121))), (.inl m)] (G, I, P) = some (some (.inl ((st * 1103 + 12345) % 1000003 % m)), (G, am_u2 I 121 4 ((st * 1103 + 12345) % 1000003), P)) := by
  refine am_doL (L := [some (.inr (.inr (some 121))), some (.inl m)]) (Nat.le_of_ble_eq_true rfl) rfl ?_
  refine (ex_6_0 (ex_6_0 (ix_41i (v := st) (sh_121 hS) h0 (ex_0 (ex_mul ⟨by omega, by omega⟩ (ex_0 (ex_add ⟨by omega, by omega⟩ (ex_0 (ex_12 (v := ((st * 1103 + 12345) % 1000003)) (by decide) (am_d4r (by omega) (by decide) (by omega) (by decide)) (ix_42i (sh_121 hS) (ex_4_1 ?_)))))))))))
  refine ex_if5 (fun hc20 => by exfalso; omega) (fun hc20 => ?_)
  refine (ex_6_0 (ix_41i (v := ((st * 1103 + 12345) % 1000003)) (sh_121 hS) u2_e (ex_4_1 (ex_12 (v := ((st * 1103 + 12345) % 1000003 % m)) (by omega) (am_d4r (by omega) (by omega) (by omega) (by omega)) (ex_28 ?_)))))
  exact ex_53 rfl
