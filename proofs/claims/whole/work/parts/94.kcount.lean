/-! ===== the class: its face, counts ===== -/
theorem pz_part {ρ : Nat → Int} {s one other : Nat} : pz (m_part ρ s one other) := am_it_inv (inv := fun _ z => pz z) (N := 64) (fun i z hi h => pz_pF hi h) 64 0 _ rfl (Or.inl ⟨rfl, rfl⟩)
theorem pz_leave {ρ : Nat → Int} {s need : Nat} : pz (m_leave ρ s need) := am_it_inv (inv := fun _ z => pz z) (N := 64) (fun i z hi h => pz_lF hi h) 64 0 _ rfl (Or.inl ⟨rfl, rfl⟩)
theorem k_cob_1 {d : Nat} {G : am_G} {I : Nat → Nat → Int} {P : Nat → Nat → Option Nat} {v : Int} : am_call am_B am_M (d + 2) 155 [(.inl v), (.inl 1)] (G, I, P) = some (some (.inl v), (G, I, P)) := by
  refine am_doL (L := [some (.inl v), some (.inl 1)]) (Nat.le_of_ble_eq_true rfl) rfl ?_
  refine (ex_4_0 (ex_0 ?_))
  refine ex_ic0 (fun hc2 => ?_) (fun hc2 => ?_)
  · refine (ex_4_0 (ex_28 ?_))
    exact ex_53 rfl
  · refine (ex_4_1 (ex_0 (ex_ic1 (fun hc => by exfalso; revert hc; decide) (fun _ => ?_))))
    refine (ex_4_0 (ex_28 ?_))
    exact ex_53 rfl
theorem k_cob_0 {d : Nat} {G : am_G} {I : Nat → Nat → Int} {P : Nat → Nat → Option Nat} {z : Int × Int} (hz : pz z) : am_call am_B am_M (d + 2) 155 [(.inl z.1), (.inl 0)] (G, I, P) = some (some (.inl (if z.1 = -1 then -1 else z.2)), (G, I, P)) := by
  refine am_doL (L := [some (.inl z.1), some (.inl 0)]) (Nat.le_of_ble_eq_true rfl) rfl ?_
  refine (ex_4_0 (ex_0 ?_))
  refine ex_ic0 (fun hc2 => ?_) (fun hc2 => ?_)
  · refine (ex_4_0 (ex_28 ?_))
    exact ex_53 (by rw [if_pos hc2, hc2])
  · refine (ex_4_1 (ex_0 (ex_ic1 (fun _ => ?_) (fun hc => by exfalso; revert hc; decide))))
    refine (ex_4_0 (ix_45 (S' := [(.inl (bitc z.1))]) rfl k_bitCount rfl rfl (ex_58 ?_)))
    exact ex_53 (by rw [if_neg hc2]; rcases hz with h | ⟨t, h1, h2, h3⟩; exact absurd h.1 hc2; rw [h2, h3]; rw [bitc_lt t h1]; rfl)
theorem k_partc_b {d : Nat} {G : am_G} {I : Nat → Nat → Int} {P : Nat → Nat → Option Nat} (hS : ST G P) {ρ : Nat → Int} {n : Nat} {cl : Nat → Cl} (hE : CE G I P 65 ρ n cl) {one other w : Int} (hb : ¬ ((0 ≤ one ∧ one < 6) ∧ (0 ≤ other ∧ other < 6) ∧ ¬ one = other ∧ (0 ≤ w ∧ w ≤ 1))) : am_call am_B am_M (d + 4) 139 [(.inr (.inr (some 64))), (.inl one), (.inl other), (.inl w)] (G, I, P) = some (some (.inl (-1)), (G, I, P)) := by
  have h0 := RW_n0 hE.2.1
  have h1 := RW_n1 hE.2.1
  have h3 := RW_n3 hE.2.1
  have h8 := RW_sm hE.2.1
  refine am_doL (L := [some (.inr (.inr (some 64))), some (.inl one), some (.inl other), some (.inl w)]) (Nat.le_of_ble_eq_true rfl) rfl ?_
  refine (ex_4_1 ?_)
  by_cases hb1 : ((0 : Int) ≤ one ∧ (one : Int) < 6)
  · refine (ix_45 (S' := [(.inl 1)]) rfl (k_isBox_t hb1) rfl rfl (ex_if0 (fun hc => by exfalso; revert hc; decide) (fun _ => ?_)))
    refine (ex_4_2 ?_)
    by_cases hb8 : ((0 : Int) ≤ other ∧ (other : Int) < 6)
    · refine (ix_45 (S' := [(.inl 1)]) rfl (k_isBox_t hb8) rfl rfl (ex_if0 (fun hc => by exfalso; revert hc; decide) (fun _ => ?_)))
      refine (ex_4_1 (ex_4_2 ?_))
      refine ex_ic0 (fun hc16 => ?_) (fun hc16 => ?_)
      · refine (ex_0 ?_)
        exact ex_53 rfl
      · refine (ex_4_3 (ex_0 ?_))
        have hb21 : ¬ (((0 : Int) ≤ w ∧ (w : Int) ≤ 1)) := by omega
        refine (ix_45 (S' := [(.inl 0)]) rfl (k_isWithin_f hb21) rfl rfl (ex_if1 (fun hc => by exfalso; revert hc; decide) (fun _ => ?_)))
        refine (ex_0 ?_)
        exact ex_53 rfl
    · refine (ix_45 (S' := [(.inl 0)]) rfl (k_isBox_f hb8) rfl rfl (ex_if0 (fun _ => ?_) (fun hc => by exfalso; revert hc; decide)))
      refine (ex_0 ?_)
      exact ex_53 rfl
  · refine (ix_45 (S' := [(.inl 0)]) rfl (k_isBox_f hb1) rfl rfl (ex_if0 (fun _ => ?_) (fun hc => by exfalso; revert hc; decide)))
    refine (ex_0 ?_)
    exact ex_53 rfl
theorem k_partc_1 {d : Nat} {G : am_G} {I : Nat → Nat → Int} {P : Nat → Nat → Option Nat} (hS : ST G P) {ρ : Nat → Int} {n : Nat} {cl : Nat → Cl} (hE : CE G I P 65 ρ n cl) {one other : Nat} (ho1 : one < 6) (ho2 : other < 6) (hne : ¬ one = other) : am_call am_B am_M (d + 4) 139 [(.inr (.inr (some 64))), (.inl (one : Int)), (.inl (other : Int)), (.inl 1)] (G, I, P) = some (some (.inl (m_part ρ (ρ 8).toNat one other).1), (G, I, P)) := by
  have h0 := RW_n0 hE.2.1
  have h1 := RW_n1 hE.2.1
  have h3 := RW_n3 hE.2.1
  have h8 := RW_sm hE.2.1
  refine am_doL (L := [some (.inr (.inr (some 64))), some (.inl (one : Int)), some (.inl (other : Int)), some (.inl 1)]) (Nat.le_of_ble_eq_true rfl) rfl ?_
  refine (ex_4_1 ?_)
  have hb1 : ((0 : Int) ≤ (one : Int) ∧ ((one : Int) : Int) < 6) := by omega
  refine (ix_45 (S' := [(.inl 1)]) rfl (k_isBox_t hb1) rfl rfl (ex_if0 (fun hc => by exfalso; revert hc; decide) (fun _ => ?_)))
  refine (ex_4_2 ?_)
  have hb8 : ((0 : Int) ≤ (other : Int) ∧ ((other : Int) : Int) < 6) := by omega
  refine (ix_45 (S' := [(.inl 1)]) rfl (k_isBox_t hb8) rfl rfl (ex_if0 (fun hc => by exfalso; revert hc; decide) (fun _ => ?_)))
  refine (ex_4_1 (ex_4_2 ?_))
  refine ex_ic0 (fun hc16 => by exfalso; omega) (fun hc16 => ?_)
  refine (ex_4_3 (ex_0 ?_))
  have hb21 : ((0 : Int) ≤ 1 ∧ (1 : Int) ≤ 1) := by omega
  refine (ix_45 (S' := [(.inl 1)]) rfl (k_isWithin_t hb21) rfl rfl (ex_if1 (fun _ => ?_) (fun hc => by exfalso; revert hc; decide)))
  refine (ex_6_0 (ix_41r (sh_64 hS) (pt_64_0 hS) (ix_41r (sh_65 hS) (pt_65_0 hS) (ex_4_1 (ex_4_2 (ix_46 (S' := [(.inl (m_part ρ (ρ 8).toNat one other).1)]) rfl (sh_66 hS) (k_part hS cq65 hE.1 h8 ho1 ho2) rfl rfl (ex_4_3 (ix_45 (S' := [(.inl (m_part ρ (ρ 8).toNat one other).1)]) rfl k_cob_1 rfl rfl ?_))))))))
  exact ex_53 rfl
theorem k_partc_0 {d : Nat} {G : am_G} {I : Nat → Nat → Int} {P : Nat → Nat → Option Nat} (hS : ST G P) {ρ : Nat → Int} {n : Nat} {cl : Nat → Cl} (hE : CE G I P 65 ρ n cl) {one other : Nat} (ho1 : one < 6) (ho2 : other < 6) (hne : ¬ one = other) : am_call am_B am_M (d + 4) 139 [(.inr (.inr (some 64))), (.inl (one : Int)), (.inl (other : Int)), (.inl 0)] (G, I, P) = some (some (.inl (if (m_part ρ (ρ 8).toNat one other).1 = -1 then -1 else (m_part ρ (ρ 8).toNat one other).2)), (G, I, P)) := by
  have h0 := RW_n0 hE.2.1
  have h1 := RW_n1 hE.2.1
  have h3 := RW_n3 hE.2.1
  have h8 := RW_sm hE.2.1
  refine am_doL (L := [some (.inr (.inr (some 64))), some (.inl (one : Int)), some (.inl (other : Int)), some (.inl 0)]) (Nat.le_of_ble_eq_true rfl) rfl ?_
  refine (ex_4_1 ?_)
  have hb1 : ((0 : Int) ≤ (one : Int) ∧ ((one : Int) : Int) < 6) := by omega
  refine (ix_45 (S' := [(.inl 1)]) rfl (k_isBox_t hb1) rfl rfl (ex_if0 (fun hc => by exfalso; revert hc; decide) (fun _ => ?_)))
  refine (ex_4_2 ?_)
  have hb8 : ((0 : Int) ≤ (other : Int) ∧ ((other : Int) : Int) < 6) := by omega
  refine (ix_45 (S' := [(.inl 1)]) rfl (k_isBox_t hb8) rfl rfl (ex_if0 (fun hc => by exfalso; revert hc; decide) (fun _ => ?_)))
  refine (ex_4_1 (ex_4_2 ?_))
  refine ex_ic0 (fun hc16 => by exfalso; omega) (fun hc16 => ?_)
  refine (ex_4_3 (ex_0 ?_))
  have hb21 : ((0 : Int) ≤ 0 ∧ (0 : Int) ≤ 1) := by omega
  refine (ix_45 (S' := [(.inl 1)]) rfl (k_isWithin_t hb21) rfl rfl (ex_if1 (fun _ => ?_) (fun hc => by exfalso; revert hc; decide)))
  refine (ex_6_0 (ix_41r (sh_64 hS) (pt_64_0 hS) (ix_41r (sh_65 hS) (pt_65_0 hS) (ex_4_1 (ex_4_2 (ix_46 (S' := [(.inl (m_part ρ (ρ 8).toNat one other).1)]) rfl (sh_66 hS) (k_part hS cq65 hE.1 h8 ho1 ho2) rfl rfl (ex_4_3 (ix_45 (S' := [(.inl (if (m_part ρ (ρ 8).toNat one other).1 = -1 then -1 else (m_part ρ (ρ 8).toNat one other).2))]) rfl (k_cob_0 pz_part) rfl rfl ?_))))))))
  exact ex_53 rfl
theorem k_leavec_b {d : Nat} {G : am_G} {I : Nat → Nat → Int} {P : Nat → Nat → Option Nat} {w : Int} (hb : ¬ (0 ≤ w ∧ w ≤ 1)) : am_call am_B am_M (d + 4) 140 [(.inr (.inr (some 64))), (.inl w)] (G, I, P) = some (some (.inl (-1)), (G, I, P)) := by
  refine am_doL (L := [some (.inr (.inr (some 64))), some (.inl w)]) (Nat.le_of_ble_eq_true rfl) rfl ?_
  refine (ex_4_1 (ex_0 ?_))
  have hb2 : ¬ (((0 : Int) ≤ w ∧ (w : Int) ≤ 1)) := by omega
  refine (ix_45 (S' := [(.inl 0)]) rfl (k_isWithin_f hb2) rfl rfl (ex_if0 (fun _ => ?_) (fun hc => by exfalso; revert hc; decide)))
  refine (ex_0 (ex_58 ?_))
  exact ex_53 rfl
theorem k_leavec_1 {d : Nat} {G : am_G} {I : Nat → Nat → Int} {P : Nat → Nat → Option Nat} (hS : ST G P) {ρ : Nat → Int} {n : Nat} {cl : Nat → Cl} (hE : CE G I P 65 ρ n cl) : am_call am_B am_M (d + 4) 140 [(.inr (.inr (some 64))), (.inl 1)] (G, I, P) = some (some (.inl (m_leave ρ (ρ 8).toNat (m_homes ρ)).1), (G, I, P)) := by
  have h0 := RW_n0 hE.2.1
  have h1 := RW_n1 hE.2.1
  have h3 := RW_n3 hE.2.1
  have h8 := RW_sm hE.2.1
  have hhm : m_homes ρ < 64 := m_homes_lt h1.2 (RW_by hE.2.1)
  refine am_doL (L := [some (.inr (.inr (some 64))), some (.inl 1)]) (Nat.le_of_ble_eq_true rfl) rfl ?_
  refine (ex_4_1 (ex_0 ?_))
  have hb2 : ((0 : Int) ≤ 1 ∧ (1 : Int) ≤ 1) := by omega
  refine (ix_45 (S' := [(.inl 1)]) rfl (k_isWithin_t hb2) rfl rfl (ex_if0 (fun hc => by exfalso; revert hc; decide) (fun _ => ?_)))
  refine (ex_6_0 (ix_41r (sh_64 hS) (pt_64_0 hS) (ix_41r (sh_65 hS) (pt_65_0 hS) (ex_6_0 (ix_41r (sh_64 hS) (pt_64_0 hS) (ix_46 (S' := [(.inl ((m_homes ρ : Nat) : Int)), (.inr (.inr (some 66)))]) rfl (sh_65 hS) (k_homes hS cq65 hE.1 h1 (RW_by hE.2.1)) rfl rfl (ix_46 (S' := [(.inl (m_leave ρ (ρ 8).toNat (m_homes ρ)).1)]) rfl (sh_66 hS) (k_leave hS cq65 hE.1 h8 hhm) rfl rfl (ex_4_1 (ix_45 (S' := [(.inl (m_leave ρ (ρ 8).toNat (m_homes ρ)).1)]) rfl k_cob_1 rfl rfl (ex_28 ?_))))))))))
  exact ex_53 rfl
theorem k_leavec_0 {d : Nat} {G : am_G} {I : Nat → Nat → Int} {P : Nat → Nat → Option Nat} (hS : ST G P) {ρ : Nat → Int} {n : Nat} {cl : Nat → Cl} (hE : CE G I P 65 ρ n cl) : am_call am_B am_M (d + 4) 140 [(.inr (.inr (some 64))), (.inl 0)] (G, I, P) = some (some (.inl (if (m_leave ρ (ρ 8).toNat (m_homes ρ)).1 = -1 then -1 else (m_leave ρ (ρ 8).toNat (m_homes ρ)).2)), (G, I, P)) := by
  have h0 := RW_n0 hE.2.1
  have h1 := RW_n1 hE.2.1
  have h3 := RW_n3 hE.2.1
  have h8 := RW_sm hE.2.1
  have hhm : m_homes ρ < 64 := m_homes_lt h1.2 (RW_by hE.2.1)
  refine am_doL (L := [some (.inr (.inr (some 64))), some (.inl 0)]) (Nat.le_of_ble_eq_true rfl) rfl ?_
  refine (ex_4_1 (ex_0 ?_))
  have hb2 : ((0 : Int) ≤ 0 ∧ (0 : Int) ≤ 1) := by omega
  refine (ix_45 (S' := [(.inl 1)]) rfl (k_isWithin_t hb2) rfl rfl (ex_if0 (fun hc => by exfalso; revert hc; decide) (fun _ => ?_)))
  refine (ex_6_0 (ix_41r (sh_64 hS) (pt_64_0 hS) (ix_41r (sh_65 hS) (pt_65_0 hS) (ex_6_0 (ix_41r (sh_64 hS) (pt_64_0 hS) (ix_46 (S' := [(.inl ((m_homes ρ : Nat) : Int)), (.inr (.inr (some 66)))]) rfl (sh_65 hS) (k_homes hS cq65 hE.1 h1 (RW_by hE.2.1)) rfl rfl (ix_46 (S' := [(.inl (m_leave ρ (ρ 8).toNat (m_homes ρ)).1)]) rfl (sh_66 hS) (k_leave hS cq65 hE.1 h8 hhm) rfl rfl (ex_4_1 (ix_45 (S' := [(.inl (if (m_leave ρ (ρ 8).toNat (m_homes ρ)).1 = -1 then -1 else (m_leave ρ (ρ 8).toNat (m_homes ρ)).2))]) rfl (k_cob_0 pz_leave) rfl rfl (ex_28 ?_))))))))))
  exact ex_53 rfl
theorem k_cor_9 {d : Nat} {G : am_G} {I : Nat → Nat → Int} {P : Nat → Nat → Option Nat} (hS : ST G P) (hK2 : I 2 0 = 1 ∧ I 2 1 = 2 ∧ I 2 2 = 3 ∧ I 2 3 = 5 ∧ I 2 4 = 6) : am_call am_B am_M (d + 1) 151 [(.inr (.inr (some 64))), (.inl 9)] (G, I, P) = some (some (.inl (I 173 1)), (G, I, P)) := by
  refine am_doL (L := [some (.inr (.inr (some 64))), some (.inl 9)]) (Nat.le_of_ble_eq_true rfl) rfl ?_
  refine (ex_4_1 (ex_0 (ex_ic2 (fun hc => by exfalso; revert hc; decide) (fun _ => ?_))))
  refine (ex_4_1 (ex_0 (ex_ic4 (fun hc => by exfalso; revert hc; decide) (fun _ => ?_))))
  refine (ex_6_0 (ix_41r (sh_64 hS) (pt_64_12 hS) (ex_3 (ex_4_1 (ex_0 (ex_11e (v := 0) (by decide) (ix_30x (j := 0) (v := 1) (sh_2 hS) (by decide) (by decide) rfl hK2.1 (ix_30 (j := 1) (v := (I 173 1)) (sh_173 hS) (by decide) (by decide) rfl rfl ?_))))))))
  exact ex_53 rfl
theorem k_count_9 {d : Nat} {G : am_G} {I : Nat → Nat → Int} {P : Nat → Nat → Option Nat} (hS : ST G P) (hK2 : I 2 0 = 1 ∧ I 2 1 = 2 ∧ I 2 2 = 3 ∧ I 2 3 = 5 ∧ I 2 4 = 6) : am_call am_B am_M (d + 2) 149 [(.inr (.inr (some 64))), (.inl 9)] (G, I, P) = some (some (.inl (I 173 1)), (G, I, P)) := by
  refine am_doL (L := [some (.inr (.inr (some 64))), some (.inl 9)]) (Nat.le_of_ble_eq_true rfl) rfl ?_
  refine (ex_4_1 (ex_29i 9 rfl rfl (ex_6_0 (ex_4_1 (ix_46 (S' := [(.inl (I 173 1))]) rfl (sh_64 hS) (k_cor_9 hS hK2) rfl rfl ?_)))))
  exact ex_53 rfl
theorem k_cor_10 {d : Nat} {G : am_G} {I : Nat → Nat → Int} {P : Nat → Nat → Option Nat} (hS : ST G P) (hK2 : I 2 0 = 1 ∧ I 2 1 = 2 ∧ I 2 2 = 3 ∧ I 2 3 = 5 ∧ I 2 4 = 6) : am_call am_B am_M (d + 1) 151 [(.inr (.inr (some 64))), (.inl 10)] (G, I, P) = some (some (.inl (I 173 2)), (G, I, P)) := by
  refine am_doL (L := [some (.inr (.inr (some 64))), some (.inl 10)]) (Nat.le_of_ble_eq_true rfl) rfl ?_
  refine (ex_4_1 (ex_0 (ex_ic2 (fun hc => by exfalso; revert hc; decide) (fun _ => ?_))))
  refine (ex_4_1 (ex_0 (ex_ic4 (fun hc => by exfalso; revert hc; decide) (fun _ => ?_))))
  refine (ex_6_0 (ix_41r (sh_64 hS) (pt_64_12 hS) (ex_3 (ex_4_1 (ex_0 (ex_11e (v := 1) (by decide) (ix_30x (j := 1) (v := 2) (sh_2 hS) (by decide) (by decide) rfl hK2.2.1 (ix_30 (j := 2) (v := (I 173 2)) (sh_173 hS) (by decide) (by decide) rfl rfl ?_))))))))
  exact ex_53 rfl
theorem k_count_10 {d : Nat} {G : am_G} {I : Nat → Nat → Int} {P : Nat → Nat → Option Nat} (hS : ST G P) (hK2 : I 2 0 = 1 ∧ I 2 1 = 2 ∧ I 2 2 = 3 ∧ I 2 3 = 5 ∧ I 2 4 = 6) : am_call am_B am_M (d + 2) 149 [(.inr (.inr (some 64))), (.inl 10)] (G, I, P) = some (some (.inl (I 173 2)), (G, I, P)) := by
  refine am_doL (L := [some (.inr (.inr (some 64))), some (.inl 10)]) (Nat.le_of_ble_eq_true rfl) rfl ?_
  refine (ex_4_1 (ex_29i 10 rfl rfl (ex_6_0 (ex_4_1 (ix_46 (S' := [(.inl (I 173 2))]) rfl (sh_64 hS) (k_cor_10 hS hK2) rfl rfl ?_)))))
  exact ex_53 rfl
theorem k_cor_11 {d : Nat} {G : am_G} {I : Nat → Nat → Int} {P : Nat → Nat → Option Nat} (hS : ST G P) (hK2 : I 2 0 = 1 ∧ I 2 1 = 2 ∧ I 2 2 = 3 ∧ I 2 3 = 5 ∧ I 2 4 = 6) : am_call am_B am_M (d + 1) 151 [(.inr (.inr (some 64))), (.inl 11)] (G, I, P) = some (some (.inl (I 173 3)), (G, I, P)) := by
  refine am_doL (L := [some (.inr (.inr (some 64))), some (.inl 11)]) (Nat.le_of_ble_eq_true rfl) rfl ?_
  refine (ex_4_1 (ex_0 (ex_ic2 (fun hc => by exfalso; revert hc; decide) (fun _ => ?_))))
  refine (ex_4_1 (ex_0 (ex_ic4 (fun hc => by exfalso; revert hc; decide) (fun _ => ?_))))
  refine (ex_6_0 (ix_41r (sh_64 hS) (pt_64_12 hS) (ex_3 (ex_4_1 (ex_0 (ex_11e (v := 2) (by decide) (ix_30x (j := 2) (v := 3) (sh_2 hS) (by decide) (by decide) rfl hK2.2.2.1 (ix_30 (j := 3) (v := (I 173 3)) (sh_173 hS) (by decide) (by decide) rfl rfl ?_))))))))
  exact ex_53 rfl
theorem k_count_11 {d : Nat} {G : am_G} {I : Nat → Nat → Int} {P : Nat → Nat → Option Nat} (hS : ST G P) (hK2 : I 2 0 = 1 ∧ I 2 1 = 2 ∧ I 2 2 = 3 ∧ I 2 3 = 5 ∧ I 2 4 = 6) : am_call am_B am_M (d + 2) 149 [(.inr (.inr (some 64))), (.inl 11)] (G, I, P) = some (some (.inl (I 173 3)), (G, I, P)) := by
  refine am_doL (L := [some (.inr (.inr (some 64))), some (.inl 11)]) (Nat.le_of_ble_eq_true rfl) rfl ?_
  refine (ex_4_1 (ex_29i 11 rfl rfl (ex_6_0 (ex_4_1 (ix_46 (S' := [(.inl (I 173 3))]) rfl (sh_64 hS) (k_cor_11 hS hK2) rfl rfl ?_)))))
  exact ex_53 rfl
theorem k_cor_12 {d : Nat} {G : am_G} {I : Nat → Nat → Int} {P : Nat → Nat → Option Nat} (hS : ST G P) (hK2 : I 2 0 = 1 ∧ I 2 1 = 2 ∧ I 2 2 = 3 ∧ I 2 3 = 5 ∧ I 2 4 = 6) : am_call am_B am_M (d + 1) 151 [(.inr (.inr (some 64))), (.inl 12)] (G, I, P) = some (some (.inl (I 173 5)), (G, I, P)) := by
  refine am_doL (L := [some (.inr (.inr (some 64))), some (.inl 12)]) (Nat.le_of_ble_eq_true rfl) rfl ?_
  refine (ex_4_1 (ex_0 (ex_ic2 (fun hc => by exfalso; revert hc; decide) (fun _ => ?_))))
  refine (ex_4_1 (ex_0 (ex_ic4 (fun hc => by exfalso; revert hc; decide) (fun _ => ?_))))
  refine (ex_6_0 (ix_41r (sh_64 hS) (pt_64_12 hS) (ex_3 (ex_4_1 (ex_0 (ex_11e (v := 3) (by decide) (ix_30x (j := 3) (v := 5) (sh_2 hS) (by decide) (by decide) rfl hK2.2.2.2.1 (ix_30 (j := 5) (v := (I 173 5)) (sh_173 hS) (by decide) (by decide) rfl rfl ?_))))))))
  exact ex_53 rfl
theorem k_count_12 {d : Nat} {G : am_G} {I : Nat → Nat → Int} {P : Nat → Nat → Option Nat} (hS : ST G P) (hK2 : I 2 0 = 1 ∧ I 2 1 = 2 ∧ I 2 2 = 3 ∧ I 2 3 = 5 ∧ I 2 4 = 6) : am_call am_B am_M (d + 2) 149 [(.inr (.inr (some 64))), (.inl 12)] (G, I, P) = some (some (.inl (I 173 5)), (G, I, P)) := by
  refine am_doL (L := [some (.inr (.inr (some 64))), some (.inl 12)]) (Nat.le_of_ble_eq_true rfl) rfl ?_
  refine (ex_4_1 (ex_29i 12 rfl rfl (ex_6_0 (ex_4_1 (ix_46 (S' := [(.inl (I 173 5))]) rfl (sh_64 hS) (k_cor_12 hS hK2) rfl rfl ?_)))))
  exact ex_53 rfl
theorem k_cor_13 {d : Nat} {G : am_G} {I : Nat → Nat → Int} {P : Nat → Nat → Option Nat} (hS : ST G P) (hK2 : I 2 0 = 1 ∧ I 2 1 = 2 ∧ I 2 2 = 3 ∧ I 2 3 = 5 ∧ I 2 4 = 6) : am_call am_B am_M (d + 1) 151 [(.inr (.inr (some 64))), (.inl 13)] (G, I, P) = some (some (.inl (I 173 6)), (G, I, P)) := by
  refine am_doL (L := [some (.inr (.inr (some 64))), some (.inl 13)]) (Nat.le_of_ble_eq_true rfl) rfl ?_
  refine (ex_4_1 (ex_0 (ex_ic2 (fun hc => by exfalso; revert hc; decide) (fun _ => ?_))))
  refine (ex_4_1 (ex_0 (ex_ic4 (fun hc => by exfalso; revert hc; decide) (fun _ => ?_))))
  refine (ex_6_0 (ix_41r (sh_64 hS) (pt_64_12 hS) (ex_3 (ex_4_1 (ex_0 (ex_11e (v := 4) (by decide) (ix_30x (j := 4) (v := 6) (sh_2 hS) (by decide) (by decide) rfl hK2.2.2.2.2 (ix_30 (j := 6) (v := (I 173 6)) (sh_173 hS) (by decide) (by decide) rfl rfl ?_))))))))
  exact ex_53 rfl
theorem k_count_13 {d : Nat} {G : am_G} {I : Nat → Nat → Int} {P : Nat → Nat → Option Nat} (hS : ST G P) (hK2 : I 2 0 = 1 ∧ I 2 1 = 2 ∧ I 2 2 = 3 ∧ I 2 3 = 5 ∧ I 2 4 = 6) : am_call am_B am_M (d + 2) 149 [(.inr (.inr (some 64))), (.inl 13)] (G, I, P) = some (some (.inl (I 173 6)), (G, I, P)) := by
  refine am_doL (L := [some (.inr (.inr (some 64))), some (.inl 13)]) (Nat.le_of_ble_eq_true rfl) rfl ?_
  refine (ex_4_1 (ex_29i 13 rfl rfl (ex_6_0 (ex_4_1 (ix_46 (S' := [(.inl (I 173 6))]) rfl (sh_64 hS) (k_cor_13 hS hK2) rfl rfl ?_)))))
  exact ex_53 rfl
theorem k_cor_15 {d : Nat} {G : am_G} {I : Nat → Nat → Int} {P : Nat → Nat → Option Nat} (hS : ST G P) {ρ : Nat → Int} {n : Nat} {cl : Nat → Cl} (hE : CE G I P 65 ρ n cl) : am_call am_B am_M (d + 1) 151 [(.inr (.inr (some 64))), (.inl 15)] (G, I, P) = some (some (.inl (ρ 5)), (G, I, P)) := by
  refine am_doL (L := [some (.inr (.inr (some 64))), some (.inl 15)]) (Nat.le_of_ble_eq_true rfl) rfl ?_
  refine (ex_4_1 (ex_0 (ex_ic2 (fun hc => by exfalso; revert hc; decide) (fun _ => ?_))))
  refine (ex_4_1 (ex_0 (ex_ic4 (fun _ => ?_) (fun hc => by exfalso; revert hc; decide))))
  refine (ex_4_1 (ex_0 (ex_ic2 (fun hc => by exfalso; revert hc; decide) (fun _ => ?_))))
  refine (ex_4_1 (ex_0 (ex_ic4 (fun hc => by exfalso; revert hc; decide) (fun _ => ?_))))
  refine (ex_6_0 (ix_41r (sh_64 hS) (pt_64_0 hS) (ix_41r (sh_65 hS) (pt_65_14 hS) (ex_4_1 (ex_0 (ex_11e (v := 0) (by decide) (ix_30 (j := 0) (v := (ρ 5)) (sh_80 hS) (by decide) (by decide) rfl (CC_te hE.1 0 (by decide)) (ex_28 ?_))))))))
  exact ex_53 rfl
theorem k_count_15 {d : Nat} {G : am_G} {I : Nat → Nat → Int} {P : Nat → Nat → Option Nat} (hS : ST G P) {ρ : Nat → Int} {n : Nat} {cl : Nat → Cl} (hE : CE G I P 65 ρ n cl) : am_call am_B am_M (d + 2) 149 [(.inr (.inr (some 64))), (.inl 15)] (G, I, P) = some (some (.inl (ρ 5)), (G, I, P)) := by
  refine am_doL (L := [some (.inr (.inr (some 64))), some (.inl 15)]) (Nat.le_of_ble_eq_true rfl) rfl ?_
  refine (ex_4_1 (ex_29o (by decide) (ex_6_0 (ex_4_1 (ix_46 (S' := [(.inl (ρ 5))]) rfl (sh_64 hS) (k_cor_15 hS hE) rfl rfl ?_)))))
  exact ex_53 rfl
theorem k_cor_16 {d : Nat} {G : am_G} {I : Nat → Nat → Int} {P : Nat → Nat → Option Nat} (hS : ST G P) {ρ : Nat → Int} {n : Nat} {cl : Nat → Cl} (hE : CE G I P 65 ρ n cl) : am_call am_B am_M (d + 1) 151 [(.inr (.inr (some 64))), (.inl 16)] (G, I, P) = some (some (.inl (ρ 6)), (G, I, P)) := by
  refine am_doL (L := [some (.inr (.inr (some 64))), some (.inl 16)]) (Nat.le_of_ble_eq_true rfl) rfl ?_
  refine (ex_4_1 (ex_0 (ex_ic2 (fun hc => by exfalso; revert hc; decide) (fun _ => ?_))))
  refine (ex_4_1 (ex_0 (ex_ic4 (fun _ => ?_) (fun hc => by exfalso; revert hc; decide))))
  refine (ex_4_1 (ex_0 (ex_ic2 (fun hc => by exfalso; revert hc; decide) (fun _ => ?_))))
  refine (ex_4_1 (ex_0 (ex_ic4 (fun hc => by exfalso; revert hc; decide) (fun _ => ?_))))
  refine (ex_6_0 (ix_41r (sh_64 hS) (pt_64_0 hS) (ix_41r (sh_65 hS) (pt_65_14 hS) (ex_4_1 (ex_0 (ex_11e (v := 1) (by decide) (ix_30 (j := 1) (v := (ρ 6)) (sh_80 hS) (by decide) (by decide) rfl (CC_te hE.1 1 (by decide)) (ex_28 ?_))))))))
  exact ex_53 rfl
theorem k_count_16 {d : Nat} {G : am_G} {I : Nat → Nat → Int} {P : Nat → Nat → Option Nat} (hS : ST G P) {ρ : Nat → Int} {n : Nat} {cl : Nat → Cl} (hE : CE G I P 65 ρ n cl) : am_call am_B am_M (d + 2) 149 [(.inr (.inr (some 64))), (.inl 16)] (G, I, P) = some (some (.inl (ρ 6)), (G, I, P)) := by
  refine am_doL (L := [some (.inr (.inr (some 64))), some (.inl 16)]) (Nat.le_of_ble_eq_true rfl) rfl ?_
  refine (ex_4_1 (ex_29o (by decide) (ex_6_0 (ex_4_1 (ix_46 (S' := [(.inl (ρ 6))]) rfl (sh_64 hS) (k_cor_16 hS hE) rfl rfl ?_)))))
  exact ex_53 rfl
theorem k_cor_17 {d : Nat} {G : am_G} {I : Nat → Nat → Int} {P : Nat → Nat → Option Nat} (hS : ST G P) {ρ : Nat → Int} {n : Nat} {cl : Nat → Cl} (hE : CE G I P 65 ρ n cl) : am_call am_B am_M (d + 1) 151 [(.inr (.inr (some 64))), (.inl 17)] (G, I, P) = some (some (.inl (ρ 7)), (G, I, P)) := by
  refine am_doL (L := [some (.inr (.inr (some 64))), some (.inl 17)]) (Nat.le_of_ble_eq_true rfl) rfl ?_
  refine (ex_4_1 (ex_0 (ex_ic2 (fun hc => by exfalso; revert hc; decide) (fun _ => ?_))))
  refine (ex_4_1 (ex_0 (ex_ic4 (fun _ => ?_) (fun hc => by exfalso; revert hc; decide))))
  refine (ex_4_1 (ex_0 (ex_ic2 (fun hc => by exfalso; revert hc; decide) (fun _ => ?_))))
  refine (ex_4_1 (ex_0 (ex_ic4 (fun hc => by exfalso; revert hc; decide) (fun _ => ?_))))
  refine (ex_6_0 (ix_41r (sh_64 hS) (pt_64_0 hS) (ix_41r (sh_65 hS) (pt_65_14 hS) (ex_4_1 (ex_0 (ex_11e (v := 2) (by decide) (ix_30 (j := 2) (v := (ρ 7)) (sh_80 hS) (by decide) (by decide) rfl (CC_te hE.1 2 (by decide)) (ex_28 ?_))))))))
  exact ex_53 rfl
theorem k_count_17 {d : Nat} {G : am_G} {I : Nat → Nat → Int} {P : Nat → Nat → Option Nat} (hS : ST G P) {ρ : Nat → Int} {n : Nat} {cl : Nat → Cl} (hE : CE G I P 65 ρ n cl) : am_call am_B am_M (d + 2) 149 [(.inr (.inr (some 64))), (.inl 17)] (G, I, P) = some (some (.inl (ρ 7)), (G, I, P)) := by
  refine am_doL (L := [some (.inr (.inr (some 64))), some (.inl 17)]) (Nat.le_of_ble_eq_true rfl) rfl ?_
  refine (ex_4_1 (ex_29o (by decide) (ex_6_0 (ex_4_1 (ix_46 (S' := [(.inl (ρ 7))]) rfl (sh_64 hS) (k_cor_17 hS hE) rfl rfl ?_)))))
  exact ex_53 rfl
theorem k_cor_o {d : Nat} {G : am_G} {I : Nat → Nat → Int} {P : Nat → Nat → Option Nat} (hS : ST G P) {w : Int} (hw : ¬ (0 ≤ w ∧ w ≤ 17)) : am_call am_B am_M (d + 1) 151 [(.inr (.inr (some 64))), (.inl w)] (G, I, P) = some (some (.inl (-1)), (G, I, P)) := by
  refine am_doL (L := [some (.inr (.inr (some 64))), some (.inl w)]) (Nat.le_of_ble_eq_true rfl) rfl ?_
  refine (ex_4_1 (ex_0 ?_))
  refine ex_ic2 (fun hc3 => ?_) (fun hc3 => ?_)
  · refine (ex_4_1 (ex_0 ?_))
    refine ex_ic2 (fun hc29 => ?_) (fun hc29 => ?_)
    · refine (ex_0 (ex_58 ?_))
      exact ex_53 rfl
    · refine (ex_4_1 (ex_0 ?_))
      refine ex_ic4 (fun hc35 => ?_) (fun hc35 => ?_)
      · refine (ex_0 (ex_58 ?_))
        exact ex_53 rfl
      · refine (ex_6_0 (ix_41r (sh_64 hS) (pt_64_0 hS) (ix_41r (sh_65 hS) (pt_65_14 hS) (ex_4_1 (ex_0 (ex_sub ⟨by omega, by omega⟩ (ix_30 (j := (Int.toNat (w - 15))) (v := (I 80 (Int.toNat (w - 15)))) (sh_80 hS) (by omega) (by omega) rfl rfl (ex_28 ?_))))))))
        exact ex_53 (by exfalso; omega)
  · refine (ex_4_1 (ex_0 ?_))
    refine ex_ic4 (fun hc9 => ?_) (fun hc9 => ?_)
    · refine (ex_4_1 (ex_0 ?_))
      refine ex_ic2 (fun hc29 => ?_) (fun hc29 => ?_)
      · refine (ex_0 (ex_58 ?_))
        exact ex_53 rfl
      · refine (ex_4_1 (ex_0 ?_))
        refine ex_ic4 (fun hc35 => ?_) (fun hc35 => ?_)
        · refine (ex_0 (ex_58 ?_))
          exact ex_53 rfl
        · refine (ex_6_0 (ix_41r (sh_64 hS) (pt_64_0 hS) (ix_41r (sh_65 hS) (pt_65_14 hS) (ex_4_1 (ex_0 (ex_sub ⟨by omega, by omega⟩ (ix_30 (j := (Int.toNat (w - 15))) (v := (I 80 (Int.toNat (w - 15)))) (sh_80 hS) (by omega) (by omega) rfl rfl (ex_28 ?_))))))))
          exact ex_53 (by exfalso; omega)
    · refine (ex_6_0 (ix_41r (sh_64 hS) (pt_64_12 hS) (ex_3 (ex_4_1 (ex_0 (ex_sub ⟨by omega, by omega⟩ (ix_30x (j := (Int.toNat (w - 9))) (v := (I 2 (Int.toNat (w - 9)))) (sh_2 hS) (by omega) (by omega) rfl rfl (ix_30 (j := (Int.toNat (I 2 (Int.toNat (w - 9))))) (v := (I 173 (Int.toNat (I 2 (Int.toNat (w - 9)))))) (sh_173 hS) (by omega) (by omega) rfl rfl ?_))))))))
      exact ex_53 (by exfalso; omega)
theorem k_count_o {d : Nat} {G : am_G} {I : Nat → Nat → Int} {P : Nat → Nat → Option Nat} (hS : ST G P) {w : Int} (hw : ¬ (0 ≤ w ∧ w ≤ 17)) : am_call am_B am_M (d + 2) 149 [(.inr (.inr (some 64))), (.inl w)] (G, I, P) = some (some (.inl (-1)), (G, I, P)) := by
  refine am_doL (L := [some (.inr (.inr (some 64))), some (.inl w)]) (Nat.le_of_ble_eq_true rfl) rfl ?_
  refine (ex_4_1 (ex_29o (by simp only [List.length_cons, List.length_nil]; omega) (ex_6_0 (ex_4_1 (ix_46 (S' := [(.inl (-1))]) rfl (sh_64 hS) (k_cor_o hS hw) rfl rfl ?_)))))
  exact ex_53 rfl
theorem k_count_0 {d : Nat} {G : am_G} {I : Nat → Nat → Int} {P : Nat → Nat → Option Nat} (hS : ST G P) {ρ : Nat → Int} {n : Nat} {cl : Nat → Cl} (hE : CE G I P 65 ρ n cl) : am_call am_B am_M (d + 2) 149 [(.inr (.inr (some 64))), (.inl 0)] (G, I, P) = some (some (.inl (ρ 0)), (G, I, P)) := by
  refine am_doL (L := [some (.inr (.inr (some 64))), some (.inl 0)]) (Nat.le_of_ble_eq_true rfl) rfl ?_
  refine (ex_4_1 (ex_29i 0 rfl rfl (ex_6_0 (ix_41r (sh_64 hS) (pt_64_0 hS) (ix_41i (v := (ρ 0)) (sh_65 hS) (CC_n0 hE.1) ?_)))))
  exact ex_53 rfl
theorem k_count_1 {d : Nat} {G : am_G} {I : Nat → Nat → Int} {P : Nat → Nat → Option Nat} (hS : ST G P) {ρ : Nat → Int} {n : Nat} {cl : Nat → Cl} (hE : CE G I P 65 ρ n cl) : am_call am_B am_M (d + 2) 149 [(.inr (.inr (some 64))), (.inl 1)] (G, I, P) = some (some (.inl (ρ 1)), (G, I, P)) := by
  refine am_doL (L := [some (.inr (.inr (some 64))), some (.inl 1)]) (Nat.le_of_ble_eq_true rfl) rfl ?_
  refine (ex_4_1 (ex_29i 1 rfl rfl (ex_6_0 (ix_41r (sh_64 hS) (pt_64_0 hS) (ix_41i (v := (ρ 1)) (sh_65 hS) (CC_n1 hE.1) ?_)))))
  exact ex_53 rfl
theorem k_count_2 {d : Nat} {G : am_G} {I : Nat → Nat → Int} {P : Nat → Nat → Option Nat} (hS : ST G P) {ρ : Nat → Int} {n : Nat} {cl : Nat → Cl} (hE : CE G I P 65 ρ n cl) : am_call am_B am_M (d + 2) 149 [(.inr (.inr (some 64))), (.inl 2)] (G, I, P) = some (some (.inl (ρ 8)), (G, I, P)) := by
  refine am_doL (L := [some (.inr (.inr (some 64))), some (.inl 2)]) (Nat.le_of_ble_eq_true rfl) rfl ?_
  refine (ex_4_1 (ex_29i 2 rfl rfl (ex_6_0 (ix_41r (sh_64 hS) (pt_64_0 hS) (ix_41r (sh_65 hS) (pt_65_0 hS) (ix_41i (v := (ρ 8)) (sh_66 hS) (CC_sm hE.1) ?_))))))
  exact ex_53 rfl
theorem k_count_5 {d : Nat} {G : am_G} {I : Nat → Nat → Int} {P : Nat → Nat → Option Nat} (hS : ST G P) {ρ : Nat → Int} {n : Nat} {cl : Nat → Cl} (hE : CE G I P 65 ρ n cl) : am_call am_B am_M (d + 2) 149 [(.inr (.inr (some 64))), (.inl 5)] (G, I, P) = some (some (.inl (ρ 2)), (G, I, P)) := by
  refine am_doL (L := [some (.inr (.inr (some 64))), some (.inl 5)]) (Nat.le_of_ble_eq_true rfl) rfl ?_
  refine (ex_4_1 (ex_29i 5 rfl rfl (ex_6_0 (ix_41r (sh_64 hS) (pt_64_0 hS) (ix_41i (v := (ρ 2)) (sh_65 hS) (CC_n2 hE.1) ?_)))))
  exact ex_53 rfl
theorem k_count_6 {d : Nat} {G : am_G} {I : Nat → Nat → Int} {P : Nat → Nat → Option Nat} (hS : ST G P) {ρ : Nat → Int} {n : Nat} {cl : Nat → Cl} (hE : CE G I P 65 ρ n cl) : am_call am_B am_M (d + 2) 149 [(.inr (.inr (some 64))), (.inl 6)] (G, I, P) = some (some (.inl (ρ 3)), (G, I, P)) := by
  refine am_doL (L := [some (.inr (.inr (some 64))), some (.inl 6)]) (Nat.le_of_ble_eq_true rfl) rfl ?_
  refine (ex_4_1 (ex_29i 6 rfl rfl (ex_6_0 (ix_41r (sh_64 hS) (pt_64_0 hS) (ix_41i (v := (ρ 3)) (sh_65 hS) (CC_n3 hE.1) ?_)))))
  exact ex_53 rfl
theorem k_count_14 {d : Nat} {G : am_G} {I : Nat → Nat → Int} {P : Nat → Nat → Option Nat} (hS : ST G P) {ρ : Nat → Int} {n : Nat} {cl : Nat → Cl} (hE : CE G I P 65 ρ n cl) : am_call am_B am_M (d + 2) 149 [(.inr (.inr (some 64))), (.inl 14)] (G, I, P) = some (some (.inl (ρ 4)), (G, I, P)) := by
  refine am_doL (L := [some (.inr (.inr (some 64))), some (.inl 14)]) (Nat.le_of_ble_eq_true rfl) rfl ?_
  refine (ex_4_1 (ex_29i 14 rfl rfl (ex_6_0 (ix_41r (sh_64 hS) (pt_64_0 hS) (ix_41i (v := (ρ 4)) (sh_65 hS) (CC_fo hE.1) ?_)))))
  exact ex_53 rfl
theorem k_count_7 {d : Nat} {G : am_G} {I : Nat → Nat → Int} {P : Nat → Nat → Option Nat} (hS : ST G P) : am_call am_B am_M (d + 2) 149 [(.inr (.inr (some 64))), (.inl 7)] (G, I, P) = some (some (.inl (I 84 4)), (G, I, P)) := by
  refine am_doL (L := [some (.inr (.inr (some 64))), some (.inl 7)]) (Nat.le_of_ble_eq_true rfl) rfl ?_
  refine (ex_4_1 (ex_29i 7 rfl rfl (ex_6_0 (ix_41r (sh_64 hS) (pt_64_3 hS) (ix_41i (v := (I 84 4)) (sh_84 hS) rfl ?_)))))
  exact ex_53 rfl
theorem k_count_8 {d : Nat} {G : am_G} {I : Nat → Nat → Int} {P : Nat → Nat → Option Nat} (hS : ST G P) : am_call am_B am_M (d + 2) 149 [(.inr (.inr (some 64))), (.inl 8)] (G, I, P) = some (some (.inl (I 64 13)), (G, I, P)) := by
  refine am_doL (L := [some (.inr (.inr (some 64))), some (.inl 8)]) (Nat.le_of_ble_eq_true rfl) rfl ?_
  refine (ex_4_1 (ex_29i 8 rfl rfl (ex_6_0 (ix_41i (v := (I 64 13)) (sh_64 hS) rfl ?_))))
  exact ex_53 rfl
theorem k_count_3 {d : Nat} {G : am_G} {I : Nat → Nat → Int} {P : Nat → Nat → Option Nat} (hS : ST G P) {ρ : Nat → Int} {n : Nat} {cl : Nat → Cl} (hE : CE G I P 65 ρ n cl) {F : Nat} (hF : ρ 1 = (F : Int)) : am_call am_B am_M (d + 2) 149 [(.inr (.inr (some 64))), (.inl 3)] (G, I, P) = some (some (.inl (m_sum ρ 25 F)), (G, I, P)) := by
  have h0 := RW_n0 hE.2.1
  have h1 := RW_n1 hE.2.1
  have h3 := RW_n3 hE.2.1
  have h8 := RW_sm hE.2.1
  refine am_doL (L := [some (.inr (.inr (some 64))), some (.inl 3)]) (Nat.le_of_ble_eq_true rfl) rfl ?_
  refine (ex_4_1 (ex_29i 3 rfl rfl (ex_6_0 (ix_41r (sh_64 hS) (pt_64_0 hS) (ex_6_0 (ix_41r (sh_64 hS) (pt_64_0 hS) (ix_41r (sh_65 hS) (pt_65_9 hS) (ix_46 (S' := [(.inl (m_sum ρ 25 F))]) rfl (sh_65 hS) (k_sumOf_kn hS cq65 hE.1 hF (by omega) (fun i hi => RW_kn hE.2.1 i (by omega))) rfl rfl ?_))))))))
  exact ex_53 rfl
theorem k_count_4 {d : Nat} {G : am_G} {I : Nat → Nat → Int} {P : Nat → Nat → Option Nat} (hS : ST G P) {ρ : Nat → Int} {n : Nat} {cl : Nat → Cl} (hE : CE G I P 65 ρ n cl) {F : Nat} (hF : ρ 1 = (F : Int)) : am_call am_B am_M (d + 2) 149 [(.inr (.inr (some 64))), (.inl 4)] (G, I, P) = some (some (.inl (m_sum ρ 20 F)), (G, I, P)) := by
  have h0 := RW_n0 hE.2.1
  have h1 := RW_n1 hE.2.1
  have h3 := RW_n3 hE.2.1
  have h8 := RW_sm hE.2.1
  refine am_doL (L := [some (.inr (.inr (some 64))), some (.inl 4)]) (Nat.le_of_ble_eq_true rfl) rfl ?_
  refine (ex_4_1 (ex_29i 4 rfl rfl (ex_6_0 (ix_41r (sh_64 hS) (pt_64_0 hS) (ex_6_0 (ix_41r (sh_64 hS) (pt_64_0 hS) (ix_41r (sh_65 hS) (pt_65_8 hS) (ix_46 (S' := [(.inl (m_sum ρ 20 F))]) rfl (sh_65 hS) (k_sumOf_we hS cq65 hE.1 hF (by omega) (fun i hi => RW_we hE.2.1 i (by omega))) rfl rfl ?_))))))))
  exact ex_53 rfl
theorem k_answered_b {d : Nat} {G : am_G} {I : Nat → Nat → Int} {P : Nat → Nat → Option Nat} (hS : ST G P) {ρ : Nat → Int} {n : Nat} {cl : Nat → Cl} (hE : CE G I P 65 ρ n cl) {w : Int} (hb : ¬ (0 ≤ w ∧ w ≤ ρ 0)) (hr : w ≤ 2147483647) : am_call am_B am_M (d + 8) 133 [(.inr (.inr (some 64))), (.inl w)] (G, I, P) = some (some (.inl (-1)), (G, I, P)) := by
  have h0 := RW_n0 hE.2.1
  have h1 := RW_n1 hE.2.1
  have h3 := RW_n3 hE.2.1
  have h8 := RW_sm hE.2.1
  refine am_doL (L := [some (.inr (.inr (some 64))), some (.inl w), none]) (Nat.le_of_ble_eq_true rfl) rfl ?_
  refine (ex_4_1 ?_)
  refine ex_if1 (fun hc1 => ?_) (fun hc1 => by exfalso; omega)
  refine (ex_4_1 (ex_0 (ex_11e (v := (am_b2 1 w 1)) rfl (ex_7_2 rfl (ex_4_1 ?_)))))
  refine ex_if5 (fun hc21 => ?_) (fun hc21 => ?_)
  · refine (ex_0 (ex_58 ?_))
    exact ex_53 rfl
  · have e1 : am_b2 1 w 1 = w - 1 := am_sub ⟨by omega, by omega⟩
    rw [e1]
    refine (ex_6_0 (ix_41r (sh_64 hS) (pt_64_0 hS) (ex_4_2 (ix_46 (S' := [(.inl 0)]) rfl (sh_65 hS) (k_hasCloud_f hS cq65 hE.1 (by omega)) rfl rfl (ex_if0 (fun _ => ?_) (fun hc => by exfalso; revert hc; decide))))))
    exact ex_0 (ex_58 (ex_53 rfl))
theorem k_drawn_0 {d : Nat} {G : am_G} {I : Nat → Nat → Int} {P : Nat → Nat → Option Nat} (hS : ST G P) {dr : Nat → Int} (hD : CC I 139 dr) {k : Nat} (hk : (k : Int) < dr 0) (h6 : dr 0 ≤ 6) : am_call am_B am_M (d + 2) 146 [(.inr (.inr (some 64))), (.inl (k : Int)), (.inl 0)] (G, I, P) = some (some (.inl (dr (9 + k))), (G, I, P)) := by
  refine am_doL (L := [some (.inr (.inr (some 64))), some (.inl (k : Int)), some (.inl 0), none]) (Nat.le_of_ble_eq_true rfl) rfl ?_
  refine (ex_6_0 (ix_41r (sh_64 hS) (pt_64_8 hS) (ix_41r (sh_121 hS) (pt_121_2 hS) (ex_9_3 rfl (ex_4_2 (ex_if1 (fun hc => by exfalso; revert hc; decide) (fun _ => ?_)))))))
  refine (ex_6_3 (ex_4_1 ?_))
  have hb14 : ((0 : Int) ≤ (k : Int) ∧ ((k : Int) : Int) < dr 0) := by omega
  refine (ix_46 (S' := [(.inl 1)]) rfl (sh_139 hS) (k_hasCloud_t hS cq139 hD hb14) rfl rfl (ex_if0 (fun hc => by exfalso; revert hc; decide) (fun _ => ?_)))
  refine (ex_6_3 (ix_41r (sh_139 hS) (pt_139_3 hS) (ex_4_1 (ix_30 (j := k) (v := (dr (9 + k))) (sh_146 hS) (by omega) (by omega) (by omega) (CC_at hD k (by omega)) (ex_28 ?_)))))
  exact ex_53 rfl
theorem k_drawn_0n {d : Nat} {G : am_G} {I : Nat → Nat → Int} {P : Nat → Nat → Option Nat} (hS : ST G P) {dr : Nat → Int} (hD : CC I 139 dr) {k : Int} (hk : ¬ (0 ≤ k ∧ k < dr 0)) : am_call am_B am_M (d + 2) 146 [(.inr (.inr (some 64))), (.inl k), (.inl 0)] (G, I, P) = some (some (.inl (-1)), (G, I, P)) := by
  refine am_doL (L := [some (.inr (.inr (some 64))), some (.inl k), some (.inl 0), none]) (Nat.le_of_ble_eq_true rfl) rfl ?_
  refine (ex_6_0 (ix_41r (sh_64 hS) (pt_64_8 hS) (ix_41r (sh_121 hS) (pt_121_2 hS) (ex_9_3 rfl (ex_4_2 (ex_if1 (fun hc => by exfalso; revert hc; decide) (fun _ => ?_)))))))
  refine (ex_6_3 (ex_4_1 ?_))
  have hb14 : ¬ (((0 : Int) ≤ k ∧ (k : Int) < dr 0)) := by omega
  refine (ix_46 (S' := [(.inl 0)]) rfl (sh_139 hS) (k_hasCloud_f hS cq139 hD hb14) rfl rfl (ex_if0 (fun _ => ?_) (fun hc => by exfalso; revert hc; decide)))
  refine (ex_0 (ex_58 ?_))
  exact ex_53 rfl
theorem k_drawn_1 {d : Nat} {G : am_G} {I : Nat → Nat → Int} {P : Nat → Nat → Option Nat} (hS : ST G P) {dr : Nat → Int} (hD : CC I 139 dr) {k : Nat} (hk : (k : Int) < dr 1) (h6 : dr 1 ≤ 5) : am_call am_B am_M (d + 2) 146 [(.inr (.inr (some 64))), (.inl (k : Int)), (.inl 1)] (G, I, P) = some (some (.inl (dr (20 + k))), (G, I, P)) := by
  refine am_doL (L := [some (.inr (.inr (some 64))), some (.inl (k : Int)), some (.inl 1), none]) (Nat.le_of_ble_eq_true rfl) rfl ?_
  refine (ex_6_0 (ix_41r (sh_64 hS) (pt_64_8 hS) (ix_41r (sh_121 hS) (pt_121_2 hS) (ex_9_3 rfl (ex_4_2 (ex_if1 (fun _ => ?_) (fun hc => by exfalso; revert hc; decide)))))))
  refine (ex_6_3 (ex_4_1 ?_))
  have hb33 : ((0 : Int) ≤ (k : Int) ∧ ((k : Int) : Int) < dr 1) := by omega
  refine (ix_46 (S' := [(.inl 1)]) rfl (sh_139 hS) (k_hasFolk_t hS cq139 hD hb33) rfl rfl (ex_if1 (fun _ => ?_) (fun hc => by exfalso; revert hc; decide)))
  refine (ex_4_2 (ex_0 (ex_ic1 (fun hc => by exfalso; revert hc; decide) (fun _ => ?_))))
  refine (ex_6_3 (ix_41r (sh_139 hS) (pt_139_8 hS) (ex_4_1 (ix_30 (j := k) (v := (dr (20 + k))) (sh_150 hS) (by omega) (by omega) (by omega) (CC_we hD k (by omega)) ?_))))
  exact ex_53 rfl
theorem k_drawn_2 {d : Nat} {G : am_G} {I : Nat → Nat → Int} {P : Nat → Nat → Option Nat} (hS : ST G P) {dr : Nat → Int} (hD : CC I 139 dr) {k : Nat} (hk : (k : Int) < dr 1) (h6 : dr 1 ≤ 5) : am_call am_B am_M (d + 2) 146 [(.inr (.inr (some 64))), (.inl (k : Int)), (.inl 2)] (G, I, P) = some (some (.inl (dr (25 + k))), (G, I, P)) := by
  refine am_doL (L := [some (.inr (.inr (some 64))), some (.inl (k : Int)), some (.inl 2), none]) (Nat.le_of_ble_eq_true rfl) rfl ?_
  refine (ex_6_0 (ix_41r (sh_64 hS) (pt_64_8 hS) (ix_41r (sh_121 hS) (pt_121_2 hS) (ex_9_3 rfl (ex_4_2 (ex_if1 (fun _ => ?_) (fun hc => by exfalso; revert hc; decide)))))))
  refine (ex_6_3 (ex_4_1 ?_))
  have hb33 : ((0 : Int) ≤ (k : Int) ∧ ((k : Int) : Int) < dr 1) := by omega
  refine (ix_46 (S' := [(.inl 1)]) rfl (sh_139 hS) (k_hasFolk_t hS cq139 hD hb33) rfl rfl (ex_if1 (fun _ => ?_) (fun hc => by exfalso; revert hc; decide)))
  refine (ex_4_2 (ex_0 (ex_ic1 (fun _ => ?_) (fun hc => by exfalso; revert hc; decide))))
  refine (ex_4_2 (ex_0 (ex_ic1 (fun hc => by exfalso; revert hc; decide) (fun _ => ?_))))
  refine (ex_6_3 (ix_41r (sh_139 hS) (pt_139_9 hS) (ex_4_1 (ix_30 (j := k) (v := (dr (25 + k))) (sh_151 hS) (by omega) (by omega) (by omega) (CC_kn hD k (by omega)) (ex_28 ?_)))))
  exact ex_53 rfl
theorem k_drawn_n {d : Nat} {G : am_G} {I : Nat → Nat → Int} {P : Nat → Nat → Option Nat} (hS : ST G P) {dr : Nat → Int} (hD : CC I 139 dr) {k w : Int} (hk : ¬ (0 ≤ k ∧ k < dr 1)) (hw : ¬ w = 0) : am_call am_B am_M (d + 2) 146 [(.inr (.inr (some 64))), (.inl k), (.inl w)] (G, I, P) = some (some (.inl (-1)), (G, I, P)) := by
  refine am_doL (L := [some (.inr (.inr (some 64))), some (.inl k), some (.inl w), none]) (Nat.le_of_ble_eq_true rfl) rfl ?_
  refine (ex_6_0 (ix_41r (sh_64 hS) (pt_64_8 hS) (ix_41r (sh_121 hS) (pt_121_2 hS) (ex_9_3 rfl (ex_4_2 ?_)))))
  refine ex_if1 (fun hc9 => ?_) (fun hc9 => by exfalso; omega)
  refine (ex_6_3 (ex_4_1 ?_))
  have hb33 : ¬ (((0 : Int) ≤ k ∧ (k : Int) < dr 1)) := by omega
  refine (ix_46 (S' := [(.inl 0)]) rfl (sh_139 hS) (k_hasFolk_f hS cq139 hD hb33) rfl rfl (ex_if1 (fun hc => by exfalso; revert hc; decide) (fun _ => ?_)))
  refine (ex_0 ?_)
  exact ex_53 rfl
theorem k_drawn_o {d : Nat} {G : am_G} {I : Nat → Nat → Int} {P : Nat → Nat → Option Nat} (hS : ST G P) {dr : Nat → Int} (hD : CC I 139 dr) {k w : Int} (hw : ¬ (0 ≤ w ∧ w ≤ 2)) : am_call am_B am_M (d + 2) 146 [(.inr (.inr (some 64))), (.inl k), (.inl w)] (G, I, P) = some (some (.inl (-1)), (G, I, P)) := by
  refine am_doL (L := [some (.inr (.inr (some 64))), some (.inl k), some (.inl w), none]) (Nat.le_of_ble_eq_true rfl) rfl ?_
  refine (ex_6_0 (ix_41r (sh_64 hS) (pt_64_8 hS) (ix_41r (sh_121 hS) (pt_121_2 hS) (ex_9_3 rfl (ex_4_2 ?_)))))
  refine ex_if1 (fun hc9 => ?_) (fun hc9 => by exfalso; omega)
  refine (ex_6_3 (ex_4_1 ?_))
  by_cases hb33 : ((0 : Int) ≤ k ∧ (k : Int) < dr 1)
  · refine (ix_46 (S' := [(.inl 1)]) rfl (sh_139 hS) (k_hasFolk_t hS cq139 hD hb33) rfl rfl (ex_if1 (fun _ => ?_) (fun hc => by exfalso; revert hc; decide)))
    refine (ex_4_2 (ex_0 ?_))
    refine ex_ic1 (fun hc43 => ?_) (fun hc43 => by exfalso; omega)
    refine (ex_4_2 (ex_0 ?_))
    refine ex_ic1 (fun hc55 => ?_) (fun hc55 => by exfalso; omega)
    refine (ex_0 (ex_58 ?_))
    exact ex_53 rfl
  · refine (ix_46 (S' := [(.inl 0)]) rfl (sh_139 hS) (k_hasFolk_f hS cq139 hD hb33) rfl rfl (ex_if1 (fun hc => by exfalso; revert hc; decide) (fun _ => ?_)))
    refine (ex_0 ?_)
    exact ex_53 rfl
