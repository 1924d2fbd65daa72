/-! ===== the class: its face, what is only read ===== -/
theorem k_of_b {d : Nat} {G : am_G} {I : Nat → Nat → Int} {P : Nat → Nat → Option Nat} (hS : ST G P) {ρ : Nat → Int} {n : Nat} {cl : Nat → Cl} (hE : CE G I P 65 ρ n cl) {c w : Int} (hb : ¬ (0 ≤ c ∧ c < ρ 0)) : am_call am_B am_M (d + 5) 108 [(.inr (.inr (some 64))), (.inl c), (.inl w)] (G, I, P) = some (some (.inl (-1)), (G, I, P)) := by
  have h0 := RW_n0 hE.2.1
  have h1 := RW_n1 hE.2.1
  have h3 := RW_n3 hE.2.1
  have h8 := RW_sm hE.2.1
  refine am_doL (L := [some (.inr (.inr (some 64))), some (.inl c), some (.inl w)]) (Nat.le_of_ble_eq_true rfl) rfl ?_
  refine (ex_6_0 (ix_41r (sh_64 hS) (pt_64_0 hS) (ex_4_1 ?_)))
  have hb5 : ¬ (((0 : Int) ≤ c ∧ (c : Int) < ρ 0)) := by omega
  refine (ix_46 (S' := [(.inl 0)]) rfl (sh_65 hS) (k_hasCloud_f hS cq65 hE.1 hb5) rfl rfl (ex_if1 (fun hc => by exfalso; revert hc; decide) (fun _ => ?_)))
  refine (ex_0 ?_)
  exact ex_53 rfl
theorem k_of_0 {d : Nat} {G : am_G} {I : Nat → Nat → Int} {P : Nat → Nat → Option Nat} (hS : ST G P) {ρ : Nat → Int} {n : Nat} {cl : Nat → Cl} (hE : CE G I P 65 ρ n cl) {c : Nat} (hc : (c : Int) < ρ 0) : am_call am_B am_M (d + 5) 108 [(.inr (.inr (some 64))), (.inl (c : Int)), (.inl 0)] (G, I, P) = some (some (.inl (ρ (30 + c))), (G, I, P)) := by
  have h0 := RW_n0 hE.2.1
  have h1 := RW_n1 hE.2.1
  have h3 := RW_n3 hE.2.1
  have h8 := RW_sm hE.2.1
  refine am_doL (L := [some (.inr (.inr (some 64))), some (.inl (c : Int)), some (.inl 0)]) (Nat.le_of_ble_eq_true rfl) rfl ?_
  refine (ex_6_0 (ix_41r (sh_64 hS) (pt_64_0 hS) (ex_4_1 ?_)))
  have hb5 : ((0 : Int) ≤ (c : Int) ∧ ((c : Int) : Int) < ρ 0) := by omega
  refine (ix_46 (S' := [(.inl 1)]) rfl (sh_65 hS) (k_hasCloud_t hS cq65 hE.1 hb5) rfl rfl (ex_if1 (fun _ => ?_) (fun hc => by exfalso; revert hc; decide)))
  refine (ex_4_2 (ex_29i 0 rfl rfl (ex_6_0 (ix_41r (sh_64 hS) (pt_64_0 hS) (ix_41r (sh_65 hS) (pt_65_1 hS) (ex_4_1 (ix_30 (j := c) (v := (ρ (30 + c))) (sh_70 hS) (by omega) (by omega) (by omega) (CC_ki hE.1 c (by omega)) ?_)))))))
  exact ex_53 rfl
theorem k_of_1 {d : Nat} {G : am_G} {I : Nat → Nat → Int} {P : Nat → Nat → Option Nat} (hS : ST G P) {ρ : Nat → Int} {n : Nat} {cl : Nat → Cl} (hE : CE G I P 65 ρ n cl) {c : Nat} (hc : (c : Int) < ρ 0) : am_call am_B am_M (d + 5) 108 [(.inr (.inr (some 64))), (.inl (c : Int)), (.inl 1)] (G, I, P) = some (some (.inl (ρ (36 + c))), (G, I, P)) := by
  have h0 := RW_n0 hE.2.1
  have h1 := RW_n1 hE.2.1
  have h3 := RW_n3 hE.2.1
  have h8 := RW_sm hE.2.1
  refine am_doL (L := [some (.inr (.inr (some 64))), some (.inl (c : Int)), some (.inl 1)]) (Nat.le_of_ble_eq_true rfl) rfl ?_
  refine (ex_6_0 (ix_41r (sh_64 hS) (pt_64_0 hS) (ex_4_1 ?_)))
  have hb5 : ((0 : Int) ≤ (c : Int) ∧ ((c : Int) : Int) < ρ 0) := by omega
  refine (ix_46 (S' := [(.inl 1)]) rfl (sh_65 hS) (k_hasCloud_t hS cq65 hE.1 hb5) rfl rfl (ex_if1 (fun _ => ?_) (fun hc => by exfalso; revert hc; decide)))
  refine (ex_4_2 (ex_29i 1 rfl rfl (ex_6_0 (ix_41r (sh_64 hS) (pt_64_0 hS) (ix_41r (sh_65 hS) (pt_65_2 hS) (ex_4_1 (ix_30 (j := c) (v := (ρ (36 + c))) (sh_71 hS) (by omega) (by omega) (by omega) (CC_ra hE.1 c (by omega)) ?_)))))))
  exact ex_53 rfl
theorem k_of_2 {d : Nat} {G : am_G} {I : Nat → Nat → Int} {P : Nat → Nat → Option Nat} (hS : ST G P) {ρ : Nat → Int} {n : Nat} {cl : Nat → Cl} (hE : CE G I P 65 ρ n cl) {c : Nat} (hc : (c : Int) < ρ 0) : am_call am_B am_M (d + 5) 108 [(.inr (.inr (some 64))), (.inl (c : Int)), (.inl 2)] (G, I, P) = some (some (.inl (ρ (9 + c))), (G, I, P)) := by
  have h0 := RW_n0 hE.2.1
  have h1 := RW_n1 hE.2.1
  have h3 := RW_n3 hE.2.1
  have h8 := RW_sm hE.2.1
  refine am_doL (L := [some (.inr (.inr (some 64))), some (.inl (c : Int)), some (.inl 2)]) (Nat.le_of_ble_eq_true rfl) rfl ?_
  refine (ex_6_0 (ix_41r (sh_64 hS) (pt_64_0 hS) (ex_4_1 ?_)))
  have hb5 : ((0 : Int) ≤ (c : Int) ∧ ((c : Int) : Int) < ρ 0) := by omega
  refine (ix_46 (S' := [(.inl 1)]) rfl (sh_65 hS) (k_hasCloud_t hS cq65 hE.1 hb5) rfl rfl (ex_if1 (fun _ => ?_) (fun hc => by exfalso; revert hc; decide)))
  refine (ex_4_2 (ex_29i 2 rfl rfl (ex_6_0 (ix_41r (sh_64 hS) (pt_64_0 hS) (ix_41r (sh_65 hS) (pt_65_3 hS) (ex_4_1 (ix_30 (j := c) (v := (ρ (9 + c))) (sh_72 hS) (by omega) (by omega) (by omega) (CC_at hE.1 c (by omega)) ?_)))))))
  exact ex_53 rfl
theorem k_of_o {d : Nat} {G : am_G} {I : Nat → Nat → Int} {P : Nat → Nat → Option Nat} (hS : ST G P) {ρ : Nat → Int} {n : Nat} {cl : Nat → Cl} (hE : CE G I P 65 ρ n cl) {c : Nat} (hc : (c : Int) < ρ 0) {w : Int} (hw : ¬ (0 ≤ w ∧ w < 4)) : am_call am_B am_M (d + 5) 108 [(.inr (.inr (some 64))), (.inl (c : Int)), (.inl w)] (G, I, P) = some (some (.inl (-1)), (G, I, P)) := by
  have h0 := RW_n0 hE.2.1
  have h1 := RW_n1 hE.2.1
  have h3 := RW_n3 hE.2.1
  have h8 := RW_sm hE.2.1
  refine am_doL (L := [some (.inr (.inr (some 64))), some (.inl (c : Int)), some (.inl w)]) (Nat.le_of_ble_eq_true rfl) rfl ?_
  refine (ex_6_0 (ix_41r (sh_64 hS) (pt_64_0 hS) (ex_4_1 ?_)))
  have hb5 : ((0 : Int) ≤ (c : Int) ∧ ((c : Int) : Int) < ρ 0) := by omega
  refine (ix_46 (S' := [(.inl 1)]) rfl (sh_65 hS) (k_hasCloud_t hS cq65 hE.1 hb5) rfl rfl (ex_if1 (fun _ => ?_) (fun hc => by exfalso; revert hc; decide)))
  refine (ex_4_2 (ex_29o (by simp only [List.length_cons, List.length_nil]; omega) (ex_0 ?_)))
  exact ex_53 rfl
theorem k_of_3 {d : Nat} {G : am_G} {I : Nat → Nat → Int} {P : Nat → Nat → Option Nat} (hS : ST G P) {ρ : Nat → Int} {n : Nat} {cl : Nat → Cl} (hE : CE G I P 65 ρ n cl) {c : Nat} (hc : (c : Int) < ρ 0) : ∃ I1, am_call am_B am_M (d + 5) 108 [(.inr (.inr (some 64))), (.inl (c : Int)), (.inl 3)] (G, I, P) = some (some (.inl (m_goes ρ n cl c)), (G, I1, P)) ∧ (LF I I1) := by
  have h0 := RW_n0 hE.2.1
  have h1 := RW_n1 hE.2.1
  have h3 := RW_n3 hE.2.1
  have h8 := RW_sm hE.2.1
  have w : am_ex (am_call am_B am_M (d + 4)) (am_B 108) (am_B 108 0) [some (.inr (.inr (some 64))), some (.inl (c : Int)), some (.inl 3)] [] (G, I, P) (fun o => ∃ I1, o = (some (.inl (m_goes ρ n cl c)), (G, I1, P)) ∧ (LF I I1)) := by
    refine (ex_6_0 (ix_41r (sh_64 hS) (pt_64_0 hS) (ex_4_1 ?_)))
    have hb5 : ((0 : Int) ≤ (c : Int) ∧ ((c : Int) : Int) < ρ 0) := by omega
    refine (ix_46 (S' := [(.inl 1)]) rfl (sh_65 hS) (k_hasCloud_t hS cq65 hE.1 hb5) rfl rfl (ex_if1 (fun _ => ?_) (fun hc => by exfalso; revert hc; decide)))
    refine (ex_4_2 (ex_29i 3 rfl rfl (ex_6_0 (ix_41r (sh_64 hS) (pt_64_4 hS) (ex_6_0 (ix_41r (sh_64 hS) (pt_64_0 hS) (ex_4_1 ?_)))))))
    obtain ⟨K, eK, fK⟩ := k_goal (d := d) hS cq65 hE (c1 := c) (by omega)
    refine (ix_46 (S' := [(.inl (m_goes ρ n cl c))]) rfl (sh_88 hS) eK rfl rfl ?_)
    exact ex_53 ⟨_, rfl, fK⟩
  obtain ⟨o, e, I1, rfl, h⟩ := am_doQ (as := [(.inr (.inr (some 64))), (.inl (c : Int)), (.inl 3)]) (Nat.le_of_ble_eq_true rfl) rfl w
  exact ⟨I1, e, h⟩
theorem k_at_b {d : Nat} {G : am_G} {I : Nat → Nat → Int} {P : Nat → Nat → Option Nat} (hS : ST G P) {ρ : Nat → Int} {n : Nat} {cl : Nat → Cl} (hE : CE G I P 65 ρ n cl) {f w : Int} (hb : ¬ (0 ≤ f ∧ f < ρ 1)) : am_call am_B am_M (d + 2) 110 [(.inr (.inr (some 64))), (.inl f), (.inl w)] (G, I, P) = some (some (.inl (-1)), (G, I, P)) := by
  have h0 := RW_n0 hE.2.1
  have h1 := RW_n1 hE.2.1
  have h3 := RW_n3 hE.2.1
  have h8 := RW_sm hE.2.1
  refine am_doL (L := [some (.inr (.inr (some 64))), some (.inl f), some (.inl w)]) (Nat.le_of_ble_eq_true rfl) rfl ?_
  refine (ex_6_0 (ix_41r (sh_64 hS) (pt_64_0 hS) (ex_4_1 ?_)))
  have hb5 : ¬ (((0 : Int) ≤ f ∧ (f : Int) < ρ 1)) := by omega
  refine (ix_46 (S' := [(.inl 0)]) rfl (sh_65 hS) (k_hasFolk_f hS cq65 hE.1 hb5) rfl rfl (ex_if1 (fun hc => by exfalso; revert hc; decide) (fun _ => ?_)))
  refine (ex_0 ?_)
  exact ex_53 rfl
theorem k_at_0 {d : Nat} {G : am_G} {I : Nat → Nat → Int} {P : Nat → Nat → Option Nat} (hS : ST G P) {ρ : Nat → Int} {n : Nat} {cl : Nat → Cl} (hE : CE G I P 65 ρ n cl) {f : Nat} (hf : (f : Int) < ρ 1) : am_call am_B am_M (d + 2) 110 [(.inr (.inr (some 64))), (.inl (f : Int)), (.inl 0)] (G, I, P) = some (some (.inl (ρ (42 + f))), (G, I, P)) := by
  have h0 := RW_n0 hE.2.1
  have h1 := RW_n1 hE.2.1
  have h3 := RW_n3 hE.2.1
  have h8 := RW_sm hE.2.1
  refine am_doL (L := [some (.inr (.inr (some 64))), some (.inl (f : Int)), some (.inl 0)]) (Nat.le_of_ble_eq_true rfl) rfl ?_
  refine (ex_6_0 (ix_41r (sh_64 hS) (pt_64_0 hS) (ex_4_1 ?_)))
  have hb5 : ((0 : Int) ≤ (f : Int) ∧ ((f : Int) : Int) < ρ 1) := by omega
  refine (ix_46 (S' := [(.inl 1)]) rfl (sh_65 hS) (k_hasFolk_t hS cq65 hE.1 hb5) rfl rfl (ex_if1 (fun _ => ?_) (fun hc => by exfalso; revert hc; decide)))
  refine (ex_4_2 (ex_29i 0 rfl rfl (ex_6_0 (ix_41r (sh_64 hS) (pt_64_0 hS) (ix_41r (sh_65 hS) (pt_65_5 hS) (ex_4_1 (ix_30 (j := f) (v := (ρ (42 + f))) (sh_73 hS) (by omega) (by omega) (by omega) (CC_by hE.1 f (by omega)) ?_)))))))
  exact ex_53 rfl
theorem k_at_1 {d : Nat} {G : am_G} {I : Nat → Nat → Int} {P : Nat → Nat → Option Nat} (hS : ST G P) {ρ : Nat → Int} {n : Nat} {cl : Nat → Cl} (hE : CE G I P 65 ρ n cl) {f : Nat} (hf : (f : Int) < ρ 1) : am_call am_B am_M (d + 2) 110 [(.inr (.inr (some 64))), (.inl (f : Int)), (.inl 1)] (G, I, P) = some (some (.inl (ρ (47 + f))), (G, I, P)) := by
  have h0 := RW_n0 hE.2.1
  have h1 := RW_n1 hE.2.1
  have h3 := RW_n3 hE.2.1
  have h8 := RW_sm hE.2.1
  refine am_doL (L := [some (.inr (.inr (some 64))), some (.inl (f : Int)), some (.inl 1)]) (Nat.le_of_ble_eq_true rfl) rfl ?_
  refine (ex_6_0 (ix_41r (sh_64 hS) (pt_64_0 hS) (ex_4_1 ?_)))
  have hb5 : ((0 : Int) ≤ (f : Int) ∧ ((f : Int) : Int) < ρ 1) := by omega
  refine (ix_46 (S' := [(.inl 1)]) rfl (sh_65 hS) (k_hasFolk_t hS cq65 hE.1 hb5) rfl rfl (ex_if1 (fun _ => ?_) (fun hc => by exfalso; revert hc; decide)))
  refine (ex_4_2 (ex_29i 1 rfl rfl (ex_6_0 (ix_41r (sh_64 hS) (pt_64_0 hS) (ix_41r (sh_65 hS) (pt_65_6 hS) (ex_4_1 (ix_30 (j := f) (v := (ρ (47 + f))) (sh_74 hS) (by omega) (by omega) (by omega) (CC_ea hE.1 f (by omega)) ?_)))))))
  exact ex_53 rfl
theorem k_at_2 {d : Nat} {G : am_G} {I : Nat → Nat → Int} {P : Nat → Nat → Option Nat} (hS : ST G P) {ρ : Nat → Int} {n : Nat} {cl : Nat → Cl} (hE : CE G I P 65 ρ n cl) {f : Nat} (hf : (f : Int) < ρ 1) : am_call am_B am_M (d + 2) 110 [(.inr (.inr (some 64))), (.inl (f : Int)), (.inl 2)] (G, I, P) = some (some (.inl (ρ (15 + f))), (G, I, P)) := by
  have h0 := RW_n0 hE.2.1
  have h1 := RW_n1 hE.2.1
  have h3 := RW_n3 hE.2.1
  have h8 := RW_sm hE.2.1
  refine am_doL (L := [some (.inr (.inr (some 64))), some (.inl (f : Int)), some (.inl 2)]) (Nat.le_of_ble_eq_true rfl) rfl ?_
  refine (ex_6_0 (ix_41r (sh_64 hS) (pt_64_0 hS) (ex_4_1 ?_)))
  have hb5 : ((0 : Int) ≤ (f : Int) ∧ ((f : Int) : Int) < ρ 1) := by omega
  refine (ix_46 (S' := [(.inl 1)]) rfl (sh_65 hS) (k_hasFolk_t hS cq65 hE.1 hb5) rfl rfl (ex_if1 (fun _ => ?_) (fun hc => by exfalso; revert hc; decide)))
  refine (ex_4_2 (ex_29i 2 rfl rfl (ex_6_0 (ix_41r (sh_64 hS) (pt_64_0 hS) (ix_41r (sh_65 hS) (pt_65_7 hS) (ex_4_1 (ix_30 (j := f) (v := (ρ (15 + f))) (sh_75 hS) (by omega) (by omega) (by omega) (CC_en hE.1 f (by omega)) ?_)))))))
  exact ex_53 rfl
theorem k_at_3 {d : Nat} {G : am_G} {I : Nat → Nat → Int} {P : Nat → Nat → Option Nat} (hS : ST G P) {ρ : Nat → Int} {n : Nat} {cl : Nat → Cl} (hE : CE G I P 65 ρ n cl) {f : Nat} (hf : (f : Int) < ρ 1) : am_call am_B am_M (d + 2) 110 [(.inr (.inr (some 64))), (.inl (f : Int)), (.inl 3)] (G, I, P) = some (some (.inl (ρ (20 + f))), (G, I, P)) := by
  have h0 := RW_n0 hE.2.1
  have h1 := RW_n1 hE.2.1
  have h3 := RW_n3 hE.2.1
  have h8 := RW_sm hE.2.1
  refine am_doL (L := [some (.inr (.inr (some 64))), some (.inl (f : Int)), some (.inl 3)]) (Nat.le_of_ble_eq_true rfl) rfl ?_
  refine (ex_6_0 (ix_41r (sh_64 hS) (pt_64_0 hS) (ex_4_1 ?_)))
  have hb5 : ((0 : Int) ≤ (f : Int) ∧ ((f : Int) : Int) < ρ 1) := by omega
  refine (ix_46 (S' := [(.inl 1)]) rfl (sh_65 hS) (k_hasFolk_t hS cq65 hE.1 hb5) rfl rfl (ex_if1 (fun _ => ?_) (fun hc => by exfalso; revert hc; decide)))
  refine (ex_4_2 (ex_29i 3 rfl rfl (ex_6_0 (ix_41r (sh_64 hS) (pt_64_0 hS) (ix_41r (sh_65 hS) (pt_65_8 hS) (ex_4_1 (ix_30 (j := f) (v := (ρ (20 + f))) (sh_76 hS) (by omega) (by omega) (by omega) (CC_we hE.1 f (by omega)) ?_)))))))
  exact ex_53 rfl
theorem k_at_4 {d : Nat} {G : am_G} {I : Nat → Nat → Int} {P : Nat → Nat → Option Nat} (hS : ST G P) {ρ : Nat → Int} {n : Nat} {cl : Nat → Cl} (hE : CE G I P 65 ρ n cl) {f : Nat} (hf : (f : Int) < ρ 1) : am_call am_B am_M (d + 2) 110 [(.inr (.inr (some 64))), (.inl (f : Int)), (.inl 4)] (G, I, P) = some (some (.inl (ρ (25 + f))), (G, I, P)) := by
  have h0 := RW_n0 hE.2.1
  have h1 := RW_n1 hE.2.1
  have h3 := RW_n3 hE.2.1
  have h8 := RW_sm hE.2.1
  refine am_doL (L := [some (.inr (.inr (some 64))), some (.inl (f : Int)), some (.inl 4)]) (Nat.le_of_ble_eq_true rfl) rfl ?_
  refine (ex_6_0 (ix_41r (sh_64 hS) (pt_64_0 hS) (ex_4_1 ?_)))
  have hb5 : ((0 : Int) ≤ (f : Int) ∧ ((f : Int) : Int) < ρ 1) := by omega
  refine (ix_46 (S' := [(.inl 1)]) rfl (sh_65 hS) (k_hasFolk_t hS cq65 hE.1 hb5) rfl rfl (ex_if1 (fun _ => ?_) (fun hc => by exfalso; revert hc; decide)))
  refine (ex_4_2 (ex_29i 4 rfl rfl (ex_6_0 (ix_41r (sh_64 hS) (pt_64_0 hS) (ix_41r (sh_65 hS) (pt_65_9 hS) (ex_4_1 (ix_30 (j := f) (v := (ρ (25 + f))) (sh_77 hS) (by omega) (by omega) (by omega) (CC_kn hE.1 f (by omega)) ?_)))))))
  exact ex_53 rfl
theorem k_at_o {d : Nat} {G : am_G} {I : Nat → Nat → Int} {P : Nat → Nat → Option Nat} (hS : ST G P) {ρ : Nat → Int} {n : Nat} {cl : Nat → Cl} (hE : CE G I P 65 ρ n cl) {f : Nat} (hf : (f : Int) < ρ 1) {w : Int} (hw : ¬ (0 ≤ w ∧ w < 5)) : am_call am_B am_M (d + 2) 110 [(.inr (.inr (some 64))), (.inl (f : Int)), (.inl w)] (G, I, P) = some (some (.inl (-1)), (G, I, P)) := by
  have h0 := RW_n0 hE.2.1
  have h1 := RW_n1 hE.2.1
  have h3 := RW_n3 hE.2.1
  have h8 := RW_sm hE.2.1
  refine am_doL (L := [some (.inr (.inr (some 64))), some (.inl (f : Int)), some (.inl w)]) (Nat.le_of_ble_eq_true rfl) rfl ?_
  refine (ex_6_0 (ix_41r (sh_64 hS) (pt_64_0 hS) (ex_4_1 ?_)))
  have hb5 : ((0 : Int) ≤ (f : Int) ∧ ((f : Int) : Int) < ρ 1) := by omega
  refine (ix_46 (S' := [(.inl 1)]) rfl (sh_65 hS) (k_hasFolk_t hS cq65 hE.1 hb5) rfl rfl (ex_if1 (fun _ => ?_) (fun hc => by exfalso; revert hc; decide)))
  refine (ex_4_2 (ex_29o (by simp only [List.length_cons, List.length_nil]; omega) (ex_0 ?_)))
  exact ex_53 rfl
theorem k_asks_b {d : Nat} {G : am_G} {I : Nat → Nat → Int} {P : Nat → Nat → Option Nat} (hS : ST G P) {ρ : Nat → Int} {n : Nat} {cl : Nat → Cl} (hE : CE G I P 65 ρ n cl) {c f w : Int} (hb : ¬ ((0 ≤ c ∧ c < ρ 0) ∧ (0 ≤ f ∧ f < ρ 1))) : am_call am_B am_M (d + 5) 111 [(.inr (.inr (some 64))), (.inl c), (.inl f), (.inl w)] (G, I, P) = some (some (.inl (-1)), (G, I, P)) := by
  have h0 := RW_n0 hE.2.1
  have h1 := RW_n1 hE.2.1
  have h3 := RW_n3 hE.2.1
  have h8 := RW_sm hE.2.1
  refine am_doL (L := [some (.inr (.inr (some 64))), some (.inl c), some (.inl f), some (.inl w)]) (Nat.le_of_ble_eq_true rfl) rfl ?_
  refine (ex_6_0 (ix_41r (sh_64 hS) (pt_64_0 hS) (ex_4_1 ?_)))
  by_cases hb5 : ((0 : Int) ≤ c ∧ (c : Int) < ρ 0)
  · refine (ix_46 (S' := [(.inl 1)]) rfl (sh_65 hS) (k_hasCloud_t hS cq65 hE.1 hb5) rfl rfl (ex_if0 (fun hc => by exfalso; revert hc; decide) (fun _ => ?_)))
    refine (ex_6_0 (ix_41r (sh_64 hS) (pt_64_0 hS) (ex_4_2 ?_)))
    have hb16 : ¬ (((0 : Int) ≤ f ∧ (f : Int) < ρ 1)) := by omega
    refine (ix_46 (S' := [(.inl 0)]) rfl (sh_65 hS) (k_hasFolk_f hS cq65 hE.1 hb16) rfl rfl (ex_if1 (fun hc => by exfalso; revert hc; decide) (fun _ => ?_)))
    refine (ex_0 ?_)
    exact ex_53 rfl
  · refine (ix_46 (S' := [(.inl 0)]) rfl (sh_65 hS) (k_hasCloud_f hS cq65 hE.1 hb5) rfl rfl (ex_if0 (fun _ => ?_) (fun hc => by exfalso; revert hc; decide)))
    refine (ex_0 ?_)
    exact ex_53 rfl
theorem k_asks_o {d : Nat} {G : am_G} {I : Nat → Nat → Int} {P : Nat → Nat → Option Nat} (hS : ST G P) {ρ : Nat → Int} {n : Nat} {cl : Nat → Cl} (hE : CE G I P 65 ρ n cl) {c : Nat} (hc : (c : Int) < ρ 0) {f : Nat} (hf : (f : Int) < ρ 1) {w : Int} (hw : ¬ (0 ≤ w ∧ w < 3)) : am_call am_B am_M (d + 5) 111 [(.inr (.inr (some 64))), (.inl (c : Int)), (.inl (f : Int)), (.inl w)] (G, I, P) = some (some (.inl (-1)), (G, I, P)) := by
  have h0 := RW_n0 hE.2.1
  have h1 := RW_n1 hE.2.1
  have h3 := RW_n3 hE.2.1
  have h8 := RW_sm hE.2.1
  refine am_doL (L := [some (.inr (.inr (some 64))), some (.inl (c : Int)), some (.inl (f : Int)), some (.inl w)]) (Nat.le_of_ble_eq_true rfl) rfl ?_
  refine (ex_6_0 (ix_41r (sh_64 hS) (pt_64_0 hS) (ex_4_1 ?_)))
  have hb5 : ((0 : Int) ≤ (c : Int) ∧ ((c : Int) : Int) < ρ 0) := by omega
  refine (ix_46 (S' := [(.inl 1)]) rfl (sh_65 hS) (k_hasCloud_t hS cq65 hE.1 hb5) rfl rfl (ex_if0 (fun hc => by exfalso; revert hc; decide) (fun _ => ?_)))
  refine (ex_6_0 (ix_41r (sh_64 hS) (pt_64_0 hS) (ex_4_2 ?_)))
  have hb16 : ((0 : Int) ≤ (f : Int) ∧ ((f : Int) : Int) < ρ 1) := by omega
  refine (ix_46 (S' := [(.inl 1)]) rfl (sh_65 hS) (k_hasFolk_t hS cq65 hE.1 hb16) rfl rfl (ex_if1 (fun _ => ?_) (fun hc => by exfalso; revert hc; decide)))
  refine (ex_4_3 (ex_29o (by simp only [List.length_cons, List.length_nil]; omega) (ex_0 ?_)))
  exact ex_53 rfl
theorem k_asks_0 {d : Nat} {G : am_G} {I : Nat → Nat → Int} {P : Nat → Nat → Option Nat} (hS : ST G P) {ρ : Nat → Int} {n : Nat} {cl : Nat → Cl} (hE : CE G I P 65 ρ n cl) {c : Nat} (hc : (c : Int) < ρ 0) {f : Nat} (hf : (f : Int) < ρ 1) : ∃ I1, am_call am_B am_M (d + 5) 111 [(.inr (.inr (some 64))), (.inl (c : Int)), (.inl (f : Int)), (.inl 0)] (G, I, P) = some (some (.inl (m_told ρ n cl c f)), (G, I1, P)) ∧ (LF I I1) := by
  have h0 := RW_n0 hE.2.1
  have h1 := RW_n1 hE.2.1
  have h3 := RW_n3 hE.2.1
  have h8 := RW_sm hE.2.1
  have w : am_ex (am_call am_B am_M (d + 4)) (am_B 111) (am_B 111 0) [some (.inr (.inr (some 64))), some (.inl (c : Int)), some (.inl (f : Int)), some (.inl 0)] [] (G, I, P) (fun o => ∃ I1, o = (some (.inl (m_told ρ n cl c f)), (G, I1, P)) ∧ (LF I I1)) := by
    refine (ex_6_0 (ix_41r (sh_64 hS) (pt_64_0 hS) (ex_4_1 ?_)))
    have hb5 : ((0 : Int) ≤ (c : Int) ∧ ((c : Int) : Int) < ρ 0) := by omega
    refine (ix_46 (S' := [(.inl 1)]) rfl (sh_65 hS) (k_hasCloud_t hS cq65 hE.1 hb5) rfl rfl (ex_if0 (fun hc => by exfalso; revert hc; decide) (fun _ => ?_)))
    refine (ex_6_0 (ix_41r (sh_64 hS) (pt_64_0 hS) (ex_4_2 ?_)))
    have hb16 : ((0 : Int) ≤ (f : Int) ∧ ((f : Int) : Int) < ρ 1) := by omega
    refine (ix_46 (S' := [(.inl 1)]) rfl (sh_65 hS) (k_hasFolk_t hS cq65 hE.1 hb16) rfl rfl (ex_if1 (fun _ => ?_) (fun hc => by exfalso; revert hc; decide)))
    refine (ex_4_3 (ex_29i 0 rfl rfl (ex_6_0 (ix_41r (sh_64 hS) (pt_64_4 hS) (ex_6_0 (ix_41r (sh_64 hS) (pt_64_0 hS) (ex_4_1 (ex_4_2 ?_))))))))
    obtain ⟨K, eK, fK⟩ := k_told (d := d) hS cq65 hE (c1 := c) (f := f) (by omega) hf
    refine (ix_46 (S' := [(.inl (m_told ρ n cl c f))]) rfl (sh_88 hS) eK rfl rfl ?_)
    exact ex_53 ⟨_, rfl, fK⟩
  obtain ⟨o, e, I1, rfl, h⟩ := am_doQ (as := [(.inr (.inr (some 64))), (.inl (c : Int)), (.inl (f : Int)), (.inl 0)]) (Nat.le_of_ble_eq_true rfl) rfl w
  exact ⟨I1, e, h⟩
theorem k_asks_1 {d : Nat} {G : am_G} {I : Nat → Nat → Int} {P : Nat → Nat → Option Nat} (hS : ST G P) {ρ : Nat → Int} {n : Nat} {cl : Nat → Cl} (hE : CE G I P 65 ρ n cl) {c : Nat} (hc : (c : Int) < ρ 0) {f : Nat} (hf : (f : Int) < ρ 1) : ∃ I1, am_call am_B am_M (d + 5) 111 [(.inr (.inr (some 64))), (.inl (c : Int)), (.inl (f : Int)), (.inl 1)] (G, I, P) = some (some (.inl (m_soak ρ n cl c f)), (G, I1, P)) ∧ (LF I I1) := by
  have h0 := RW_n0 hE.2.1
  have h1 := RW_n1 hE.2.1
  have h3 := RW_n3 hE.2.1
  have h8 := RW_sm hE.2.1
  have w : am_ex (am_call am_B am_M (d + 4)) (am_B 111) (am_B 111 0) [some (.inr (.inr (some 64))), some (.inl (c : Int)), some (.inl (f : Int)), some (.inl 1)] [] (G, I, P) (fun o => ∃ I1, o = (some (.inl (m_soak ρ n cl c f)), (G, I1, P)) ∧ (LF I I1)) := by
    refine (ex_6_0 (ix_41r (sh_64 hS) (pt_64_0 hS) (ex_4_1 ?_)))
    have hb5 : ((0 : Int) ≤ (c : Int) ∧ ((c : Int) : Int) < ρ 0) := by omega
    refine (ix_46 (S' := [(.inl 1)]) rfl (sh_65 hS) (k_hasCloud_t hS cq65 hE.1 hb5) rfl rfl (ex_if0 (fun hc => by exfalso; revert hc; decide) (fun _ => ?_)))
    refine (ex_6_0 (ix_41r (sh_64 hS) (pt_64_0 hS) (ex_4_2 ?_)))
    have hb16 : ((0 : Int) ≤ (f : Int) ∧ ((f : Int) : Int) < ρ 1) := by omega
    refine (ix_46 (S' := [(.inl 1)]) rfl (sh_65 hS) (k_hasFolk_t hS cq65 hE.1 hb16) rfl rfl (ex_if1 (fun _ => ?_) (fun hc => by exfalso; revert hc; decide)))
    refine (ex_4_3 (ex_29i 1 rfl rfl (ex_6_0 (ix_41r (sh_64 hS) (pt_64_4 hS) (ex_6_0 (ix_41r (sh_64 hS) (pt_64_0 hS) (ex_4_1 (ex_4_2 ?_))))))))
    obtain ⟨K, eK, fK⟩ := k_soak (d := d) hS cq65 hE (c1 := c) (f := f) (by omega) hf
    refine (ix_46 (S' := [(.inl (m_soak ρ n cl c f))]) rfl (sh_88 hS) eK rfl rfl ?_)
    exact ex_53 ⟨_, rfl, fK⟩
  obtain ⟨o, e, I1, rfl, h⟩ := am_doQ (as := [(.inr (.inr (some 64))), (.inl (c : Int)), (.inl (f : Int)), (.inl 1)]) (Nat.le_of_ble_eq_true rfl) rfl w
  exact ⟨I1, e, h⟩
theorem k_asks_2f {d : Nat} {G : am_G} {I : Nat → Nat → Int} {P : Nat → Nat → Option Nat} (hS : ST G P) {ρ : Nat → Int} {n : Nat} {cl : Nat → Cl} (hE : CE G I P 65 ρ n cl) {c : Nat} (hc : (c : Int) < ρ 0) {f : Nat} (hf : (f : Int) < ρ 1) (hBN : BarN n cl) (hcan : ¬ m_can ρ n cl c f) : ∃ I1, am_call am_B am_M (d + 5) 111 [(.inr (.inr (some 64))), (.inl (c : Int)), (.inl (f : Int)), (.inl 2)] (G, I, P) = some (some (.inl 0), (G, I1, P)) ∧ (LF I I1) := by
  have h0 := RW_n0 hE.2.1
  have h1 := RW_n1 hE.2.1
  have h3 := RW_n3 hE.2.1
  have h8 := RW_sm hE.2.1
  have w : am_ex (am_call am_B am_M (d + 4)) (am_B 111) (am_B 111 0) [some (.inr (.inr (some 64))), some (.inl (c : Int)), some (.inl (f : Int)), some (.inl 2)] [] (G, I, P) (fun o => ∃ I1, o = (some (.inl 0), (G, I1, P)) ∧ (LF I I1)) := by
    refine (ex_6_0 (ix_41r (sh_64 hS) (pt_64_0 hS) (ex_4_1 ?_)))
    have hb5 : ((0 : Int) ≤ (c : Int) ∧ ((c : Int) : Int) < ρ 0) := by omega
    refine (ix_46 (S' := [(.inl 1)]) rfl (sh_65 hS) (k_hasCloud_t hS cq65 hE.1 hb5) rfl rfl (ex_if0 (fun hc => by exfalso; revert hc; decide) (fun _ => ?_)))
    refine (ex_6_0 (ix_41r (sh_64 hS) (pt_64_0 hS) (ex_4_2 ?_)))
    have hb16 : ((0 : Int) ≤ (f : Int) ∧ ((f : Int) : Int) < ρ 1) := by omega
    refine (ix_46 (S' := [(.inl 1)]) rfl (sh_65 hS) (k_hasFolk_t hS cq65 hE.1 hb16) rfl rfl (ex_if1 (fun _ => ?_) (fun hc => by exfalso; revert hc; decide)))
    refine (ex_4_3 (ex_29i 2 rfl rfl (ex_6_0 (ix_41r (sh_64 hS) (pt_64_4 hS) (ex_6_0 (ix_41r (sh_64 hS) (pt_64_0 hS) (ex_4_1 (ex_4_2 ?_))))))))
    obtain ⟨K, eK, fK⟩ := k_can_f (d := d) hS cq65 hE (c1 := c) (f := f) (by omega) hf hBN hcan
    refine (ix_46 (S' := [(.inl 0)]) rfl (sh_88 hS) eK rfl rfl (ex_if0 (fun _ => ?_) (fun hc => by exfalso; revert hc; decide)))
    refine (ex_0 (ex_58 ?_))
    exact ex_53 ⟨_, rfl, fK⟩
  obtain ⟨o, e, I1, rfl, h⟩ := am_doQ (as := [(.inr (.inr (some 64))), (.inl (c : Int)), (.inl (f : Int)), (.inl 2)]) (Nat.le_of_ble_eq_true rfl) rfl w
  exact ⟨I1, e, h⟩
theorem k_asks_2t {d : Nat} {G : am_G} {I : Nat → Nat → Int} {P : Nat → Nat → Option Nat} (hS : ST G P) {ρ : Nat → Int} {n : Nat} {cl : Nat → Cl} (hE : CE G I P 65 ρ n cl) {c : Nat} (hc : (c : Int) < ρ 0) {f : Nat} (hf : (f : Int) < ρ 1) (hBN : BarN n cl) (hcan : m_can ρ n cl c f) : ∃ I1, am_call am_B am_M (d + 5) 111 [(.inr (.inr (some 64))), (.inl (c : Int)), (.inl (f : Int)), (.inl 2)] (G, I, P) = some (some (.inl 1), (G, I1, P)) ∧ (LF I I1) := by
  have h0 := RW_n0 hE.2.1
  have h1 := RW_n1 hE.2.1
  have h3 := RW_n3 hE.2.1
  have h8 := RW_sm hE.2.1
  have w : am_ex (am_call am_B am_M (d + 4)) (am_B 111) (am_B 111 0) [some (.inr (.inr (some 64))), some (.inl (c : Int)), some (.inl (f : Int)), some (.inl 2)] [] (G, I, P) (fun o => ∃ I1, o = (some (.inl 1), (G, I1, P)) ∧ (LF I I1)) := by
    refine (ex_6_0 (ix_41r (sh_64 hS) (pt_64_0 hS) (ex_4_1 ?_)))
    have hb5 : ((0 : Int) ≤ (c : Int) ∧ ((c : Int) : Int) < ρ 0) := by omega
    refine (ix_46 (S' := [(.inl 1)]) rfl (sh_65 hS) (k_hasCloud_t hS cq65 hE.1 hb5) rfl rfl (ex_if0 (fun hc => by exfalso; revert hc; decide) (fun _ => ?_)))
    refine (ex_6_0 (ix_41r (sh_64 hS) (pt_64_0 hS) (ex_4_2 ?_)))
    have hb16 : ((0 : Int) ≤ (f : Int) ∧ ((f : Int) : Int) < ρ 1) := by omega
    refine (ix_46 (S' := [(.inl 1)]) rfl (sh_65 hS) (k_hasFolk_t hS cq65 hE.1 hb16) rfl rfl (ex_if1 (fun _ => ?_) (fun hc => by exfalso; revert hc; decide)))
    refine (ex_4_3 (ex_29i 2 rfl rfl (ex_6_0 (ix_41r (sh_64 hS) (pt_64_4 hS) (ex_6_0 (ix_41r (sh_64 hS) (pt_64_0 hS) (ex_4_1 (ex_4_2 ?_))))))))
    obtain ⟨K, eK, fK⟩ := k_can_t (d := d) hS cq65 hE (c1 := c) (f := f) (by omega) hf hBN hcan
    refine (ix_46 (S' := [(.inl 1)]) rfl (sh_88 hS) eK rfl rfl (ex_if0 (fun hc => by exfalso; revert hc; decide) (fun _ => ?_)))
    refine (ex_0 (ex_28 ?_))
    exact ex_53 ⟨_, rfl, fK⟩
  obtain ⟨o, e, I1, rfl, h⟩ := am_doQ (as := [(.inr (.inr (some 64))), (.inl (c : Int)), (.inl (f : Int)), (.inl 2)]) (Nat.le_of_ble_eq_true rfl) rfl w
  exact ⟨I1, e, h⟩
theorem k_box_b {d : Nat} {G : am_G} {I : Nat → Nat → Int} {P : Nat → Nat → Option Nat} (hS : ST G P) {ρ : Nat → Int} {n : Nat} {cl : Nat → Cl} (hE : CE G I P 65 ρ n cl) {b w : Int} (hb : ¬ ((0 ≤ b ∧ b < 6) ∧ (0 ≤ w ∧ w ≤ 7))) : am_call am_B am_M (d + 3) 113 [(.inr (.inr (some 64))), (.inl b), (.inl w)] (G, I, P) = some (some (.inl (-1)), (G, I, P)) := by
  have h0 := RW_n0 hE.2.1
  have h1 := RW_n1 hE.2.1
  have h3 := RW_n3 hE.2.1
  have h8 := RW_sm hE.2.1
  refine am_doL (L := [some (.inr (.inr (some 64))), some (.inl b), some (.inl w)]) (Nat.le_of_ble_eq_true rfl) rfl ?_
  refine (ex_4_1 ?_)
  by_cases hb1 : ((0 : Int) ≤ b ∧ (b : Int) < 6)
  · refine (ix_45 (S' := [(.inl 1)]) rfl (k_isBox_t hb1) rfl rfl (ex_if1 (fun _ => ?_) (fun hc => by exfalso; revert hc; decide)))
    refine (ex_4_2 ?_)
    refine ex_if1 (fun hc10 => ?_) (fun hc10 => by exfalso; omega)
    refine (ex_4_2 (ex_0 ?_))
    refine ex_ic1 (fun hc30 => ?_) (fun hc30 => by exfalso; omega)
    refine (ex_4_2 (ex_0 ?_))
    have hb64 : ¬ (((0 : Int) ≤ w ∧ (w : Int) ≤ 7)) := by omega
    refine (ix_45 (S' := [(.inl 0)]) rfl (k_isWithin_f hb64) rfl rfl (ex_if0 (fun _ => ?_) (fun hc => by exfalso; revert hc; decide)))
    refine (ex_0 (ex_58 ?_))
    exact ex_53 rfl
  · refine (ix_45 (S' := [(.inl 0)]) rfl (k_isBox_f hb1) rfl rfl (ex_if1 (fun hc => by exfalso; revert hc; decide) (fun _ => ?_)))
    refine (ex_0 ?_)
    exact ex_53 rfl
theorem k_box_0 {d : Nat} {G : am_G} {I : Nat → Nat → Int} {P : Nat → Nat → Option Nat} (hS : ST G P) {ρ : Nat → Int} {n : Nat} {cl : Nat → Cl} (hE : CE G I P 65 ρ n cl) {b : Nat} (hb : b < 6) : am_call am_B am_M (d + 3) 113 [(.inr (.inr (some 64))), (.inl (b : Int)), (.inl 0)] (G, I, P) = some (some (.inl (((ρ 8).toNat >>> b &&& 1 : Nat) : Int)), (G, I, P)) := by
  have h0 := RW_n0 hE.2.1
  have h1 := RW_n1 hE.2.1
  have h3 := RW_n3 hE.2.1
  have h8 := RW_sm hE.2.1
  refine am_doL (L := [some (.inr (.inr (some 64))), some (.inl (b : Int)), some (.inl 0)]) (Nat.le_of_ble_eq_true rfl) rfl ?_
  refine (ex_4_1 ?_)
  have hb1 : ((0 : Int) ≤ (b : Int) ∧ ((b : Int) : Int) < 6) := by omega
  refine (ix_45 (S' := [(.inl 1)]) rfl (k_isBox_t hb1) rfl rfl (ex_if1 (fun _ => ?_) (fun hc => by exfalso; revert hc; decide)))
  refine (ex_4_2 (ex_if1 (fun hc => by exfalso; revert hc; decide) (fun _ => ?_)))
  refine (ex_6_0 (ix_41r (sh_64 hS) (pt_64_0 hS) (ix_41r (sh_65 hS) (pt_65_0 hS) (ix_41i (v := ((ρ 8).toNat : Int)) (sh_66 hS) ((CC_sm hE.1).trans (Int.toNat_of_nonneg h8.1).symm) (ex_4_1 (ex_11e (am_shr (a := (ρ 8).toNat) (k := b) (by omega) (by omega)) (ex_0 (ex_11e (am_and (a := ((ρ 8).toNat >>> b)) (b := 1) (Nat.lt_of_le_of_lt (Nat.shiftRight_le _ _) (by omega)) (by decide)) ?_))))))))
  exact ex_53 rfl
theorem k_box_r {d : Nat} {G : am_G} {I : Nat → Nat → Int} {P : Nat → Nat → Option Nat} (hS : ST G P) {ρ : Nat → Int} {n : Nat} {cl : Nat → Cl} (hE : CE G I P 65 ρ n cl) {b o : Nat} (hb : b < 6) (ho : o < 6) : am_call am_B am_M (d + 3) 113 [(.inr (.inr (some 64))), (.inl (b : Int)), (.inl ((o : Int) + 2))] (G, I, P) = some (some (.inl (ρ (52 + 6 * b + o))), (G, I, P)) := by
  have h0 := RW_n0 hE.2.1
  have h1 := RW_n1 hE.2.1
  have h3 := RW_n3 hE.2.1
  have h8 := RW_sm hE.2.1
  refine am_doL (L := [some (.inr (.inr (some 64))), some (.inl (b : Int)), some (.inl ((o : Int) + 2))]) (Nat.le_of_ble_eq_true rfl) rfl ?_
  refine (ex_4_1 ?_)
  have hb1 : ((0 : Int) ≤ (b : Int) ∧ ((b : Int) : Int) < 6) := by omega
  refine (ix_45 (S' := [(.inl 1)]) rfl (k_isBox_t hb1) rfl rfl (ex_if1 (fun _ => ?_) (fun hc => by exfalso; revert hc; decide)))
  refine (ex_4_2 ?_)
  refine ex_if1 (fun hc10 => ?_) (fun hc10 => by exfalso; omega)
  refine (ex_4_2 (ex_0 ?_))
  refine ex_ic1 (fun hc30 => ?_) (fun hc30 => by exfalso; omega)
  refine (ex_4_2 (ex_0 ?_))
  have hb64 : ((0 : Int) ≤ ((o : Int) + 2) ∧ (((o : Int) + 2) : Int) ≤ 7) := by omega
  refine (ix_45 (S' := [(.inl 1)]) rfl (k_isWithin_t hb64) rfl rfl (ex_if0 (fun hc => by exfalso; revert hc; decide) (fun _ => ?_)))
  refine (ex_6_0 (ix_41r (sh_64 hS) (pt_64_0 hS) (ix_41r (sh_65 hS) (pt_65_0 hS) (ex_4_1 (ex_4_2 (ex_0 (ex_sub ⟨by omega, by omega⟩ (ix_46 (S' := [(.inl (ρ (52 + 6 * b + o)))]) rfl (sh_66 hS) (show am_call _ _ _ 75 [.inr (.inr (some 66)), .inl (b : Int), .inl ((o : Int) + 2 - 2)] (G, I, P) = _ by rw [show (o : Int) + 2 - 2 = (o : Int) by omega]; exact k_long hS cq65 hE.1 (b := b) (o := o) hb ho) rfl rfl (ex_28 ?_)))))))))
  exact ex_53 rfl
theorem k_wrong {d : Nat} {G : am_G} {I : Nat → Nat → Int} {P : Nat → Nat → Option Nat} (hS : ST G P) : am_call am_B am_M (d + 1) 118 [(.inr (.inr (some 64)))] (G, I, P) = some (some (.inl (I 64 15)), (G, I, P)) := by
  refine am_doL (L := [some (.inr (.inr (some 64)))]) (Nat.le_of_ble_eq_true rfl) rfl ?_
  refine (ex_6_0 (ix_41i (v := (I 64 15)) (sh_64 hS) rfl ?_))
  exact ex_53 rfl
theorem k_fault {d : Nat} {G : am_G} {I : Nat → Nat → Int} {P : Nat → Nat → Option Nat} (hS : ST G P) : am_call am_B am_M (d + 1) 121 [(.inr (.inr (some 64)))] (G, I, P) = some (some (.inl (I 64 14)), (G, I, P)) := by
  refine am_doL (L := [some (.inr (.inr (some 64)))]) (Nat.le_of_ble_eq_true rfl) rfl ?_
  refine (ex_6_0 (ix_41i (v := (I 64 14)) (sh_64 hS) rfl ?_))
  exact ex_53 rfl
theorem k_stopped {d : Nat} {G : am_G} {I : Nat → Nat → Int} {P : Nat → Nat → Option Nat} (hS : ST G P) : am_call am_B am_M (d + 1) 122 [(.inr (.inr (some 64)))] (G, I, P) = some (some (.inl (I 92 7)), (G, I, P)) := by
  refine am_doL (L := [some (.inr (.inr (some 64)))]) (Nat.le_of_ble_eq_true rfl) rfl ?_
  refine (ex_6_0 (ix_41r (sh_64 hS) (pt_64_6 hS) (ix_41i (v := (I 92 7)) (sh_92 hS) rfl ?_)))
  exact ex_53 rfl
theorem k_status {d : Nat} {G : am_G} {I : Nat → Nat → Int} {P : Nat → Nat → Option Nat} (hS : ST G P) : am_call am_B am_M (d + 1) 150 [(.inr (.inr (some 64)))] (G, I, P) = some (some (.inl (I 64 16)), (G, I, P)) := by
  refine am_doL (L := [some (.inr (.inr (some 64)))]) (Nat.le_of_ble_eq_true rfl) rfl ?_
  refine (ex_6_0 (ix_41i (v := (I 64 16)) (sh_64 hS) rfl ?_))
  exact ex_53 rfl
theorem k_box_1 {d : Nat} {G : am_G} {I : Nat → Nat → Int} {P : Nat → Nat → Option Nat} (hS : ST G P) {ρ : Nat → Int} {n : Nat} {cl : Nat → Cl} (hE : CE G I P 65 ρ n cl) {b : Nat} (hb : b < 6) : am_call am_B am_M (d + 3) 113 [(.inr (.inr (some 64))), (.inl (b : Int)), (.inl 1)] (G, I, P) = some (some (.inl ((m_comes ρ b (wh (ρ 8).toNat) &&& (m_comes ρ b (wh (ρ 8).toNat) ^^^ 2 ^ b) : Nat) : Int)), (G, I, P)) := by
  have h0 := RW_n0 hE.2.1
  have h1 := RW_n1 hE.2.1
  have h3 := RW_n3 hE.2.1
  have h8 := RW_sm hE.2.1
  have hwh := wh_lt (s := (ρ 8).toNat)
  have hcm := m_comes_lt (ρ := ρ) (from_ := b) (over := wh (ρ 8).toNat) hb
  refine am_doL (L := [some (.inr (.inr (some 64))), some (.inl (b : Int)), some (.inl 1)]) (Nat.le_of_ble_eq_true rfl) rfl ?_
  refine (ex_4_1 ?_)
  have hb1 : ((0 : Int) ≤ (b : Int) ∧ ((b : Int) : Int) < 6) := by omega
  refine (ix_45 (S' := [(.inl 1)]) rfl (k_isBox_t hb1) rfl rfl (ex_if1 (fun _ => ?_) (fun hc => by exfalso; revert hc; decide)))
  refine (ex_4_2 (ex_if1 (fun _ => ?_) (fun hc => by exfalso; revert hc; decide)))
  refine (ex_4_2 (ex_0 (ex_ic1 (fun hc => by exfalso; revert hc; decide) (fun _ => ?_))))
  refine (ex_6_0 (ix_41r (sh_64 hS) (pt_64_0 hS) (ix_41r (sh_65 hS) (pt_65_0 hS) (ex_4_1 (ex_6_0 (ix_41r (sh_64 hS) (pt_64_0 hS) (ix_41r (sh_65 hS) (pt_65_0 hS) (ix_46 (S' := [(.inl ((wh (ρ 8).toNat : Nat) : Int)), (.inl (b : Int)), (.inr (.inr (some 66)))]) rfl (sh_66 hS) (k_standing hS cq65 hE.1 h8) rfl rfl (ix_46 (S' := [(.inl ((m_comes ρ b (wh (ρ 8).toNat) : Nat) : Int))]) rfl (sh_66 hS) (k_reach_e hS cq65 hE.1 (fr := b) (al := wh (ρ 8).toNat) hb hwh) rfl rfl (ex_0 (ex_4_1 (ex_11e (am_shl1 (k := b) (by omega)) (ex_0 (ex_11e (am_not (a := (2 ^ b)) (Nat.pow_lt_pow_right (by decide) (by omega))) (ex_11e (am_andn (a := (m_comes ρ b (wh (ρ 8).toNat))) (b := (2 ^ b)) (Nat.lt_trans hcm (by decide)) (Nat.pow_lt_pow_right (by decide) (by omega))) ?_)))))))))))))))
  exact ex_53 rfl
theorem k_where_b {d : Nat} {G : am_G} {I : Nat → Nat → Int} {P : Nat → Nat → Option Nat} (hS : ST G P) {ρ : Nat → Int} {n : Nat} {cl : Nat → Cl} (hE : CE G I P 65 ρ n cl) {c k : Int} (hb : ¬ ((0 ≤ c ∧ c < ρ 0) ∧ (0 ≤ k ∧ k ≤ 60))) : am_call am_B am_M (d + 6) 129 [(.inr (.inr (some 64))), (.inl c), (.inl k)] (G, I, P) = some (some (.inl (-1)), (G, I, P)) := by
  have h0 := RW_n0 hE.2.1
  have h1 := RW_n1 hE.2.1
  have h3 := RW_n3 hE.2.1
  have h8 := RW_sm hE.2.1
  refine am_doL (L := [some (.inr (.inr (some 64))), some (.inl c), some (.inl k)]) (Nat.le_of_ble_eq_true rfl) rfl ?_
  refine (ex_6_0 (ix_41r (sh_64 hS) (pt_64_0 hS) (ex_4_1 ?_)))
  by_cases hb5 : ((0 : Int) ≤ c ∧ (c : Int) < ρ 0)
  · refine (ix_46 (S' := [(.inl 1)]) rfl (sh_65 hS) (k_hasCloud_t hS cq65 hE.1 hb5) rfl rfl (ex_if0 (fun hc => by exfalso; revert hc; decide) (fun _ => ?_)))
    refine (ex_4_2 (ex_0 ?_))
    have hb14 : ¬ (((0 : Int) ≤ k ∧ (k : Int) ≤ 60)) := by omega
    refine (ix_45 (S' := [(.inl 0)]) rfl (k_isWithin_f hb14) rfl rfl (ex_if0 (fun _ => ?_) (fun hc => by exfalso; revert hc; decide)))
    refine (ex_0 (ex_58 ?_))
    exact ex_53 rfl
  · refine (ix_46 (S' := [(.inl 0)]) rfl (sh_65 hS) (k_hasCloud_f hS cq65 hE.1 hb5) rfl rfl (ex_if0 (fun _ => ?_) (fun hc => by exfalso; revert hc; decide)))
    refine (ex_0 (ex_58 ?_))
    exact ex_53 rfl
theorem k_wherec {d : Nat} {G : am_G} {I : Nat → Nat → Int} {P : Nat → Nat → Option Nat} (hS : ST G P) {ρ : Nat → Int} {n : Nat} {cl : Nat → Cl} (hE : CE G I P 65 ρ n cl) (hN : TN G P 65) (h59 : ρ 5 ≤ 999) {c k : Nat} (hc : (c : Int) < ρ 0) (hk : k ≤ 60) : ∃ I1 P1, am_call am_B am_M (d + 6) 129 [(.inr (.inr (some 64))), (.inl (c : Int)), (.inl (k : Int))] (G, I, P) = some (some (.inl (m_pN ρ n cl k (9 + c))), (G, I1, P1)) ∧ (ST G P1 ∧ PF2 I I1 ∧ PP2 P P1) := by
  have h0 := RW_n0 hE.2.1
  have h1 := RW_n1 hE.2.1
  have h3 := RW_n3 hE.2.1
  have h8 := RW_sm hE.2.1
  have w : am_ex (am_call am_B am_M (d + 5)) (am_B 129) (am_B 129 0) [some (.inr (.inr (some 64))), some (.inl (c : Int)), some (.inl (k : Int))] [] (G, I, P) (fun o => ∃ I1 P1, o = (some (.inl (m_pN ρ n cl k (9 + c))), (G, I1, P1)) ∧ (ST G P1 ∧ PF2 I I1 ∧ PP2 P P1)) := by
    refine (ex_6_0 (ix_41r (sh_64 hS) (pt_64_0 hS) (ex_4_1 ?_)))
    have hb5 : ((0 : Int) ≤ (c : Int) ∧ ((c : Int) : Int) < ρ 0) := by omega
    refine (ix_46 (S' := [(.inl 1)]) rfl (sh_65 hS) (k_hasCloud_t hS cq65 hE.1 hb5) rfl rfl (ex_if0 (fun hc => by exfalso; revert hc; decide) (fun _ => ?_)))
    refine (ex_4_2 (ex_0 ?_))
    have hb14 : ((0 : Int) ≤ (k : Int) ∧ ((k : Int) : Int) ≤ 60) := by omega
    refine (ix_45 (S' := [(.inl 1)]) rfl (k_isWithin_t hb14) rfl rfl (ex_if0 (fun hc => by exfalso; revert hc; decide) (fun _ => ?_)))
    refine (ex_6_0 (ix_41r (sh_64 hS) (pt_64_8 hS) (ex_6_0 (ix_41r (sh_64 hS) (pt_64_0 hS) (ex_4_1 (ex_4_2 ?_))))))
    obtain ⟨K, Pk, eK, hK⟩ := k_where (d := d) hS hE hN h59 (c1 := c) (k := k) (by omega) hk
    refine (ix_46 (S' := [(.inl (m_pN ρ n cl k (9 + c)))]) rfl (sh_121 hS) eK rfl rfl (ex_28 ?_))
    exact ex_53 ⟨_, _, rfl, hK⟩
  obtain ⟨o, e, I1, P1, rfl, h⟩ := am_doQ (as := [(.inr (.inr (some 64))), (.inl (c : Int)), (.inl (k : Int))]) (Nat.le_of_ble_eq_true rfl) rfl w
  exact ⟨I1, P1, e, h⟩
theorem k_first_b {d : Nat} {G : am_G} {I : Nat → Nat → Int} {P : Nat → Nat → Option Nat} (hS : ST G P) {ρ : Nat → Int} {n : Nat} {cl : Nat → Cl} (hE : CE G I P 65 ρ n cl) {b w : Int} (hb : ¬ ((0 ≤ b ∧ b < 6) ∧ (0 ≤ w ∧ w ≤ 1))) : am_call am_B am_M (d + 6) 130 [(.inr (.inr (some 64))), (.inl b), (.inl w)] (G, I, P) = some (some (.inl (-1)), (G, I, P)) := by
  have h0 := RW_n0 hE.2.1
  have h1 := RW_n1 hE.2.1
  have h3 := RW_n3 hE.2.1
  have h8 := RW_sm hE.2.1
  refine am_doL (L := [some (.inr (.inr (some 64))), some (.inl b), some (.inl w)]) (Nat.le_of_ble_eq_true rfl) rfl ?_
  refine (ex_4_1 ?_)
  by_cases hb1 : ((0 : Int) ≤ b ∧ (b : Int) < 6)
  · refine (ix_45 (S' := [(.inl 1)]) rfl (k_isBox_t hb1) rfl rfl (ex_if0 (fun hc => by exfalso; revert hc; decide) (fun _ => ?_)))
    refine (ex_4_2 (ex_0 ?_))
    have hb9 : ¬ (((0 : Int) ≤ w ∧ (w : Int) ≤ 1)) := by omega
    refine (ix_45 (S' := [(.inl 0)]) rfl (k_isWithin_f hb9) rfl rfl (ex_if0 (fun _ => ?_) (fun hc => by exfalso; revert hc; decide)))
    refine (ex_0 (ex_58 ?_))
    exact ex_53 rfl
  · refine (ix_45 (S' := [(.inl 0)]) rfl (k_isBox_f hb1) rfl rfl (ex_if0 (fun _ => ?_) (fun hc => by exfalso; revert hc; decide)))
    refine (ex_0 (ex_58 ?_))
    exact ex_53 rfl
theorem k_firstc_0 {d : Nat} {G : am_G} {I : Nat → Nat → Int} {P : Nat → Nat → Option Nat} (hS : ST G P) {ρ : Nat → Int} {n : Nat} {cl : Nat → Cl} (hE : CE G I P 65 ρ n cl) (hN : TN G P 65) (h59 : ρ 5 ≤ 999) {b : Int} (hb : 0 ≤ b ∧ b < 6) : ∃ I1 P1, am_call am_B am_M (d + 6) 130 [(.inr (.inr (some 64))), (.inl b), (.inl 0)] (G, I, P) = some (some (.inl (if 60 < m_first ρ n cl b then -1 else (m_first ρ n cl b : Int))), (G, I1, P1)) ∧ (ST G P1 ∧ PF2 I I1 ∧ PP2 P P1) := by
  have h0 := RW_n0 hE.2.1
  have h1 := RW_n1 hE.2.1
  have h3 := RW_n3 hE.2.1
  have h8 := RW_sm hE.2.1
  have w : am_ex (am_call am_B am_M (d + 5)) (am_B 130) (am_B 130 0) [some (.inr (.inr (some 64))), some (.inl b), some (.inl 0)] [] (G, I, P) (fun o => ∃ I1 P1, o = (some (.inl (if 60 < m_first ρ n cl b then -1 else (m_first ρ n cl b : Int))), (G, I1, P1)) ∧ (ST G P1 ∧ PF2 I I1 ∧ PP2 P P1)) := by
    refine (ex_4_1 ?_)
    have hb1 : ((0 : Int) ≤ b ∧ (b : Int) < 6) := by omega
    refine (ix_45 (S' := [(.inl 1)]) rfl (k_isBox_t hb1) rfl rfl (ex_if0 (fun hc => by exfalso; revert hc; decide) (fun _ => ?_)))
    refine (ex_4_2 (ex_0 ?_))
    have hb9 : ((0 : Int) ≤ 0 ∧ (0 : Int) ≤ 1) := by omega
    refine (ix_45 (S' := [(.inl 1)]) rfl (k_isWithin_t hb9) rfl rfl (ex_if0 (fun hc => by exfalso; revert hc; decide) (fun _ => ?_)))
    refine (ex_6_0 (ix_41r (sh_64 hS) (pt_64_8 hS) (ex_6_0 (ix_41r (sh_64 hS) (pt_64_0 hS) (ex_4_1 (ex_4_2 (ex_0 (ex_ic1 (fun _ => ?_) (fun hc => by exfalso; revert hc; decide)))))))))
    refine (ex_0 (ex_58 ?_))
    obtain ⟨K, Pk, eK, hK⟩ := k_first_0 (d := d) hS hE hN h59 (b := b)
    refine (ix_46 (S' := [(.inl (if 60 < m_first ρ n cl b then -1 else (m_first ρ n cl b : Int)))]) rfl (sh_121 hS) eK rfl rfl (ex_28 ?_))
    exact ex_53 ⟨_, _, rfl, hK⟩
  obtain ⟨o, e, I1, P1, rfl, h⟩ := am_doQ (as := [(.inr (.inr (some 64))), (.inl b), (.inl 0)]) (Nat.le_of_ble_eq_true rfl) rfl w
  exact ⟨I1, P1, e, h⟩
theorem k_firstc_1 {d : Nat} {G : am_G} {I : Nat → Nat → Int} {P : Nat → Nat → Option Nat} (hS : ST G P) {ρ : Nat → Int} {n : Nat} {cl : Nat → Cl} (hE : CE G I P 65 ρ n cl) (hN : TN G P 65) (h59 : ρ 5 ≤ 999) {b : Int} (hb : 0 ≤ b ∧ b < 6) : ∃ I1 P1, am_call am_B am_M (d + 6) 130 [(.inr (.inr (some 64))), (.inl b), (.inl 1)] (G, I, P) = some (some (.inl (if 60 < m_first ρ n cl b then -1 else m_cloudIn (m_pN ρ n cl (m_first ρ n cl b)) (ρ 0).toNat b)), (G, I1, P1)) ∧ (ST G P1 ∧ PF2 I I1 ∧ PP2 P P1) := by
  have h0 := RW_n0 hE.2.1
  have h1 := RW_n1 hE.2.1
  have h3 := RW_n3 hE.2.1
  have h8 := RW_sm hE.2.1
  have w : am_ex (am_call am_B am_M (d + 5)) (am_B 130) (am_B 130 0) [some (.inr (.inr (some 64))), some (.inl b), some (.inl 1)] [] (G, I, P) (fun o => ∃ I1 P1, o = (some (.inl (if 60 < m_first ρ n cl b then -1 else m_cloudIn (m_pN ρ n cl (m_first ρ n cl b)) (ρ 0).toNat b)), (G, I1, P1)) ∧ (ST G P1 ∧ PF2 I I1 ∧ PP2 P P1)) := by
    refine (ex_4_1 ?_)
    have hb1 : ((0 : Int) ≤ b ∧ (b : Int) < 6) := by omega
    refine (ix_45 (S' := [(.inl 1)]) rfl (k_isBox_t hb1) rfl rfl (ex_if0 (fun hc => by exfalso; revert hc; decide) (fun _ => ?_)))
    refine (ex_4_2 (ex_0 ?_))
    have hb9 : ((0 : Int) ≤ 1 ∧ (1 : Int) ≤ 1) := by omega
    refine (ix_45 (S' := [(.inl 1)]) rfl (k_isWithin_t hb9) rfl rfl (ex_if0 (fun hc => by exfalso; revert hc; decide) (fun _ => ?_)))
    refine (ex_6_0 (ix_41r (sh_64 hS) (pt_64_8 hS) (ex_6_0 (ix_41r (sh_64 hS) (pt_64_0 hS) (ex_4_1 (ex_4_2 (ex_0 (ex_ic1 (fun hc => by exfalso; revert hc; decide) (fun _ => ?_)))))))))
    refine (ex_0 (ex_28 ?_))
    obtain ⟨K, Pk, eK, hK⟩ := k_first_1 (d := d) hS hE hN h59 (b := b)
    refine (ix_46 (S' := [(.inl (if 60 < m_first ρ n cl b then -1 else m_cloudIn (m_pN ρ n cl (m_first ρ n cl b)) (ρ 0).toNat b))]) rfl (sh_121 hS) eK rfl rfl (ex_28 ?_))
    exact ex_53 ⟨_, _, rfl, hK⟩
  obtain ⟨o, e, I1, P1, rfl, h⟩ := am_doQ (as := [(.inr (.inr (some 64))), (.inl b), (.inl 1)]) (Nat.le_of_ble_eq_true rfl) rfl w
  exact ⟨I1, P1, e, h⟩
theorem k_meet_b {d : Nat} {G : am_G} {I : Nat → Nat → Int} {P : Nat → Nat → Option Nat} (hS : ST G P) {ρ : Nat → Int} {n : Nat} {cl : Nat → Cl} (hE : CE G I P 65 ρ n cl) {a b : Int} (hb : ¬ ((0 ≤ a ∧ a < ρ 0) ∧ (0 ≤ b ∧ b < ρ 0) ∧ ¬ a = b)) : am_call am_B am_M (d + 6) 131 [(.inr (.inr (some 64))), (.inl a), (.inl b)] (G, I, P) = some (some (.inl (-1)), (G, I, P)) := by
  have h0 := RW_n0 hE.2.1
  have h1 := RW_n1 hE.2.1
  have h3 := RW_n3 hE.2.1
  have h8 := RW_sm hE.2.1
  refine am_doL (L := [some (.inr (.inr (some 64))), some (.inl a), some (.inl b)]) (Nat.le_of_ble_eq_true rfl) rfl ?_
  refine (ex_6_0 (ix_41r (sh_64 hS) (pt_64_0 hS) (ex_4_1 ?_)))
  by_cases hb5 : ((0 : Int) ≤ a ∧ (a : Int) < ρ 0)
  · refine (ix_46 (S' := [(.inl 1)]) rfl (sh_65 hS) (k_hasCloud_t hS cq65 hE.1 hb5) rfl rfl (ex_if0 (fun hc => by exfalso; revert hc; decide) (fun _ => ?_)))
    refine (ex_6_0 (ix_41r (sh_64 hS) (pt_64_0 hS) (ex_4_2 ?_)))
    by_cases hb16 : ((0 : Int) ≤ b ∧ (b : Int) < ρ 0)
    · refine (ix_46 (S' := [(.inl 1)]) rfl (sh_65 hS) (k_hasCloud_t hS cq65 hE.1 hb16) rfl rfl (ex_if0 (fun hc => by exfalso; revert hc; decide) (fun _ => ?_)))
      refine (ex_4_1 (ex_4_2 ?_))
      refine ex_ic0 (fun hc24 => ?_) (fun hc24 => by exfalso; omega)
      refine (ex_0 (ex_58 ?_))
      exact ex_53 rfl
    · refine (ix_46 (S' := [(.inl 0)]) rfl (sh_65 hS) (k_hasCloud_f hS cq65 hE.1 hb16) rfl rfl (ex_if0 (fun _ => ?_) (fun hc => by exfalso; revert hc; decide)))
      refine (ex_0 (ex_58 ?_))
      exact ex_53 rfl
  · refine (ix_46 (S' := [(.inl 0)]) rfl (sh_65 hS) (k_hasCloud_f hS cq65 hE.1 hb5) rfl rfl (ex_if0 (fun _ => ?_) (fun hc => by exfalso; revert hc; decide)))
    refine (ex_0 (ex_58 ?_))
    exact ex_53 rfl
theorem k_meetc {d : Nat} {G : am_G} {I : Nat → Nat → Int} {P : Nat → Nat → Option Nat} (hS : ST G P) {ρ : Nat → Int} {n : Nat} {cl : Nat → Cl} (hE : CE G I P 65 ρ n cl) (hN : TN G P 65) (h59 : ρ 5 ≤ 999) {a b : Nat} (ha : (a : Int) < ρ 0) (hb : (b : Int) < ρ 0) (hab : ¬ a = b) : ∃ I1 P1, am_call am_B am_M (d + 6) 131 [(.inr (.inr (some 64))), (.inl (a : Int)), (.inl (b : Int))] (G, I, P) = some (some (.inl (if 60 < m_meet ρ n cl a b then -1 else (m_meet ρ n cl a b : Int))), (G, I1, P1)) ∧ (ST G P1 ∧ PF2 I I1 ∧ PP2 P P1) := by
  have h0 := RW_n0 hE.2.1
  have h1 := RW_n1 hE.2.1
  have h3 := RW_n3 hE.2.1
  have h8 := RW_sm hE.2.1
  have w : am_ex (am_call am_B am_M (d + 5)) (am_B 131) (am_B 131 0) [some (.inr (.inr (some 64))), some (.inl (a : Int)), some (.inl (b : Int))] [] (G, I, P) (fun o => ∃ I1 P1, o = (some (.inl (if 60 < m_meet ρ n cl a b then -1 else (m_meet ρ n cl a b : Int))), (G, I1, P1)) ∧ (ST G P1 ∧ PF2 I I1 ∧ PP2 P P1)) := by
    refine (ex_6_0 (ix_41r (sh_64 hS) (pt_64_0 hS) (ex_4_1 ?_)))
    have hb5 : ((0 : Int) ≤ (a : Int) ∧ ((a : Int) : Int) < ρ 0) := by omega
    refine (ix_46 (S' := [(.inl 1)]) rfl (sh_65 hS) (k_hasCloud_t hS cq65 hE.1 hb5) rfl rfl (ex_if0 (fun hc => by exfalso; revert hc; decide) (fun _ => ?_)))
    refine (ex_6_0 (ix_41r (sh_64 hS) (pt_64_0 hS) (ex_4_2 ?_)))
    have hb16 : ((0 : Int) ≤ (b : Int) ∧ ((b : Int) : Int) < ρ 0) := by omega
    refine (ix_46 (S' := [(.inl 1)]) rfl (sh_65 hS) (k_hasCloud_t hS cq65 hE.1 hb16) rfl rfl (ex_if0 (fun hc => by exfalso; revert hc; decide) (fun _ => ?_)))
    refine (ex_4_1 (ex_4_2 ?_))
    refine ex_ic0 (fun hc24 => by exfalso; omega) (fun hc24 => ?_)
    refine (ex_6_0 (ix_41r (sh_64 hS) (pt_64_8 hS) (ex_6_0 (ix_41r (sh_64 hS) (pt_64_0 hS) (ex_4_1 (ex_4_2 ?_))))))
    obtain ⟨K, Pk, eK, hK⟩ := k_meet (d := d) hS hE hN h59 (a := a) (b := b) (by omega) (by omega)
    refine (ix_46 (S' := [(.inl (if 60 < m_meet ρ n cl a b then -1 else (m_meet ρ n cl a b : Int)))]) rfl (sh_121 hS) eK rfl rfl (ex_28 ?_))
    exact ex_53 ⟨_, _, rfl, hK⟩
  obtain ⟨o, e, I1, P1, rfl, h⟩ := am_doQ (as := [(.inr (.inr (some 64))), (.inl (a : Int)), (.inl (b : Int))]) (Nat.le_of_ble_eq_true rfl) rfl w
  exact ⟨I1, P1, e, h⟩
theorem k_againc {d : Nat} {G : am_G} {I : Nat → Nat → Int} {P : Nat → Nat → Option Nat} (hS : ST G P) {ρ : Nat → Int} {n : Nat} {cl : Nat → Cl} (hE : CE G I P 65 ρ n cl) (hN : TN G P 65) (h59 : ρ 5 ≤ 999) : ∃ I1 P1, am_call am_B am_M (d + 6) 132 [(.inr (.inr (some 64)))] (G, I, P) = some (some (.inl (if 60 < m_again ρ n cl then -1 else (m_again ρ n cl : Int))), (G, I1, P1)) ∧ (ST G P1 ∧ PF2 I I1 ∧ PP2 P P1) := by
  have h0 := RW_n0 hE.2.1
  have h1 := RW_n1 hE.2.1
  have h3 := RW_n3 hE.2.1
  have h8 := RW_sm hE.2.1
  have w : am_ex (am_call am_B am_M (d + 5)) (am_B 132) (am_B 132 0) [some (.inr (.inr (some 64)))] [] (G, I, P) (fun o => ∃ I1 P1, o = (some (.inl (if 60 < m_again ρ n cl then -1 else (m_again ρ n cl : Int))), (G, I1, P1)) ∧ (ST G P1 ∧ PF2 I I1 ∧ PP2 P P1)) := by
    refine (ex_6_0 (ix_41r (sh_64 hS) (pt_64_8 hS) (ex_6_0 (ix_41r (sh_64 hS) (pt_64_0 hS) ?_))))
    obtain ⟨K, Pk, eK, hK⟩ := k_again (d := d) hS hE hN h59
    refine (ix_46 (S' := [(.inl (if 60 < m_again ρ n cl then -1 else (m_again ρ n cl : Int)))]) rfl (sh_121 hS) eK rfl rfl ?_)
    exact ex_53 ⟨_, _, rfl, hK⟩
  obtain ⟨o, e, I1, P1, rfl, h⟩ := am_doQ (as := [(.inr (.inr (some 64)))]) (Nat.le_of_ble_eq_true rfl) rfl w
  exact ⟨I1, P1, e, h⟩
theorem k_answered_0 {d : Nat} {G : am_G} {I : Nat → Nat → Int} {P : Nat → Nat → Option Nat} (hS : ST G P) {ρ : Nat → Int} {n : Nat} {cl : Nat → Cl} (hE : CE G I P 65 ρ n cl) {N : Nat} (hNN : ρ 0 = (N : Int)) (hBN : BarN n cl) : ∃ I1, am_call am_B am_M (d + 8) 133 [(.inr (.inr (some 64))), (.inl 0)] (G, I, P) = some (some (.inl (BS (gn ρ n cl) N N 0)), (G, I1, P)) ∧ (CE G I1 P 65 ρ n cl ∧ AF I I1) := by
  have h0 := RW_n0 hE.2.1
  have h1 := RW_n1 hE.2.1
  have h3 := RW_n3 hE.2.1
  have h8 := RW_sm hE.2.1
  have w : am_ex (am_call am_B am_M (d + 7)) (am_B 133) (am_B 133 0) [some (.inr (.inr (some 64))), some (.inl 0), none] [] (G, I, P) (fun o => ∃ I1, o = (some (.inl (BS (gn ρ n cl) N N 0)), (G, I1, P)) ∧ (CE G I1 P 65 ρ n cl ∧ AF I I1)) := by
    refine (ex_4_1 (ex_if1 (fun hc => by exfalso; revert hc; decide) (fun _ => ?_)))
    refine (ex_6_0 (ix_41r (sh_64 hS) (pt_64_7 hS) (ex_6_0 (ix_41r (sh_64 hS) (pt_64_0 hS) ?_))))
    obtain ⟨K, eK, hEK, _, _, fK⟩ := k_most (d := d + 1) hS cq65 hE hNN hBN
    refine (ix_46 (S' := [(.inl (BS (gn ρ n cl) N N 0))]) rfl (sh_116 hS) eK rfl rfl ?_)
    exact ex_53 ⟨_, rfl, hEK, fK⟩
  obtain ⟨o, e, I1, rfl, h⟩ := am_doQ (as := [(.inr (.inr (some 64))), (.inl 0)]) (Nat.le_of_ble_eq_true rfl) rfl w
  exact ⟨I1, e, h⟩
theorem k_answered {d : Nat} {G : am_G} {I : Nat → Nat → Int} {P : Nat → Nat → Option Nat} (hS : ST G P) {ρ : Nat → Int} {n : Nat} {cl : Nat → Cl} (hE : CE G I P 65 ρ n cl) {N : Nat} (hNN : ρ 0 = (N : Int)) (hBN : BarN n cl) {a : Nat} (ha : a < N) : ∃ I1, am_call am_B am_M (d + 8) 133 [(.inr (.inr (some 64))), (.inl ((a + 1 : Nat) : Int))] (G, I, P) = some (some (.inl ((lq (gn ρ n cl) N a (tkn (gn ρ n cl) N a) : Nat) : Int)), (G, I1, P)) ∧ (CE G I1 P 65 ρ n cl ∧ AF I I1) := by
  have h0 := RW_n0 hE.2.1
  have h1 := RW_n1 hE.2.1
  have h3 := RW_n3 hE.2.1
  have h8 := RW_sm hE.2.1
  have w : am_ex (am_call am_B am_M (d + 7)) (am_B 133) (am_B 133 0) [some (.inr (.inr (some 64))), some (.inl ((a + 1 : Nat) : Int)), none] [] (G, I, P) (fun o => ∃ I1, o = (some (.inl ((lq (gn ρ n cl) N a (tkn (gn ρ n cl) N a) : Nat) : Int)), (G, I1, P)) ∧ (CE G I1 P 65 ρ n cl ∧ AF I I1)) := by
    refine (ex_4_1 ?_)
    refine ex_if1 (fun hc1 => ?_) (fun hc1 => by exfalso; omega)
    refine (ex_4_1 (ex_0 (ex_sub ⟨by omega, by omega⟩ (ex_7_2 rfl (ex_4_1 ?_)))))
    refine ex_if5 (fun hc21 => by exfalso; omega) (fun hc21 => ?_)
    refine (ex_6_0 (ix_41r (sh_64 hS) (pt_64_0 hS) (ex_4_2 ?_)))
    have hb29 : ((0 : Int) ≤ (((a + 1 : Nat) : Int) - 1) ∧ ((((a + 1 : Nat) : Int) - 1) : Int) < ρ 0) := by omega
    refine (ix_46 (S' := [(.inl 1)]) rfl (sh_65 hS) (k_hasCloud_t hS cq65 hE.1 hb29) rfl rfl (ex_if0 (fun hc => by exfalso; revert hc; decide) (fun _ => ?_)))
    refine (ex_6_0 (ix_41r (sh_64 hS) (pt_64_7 hS) (ex_6_0 (ix_41r (sh_64 hS) (pt_64_0 hS) (ex_4_2 ?_)))))
    obtain ⟨K, eK, hEK, fK⟩ := k_listen (d := d) hS cq65 hE hNN hBN (a := a) ha
    rw [show (a : Int) = ((a + 1 : Nat) : Int) - 1 by omega] at eK
    refine (ix_46 (S' := [(.inl ((lq (gn ρ n cl) N a (tkn (gn ρ n cl) N a) : Nat) : Int))]) rfl (sh_116 hS) eK rfl rfl (ex_28 ?_))
    exact ex_53 ⟨_, rfl, hEK, fK⟩
  obtain ⟨o, e, I1, rfl, h⟩ := am_doQ (as := [(.inr (.inr (some 64))), (.inl ((a + 1 : Nat) : Int))]) (Nat.le_of_ble_eq_true rfl) rfl w
  exact ⟨I1, e, h⟩
theorem k_canBe {d : Nat} {G : am_G} {I : Nat → Nat → Int} {P : Nat → Nat → Option Nat} (hS : ST G P) {ρ : Nat → Int} {n : Nat} {cl : Nat → Cl} (hE : CE G I P 65 ρ n cl) {N : Nat} (hNN : ρ 0 = (N : Int)) (hBN : BarN n cl) {H : Nat} (hH : ρ 2 = (H : Int)) : ∃ I1, am_call am_B am_M (d + 7) 136 [(.inr (.inr (some 64)))] (G, I, P) = some (some (.inl ((cbt ρ n cl H N : Nat) : Int)), (G, I1, P)) ∧ (CE G I1 P 65 ρ n cl ∧ LF I I1) := by
  have h0 := RW_n0 hE.2.1
  have h1 := RW_n1 hE.2.1
  have h3 := RW_n3 hE.2.1
  have h8 := RW_sm hE.2.1
  have w : am_ex (am_call am_B am_M (d + 6)) (am_B 136) (am_B 136 0) [some (.inr (.inr (some 64)))] [] (G, I, P) (fun o => ∃ I1, o = (some (.inl ((cbt ρ n cl H N : Nat) : Int)), (G, I1, P)) ∧ (CE G I1 P 65 ρ n cl ∧ LF I I1)) := by
    refine (ex_6_0 (ix_41r (sh_64 hS) (pt_64_7 hS) (ex_6_0 (ix_41r (sh_64 hS) (pt_64_0 hS) ?_))))
    obtain ⟨K, eK, hEK, fK⟩ := k_cand (d := d) hS cq65 hE hNN hH hBN
    refine (ix_46 (S' := [(.inl ((cbt ρ n cl H N : Nat) : Int))]) rfl (sh_116 hS) eK rfl rfl ?_)
    exact ex_53 ⟨_, rfl, hEK, fK⟩
  obtain ⟨o, e, I1, rfl, h⟩ := am_doQ (as := [(.inr (.inr (some 64)))]) (Nat.le_of_ble_eq_true rfl) rfl w
  exact ⟨I1, e, h⟩
theorem k_askc_b {d : Nat} {G : am_G} {I : Nat → Nat → Int} {P : Nat → Nat → Option Nat} (hS : ST G P) {w : Int} (hb : ¬ (0 ≤ w ∧ w ≤ 1)) : am_call am_B am_M (d + 8) 137 [(.inr (.inr (some 64))), (.inl w)] (G, I, P) = some (some (.inl (-1)), (G, I, P)) := by
  refine am_doL (L := [some (.inr (.inr (some 64))), some (.inl w)]) (Nat.le_of_ble_eq_true rfl) rfl ?_
  refine (ex_4_1 (ex_0 ?_))
  have hb2 : ¬ (((0 : Int) ≤ w ∧ (w : Int) ≤ 1)) := by omega
  refine (ix_45 (S' := [(.inl 0)]) rfl (k_isWithin_f hb2) rfl rfl (ex_if0 (fun _ => ?_) (fun hc => by exfalso; revert hc; decide)))
  refine (ex_0 (ex_58 ?_))
  exact ex_53 rfl
theorem k_askc_0 {d : Nat} {G : am_G} {I : Nat → Nat → Int} {P : Nat → Nat → Option Nat} (hS : ST G P) {ρ : Nat → Int} {n : Nat} {cl : Nat → Cl} (hE : CE G I P 65 ρ n cl) {N : Nat} (hNN : ρ 0 = (N : Int)) (hBN : BarN n cl) {H F : Nat} (hH : ρ 2 = (H : Int)) (hF : ρ 1 = (F : Int)) (hne : ¬ cbt ρ n cl H N = 0) : ∃ I1, am_call am_B am_M (d + 8) 137 [(.inr (.inr (some 64))), (.inl 0)] (G, I, P) = some (some (.inl (tsk ρ n cl (cbt ρ n cl H N) N F).1), (G, I1, P)) ∧ (CE G I1 P 65 ρ n cl ∧ AF I I1) := by
  have h0 := RW_n0 hE.2.1
  have h1 := RW_n1 hE.2.1
  have h3 := RW_n3 hE.2.1
  have h8 := RW_sm hE.2.1
  have w : am_ex (am_call am_B am_M (d + 7)) (am_B 137) (am_B 137 0) [some (.inr (.inr (some 64))), some (.inl 0)] [] (G, I, P) (fun o => ∃ I1, o = (some (.inl (tsk ρ n cl (cbt ρ n cl H N) N F).1), (G, I1, P)) ∧ (CE G I1 P 65 ρ n cl ∧ AF I I1)) := by
    refine (ex_4_1 (ex_0 ?_))
    have hb2 : ((0 : Int) ≤ 0 ∧ (0 : Int) ≤ 1) := by omega
    refine (ix_45 (S' := [(.inl 1)]) rfl (k_isWithin_t hb2) rfl rfl (ex_if0 (fun hc => by exfalso; revert hc; decide) (fun _ => ?_)))
    refine (ex_6_0 (ix_41r (sh_64 hS) (pt_64_7 hS) (ex_6_0 (ix_41r (sh_64 hS) (pt_64_0 hS) (ex_4_1 (ex_0 (ex_ic1 (fun _ => ?_) (fun hc => by exfalso; revert hc; decide))))))))
    refine (ex_0 (ex_58 ?_))
    obtain ⟨K, eK, hEK, fK⟩ := k_ask_0 (d := d) hS cq65 hE hNN hH hF hBN hne
    refine (ix_46 (S' := [(.inl (tsk ρ n cl (cbt ρ n cl H N) N F).1)]) rfl (sh_116 hS) eK rfl rfl (ex_28 ?_))
    exact ex_53 ⟨_, rfl, hEK, fK⟩
  obtain ⟨o, e, I1, rfl, h⟩ := am_doQ (as := [(.inr (.inr (some 64))), (.inl 0)]) (Nat.le_of_ble_eq_true rfl) rfl w
  exact ⟨I1, e, h⟩
theorem k_askc_0z {d : Nat} {G : am_G} {I : Nat → Nat → Int} {P : Nat → Nat → Option Nat} (hS : ST G P) {ρ : Nat → Int} {n : Nat} {cl : Nat → Cl} (hE : CE G I P 65 ρ n cl) {N : Nat} (hNN : ρ 0 = (N : Int)) (hBN : BarN n cl) {H F : Nat} (hH : ρ 2 = (H : Int)) (hF : ρ 1 = (F : Int)) (hne : cbt ρ n cl H N = 0) : ∃ I1, am_call am_B am_M (d + 8) 137 [(.inr (.inr (some 64))), (.inl 0)] (G, I, P) = some (some (.inl (-1)), (G, I1, P)) ∧ (CE G I1 P 65 ρ n cl ∧ AF I I1) := by
  have h0 := RW_n0 hE.2.1
  have h1 := RW_n1 hE.2.1
  have h3 := RW_n3 hE.2.1
  have h8 := RW_sm hE.2.1
  have w : am_ex (am_call am_B am_M (d + 7)) (am_B 137) (am_B 137 0) [some (.inr (.inr (some 64))), some (.inl 0)] [] (G, I, P) (fun o => ∃ I1, o = (some (.inl (-1)), (G, I1, P)) ∧ (CE G I1 P 65 ρ n cl ∧ AF I I1)) := by
    refine (ex_4_1 (ex_0 ?_))
    have hb2 : ((0 : Int) ≤ 0 ∧ (0 : Int) ≤ 1) := by omega
    refine (ix_45 (S' := [(.inl 1)]) rfl (k_isWithin_t hb2) rfl rfl (ex_if0 (fun hc => by exfalso; revert hc; decide) (fun _ => ?_)))
    refine (ex_6_0 (ix_41r (sh_64 hS) (pt_64_7 hS) (ex_6_0 (ix_41r (sh_64 hS) (pt_64_0 hS) (ex_4_1 (ex_0 (ex_ic1 (fun _ => ?_) (fun hc => by exfalso; revert hc; decide))))))))
    refine (ex_0 (ex_58 ?_))
    obtain ⟨K, eK, hEK, fK⟩ := k_ask_0z (d := d) hS cq65 hE hNN hH hF hBN hne
    refine (ix_46 (S' := [(.inl (-1))]) rfl (sh_116 hS) eK rfl rfl (ex_28 ?_))
    exact ex_53 ⟨_, rfl, hEK, fK⟩
  obtain ⟨o, e, I1, rfl, h⟩ := am_doQ (as := [(.inr (.inr (some 64))), (.inl 0)]) (Nat.le_of_ble_eq_true rfl) rfl w
  exact ⟨I1, e, h⟩
theorem k_askc_1 {d : Nat} {G : am_G} {I : Nat → Nat → Int} {P : Nat → Nat → Option Nat} (hS : ST G P) {ρ : Nat → Int} {n : Nat} {cl : Nat → Cl} (hE : CE G I P 65 ρ n cl) {N : Nat} (hNN : ρ 0 = (N : Int)) (hBN : BarN n cl) {H F : Nat} (hH : ρ 2 = (H : Int)) (hF : ρ 1 = (F : Int)) (hne : ¬ cbt ρ n cl H N = 0) : ∃ I1, am_call am_B am_M (d + 8) 137 [(.inr (.inr (some 64))), (.inl 1)] (G, I, P) = some (some (.inl (fwv (tsk ρ n cl (cbt ρ n cl H N) N F))), (G, I1, P)) ∧ (CE G I1 P 65 ρ n cl ∧ AF I I1) := by
  have h0 := RW_n0 hE.2.1
  have h1 := RW_n1 hE.2.1
  have h3 := RW_n3 hE.2.1
  have h8 := RW_sm hE.2.1
  have w : am_ex (am_call am_B am_M (d + 7)) (am_B 137) (am_B 137 0) [some (.inr (.inr (some 64))), some (.inl 1)] [] (G, I, P) (fun o => ∃ I1, o = (some (.inl (fwv (tsk ρ n cl (cbt ρ n cl H N) N F))), (G, I1, P)) ∧ (CE G I1 P 65 ρ n cl ∧ AF I I1)) := by
    refine (ex_4_1 (ex_0 ?_))
    have hb2 : ((0 : Int) ≤ 1 ∧ (1 : Int) ≤ 1) := by omega
    refine (ix_45 (S' := [(.inl 1)]) rfl (k_isWithin_t hb2) rfl rfl (ex_if0 (fun hc => by exfalso; revert hc; decide) (fun _ => ?_)))
    refine (ex_6_0 (ix_41r (sh_64 hS) (pt_64_7 hS) (ex_6_0 (ix_41r (sh_64 hS) (pt_64_0 hS) (ex_4_1 (ex_0 (ex_ic1 (fun hc => by exfalso; revert hc; decide) (fun _ => ?_))))))))
    refine (ex_0 (ex_28 ?_))
    obtain ⟨K, eK, hEK, fK⟩ := k_ask_1 (d := d) hS cq65 hE hNN hH hF hBN hne
    refine (ix_46 (S' := [(.inl (fwv (tsk ρ n cl (cbt ρ n cl H N) N F)))]) rfl (sh_116 hS) eK rfl rfl (ex_28 ?_))
    exact ex_53 ⟨_, rfl, hEK, fK⟩
  obtain ⟨o, e, I1, rfl, h⟩ := am_doQ (as := [(.inr (.inr (some 64))), (.inl 1)]) (Nat.le_of_ble_eq_true rfl) rfl w
  exact ⟨I1, e, h⟩
theorem k_askc_1z {d : Nat} {G : am_G} {I : Nat → Nat → Int} {P : Nat → Nat → Option Nat} (hS : ST G P) {ρ : Nat → Int} {n : Nat} {cl : Nat → Cl} (hE : CE G I P 65 ρ n cl) {N : Nat} (hNN : ρ 0 = (N : Int)) (hBN : BarN n cl) {H F : Nat} (hH : ρ 2 = (H : Int)) (hF : ρ 1 = (F : Int)) (hne : cbt ρ n cl H N = 0) : ∃ I1, am_call am_B am_M (d + 8) 137 [(.inr (.inr (some 64))), (.inl 1)] (G, I, P) = some (some (.inl (-1)), (G, I1, P)) ∧ (CE G I1 P 65 ρ n cl ∧ AF I I1) := by
  have h0 := RW_n0 hE.2.1
  have h1 := RW_n1 hE.2.1
  have h3 := RW_n3 hE.2.1
  have h8 := RW_sm hE.2.1
  have w : am_ex (am_call am_B am_M (d + 7)) (am_B 137) (am_B 137 0) [some (.inr (.inr (some 64))), some (.inl 1)] [] (G, I, P) (fun o => ∃ I1, o = (some (.inl (-1)), (G, I1, P)) ∧ (CE G I1 P 65 ρ n cl ∧ AF I I1)) := by
    refine (ex_4_1 (ex_0 ?_))
    have hb2 : ((0 : Int) ≤ 1 ∧ (1 : Int) ≤ 1) := by omega
    refine (ix_45 (S' := [(.inl 1)]) rfl (k_isWithin_t hb2) rfl rfl (ex_if0 (fun hc => by exfalso; revert hc; decide) (fun _ => ?_)))
    refine (ex_6_0 (ix_41r (sh_64 hS) (pt_64_7 hS) (ex_6_0 (ix_41r (sh_64 hS) (pt_64_0 hS) (ex_4_1 (ex_0 (ex_ic1 (fun hc => by exfalso; revert hc; decide) (fun _ => ?_))))))))
    refine (ex_0 (ex_28 ?_))
    obtain ⟨K, eK, hEK, fK⟩ := k_ask_1z (d := d) hS cq65 hE hNN hH hF hBN hne
    refine (ix_46 (S' := [(.inl (-1))]) rfl (sh_116 hS) eK rfl rfl (ex_28 ?_))
    exact ex_53 ⟨_, rfl, hEK, fK⟩
  obtain ⟨o, e, I1, rfl, h⟩ := am_doQ (as := [(.inr (.inr (some 64))), (.inl 1)]) (Nat.le_of_ble_eq_true rfl) rfl w
  exact ⟨I1, e, h⟩
theorem k_neededc {d : Nat} {G : am_G} {I : Nat → Nat → Int} {P : Nat → Nat → Option Nat} (hS : ST G P) {ρ : Nat → Int} {n : Nat} {cl : Nat → Cl} (hE : CE G I P 65 ρ n cl) : am_call am_B am_M (d + 4) 141 [(.inr (.inr (some 64)))] (G, I, P) = some (some (.inl ((m_needed ρ (ρ 8).toNat : Nat) : Int)), (G, I, P)) := by
  have h0 := RW_n0 hE.2.1
  have h1 := RW_n1 hE.2.1
  have h3 := RW_n3 hE.2.1
  have h8 := RW_sm hE.2.1
  refine am_doL (L := [some (.inr (.inr (some 64)))]) (Nat.le_of_ble_eq_true rfl) rfl ?_
  refine (ex_6_0 (ix_41r (sh_64 hS) (pt_64_0 hS) (ix_41r (sh_65 hS) (pt_65_0 hS) (ix_46 (S' := [(.inl ((m_needed ρ (ρ 8).toNat : Nat) : Int))]) rfl (sh_66 hS) (k_needed_c hS cq65 hE.1 h8) rfl rfl ?_))))
  exact ex_53 rfl
theorem k_fairc_b {d : Nat} {G : am_G} {I : Nat → Nat → Int} {P : Nat → Nat → Option Nat} (hS : ST G P) {ρ : Nat → Int} {n : Nat} {cl : Nat → Cl} (hE : CE G I P 65 ρ n cl) {f : Int} (hb : ¬ (0 ≤ f ∧ f < ρ 1)) : am_call am_B am_M (d + 6) 142 [(.inr (.inr (some 64))), (.inl f)] (G, I, P) = some (some (.inl (-1)), (G, I, P)) := by
  have h0 := RW_n0 hE.2.1
  have h1 := RW_n1 hE.2.1
  have h3 := RW_n3 hE.2.1
  have h8 := RW_sm hE.2.1
  refine am_doL (L := [some (.inr (.inr (some 64))), some (.inl f)]) (Nat.le_of_ble_eq_true rfl) rfl ?_
  refine (ex_6_0 (ix_41r (sh_64 hS) (pt_64_0 hS) (ex_4_1 ?_)))
  have hb5 : ¬ (((0 : Int) ≤ f ∧ (f : Int) < ρ 1)) := by omega
  refine (ix_46 (S' := [(.inl 0)]) rfl (sh_65 hS) (k_hasFolk_f hS cq65 hE.1 hb5) rfl rfl (ex_if0 (fun _ => ?_) (fun hc => by exfalso; revert hc; decide)))
  refine (ex_0 (ex_58 ?_))
  exact ex_53 rfl
theorem k_fairc {d : Nat} {G : am_G} {I : Nat → Nat → Int} {P : Nat → Nat → Option Nat} (hS : ST G P) {ρ : Nat → Int} {n : Nat} {cl : Nat → Cl} (hE : CE G I P 65 ρ n cl) {N : Nat} (hNN : ρ 0 = (N : Int)) (hBN : BarN n cl) {f F : Nat} (hF : ρ 1 = (F : Int)) (hf : f < F) : ∃ I1, am_call am_B am_M (d + 6) 142 [(.inr (.inr (some 64))), (.inl (f : Int))] (G, I, P) = some (some (.inl (fsh ρ n cl F N f)), (G, I1, P)) ∧ (CE G I1 P 65 ρ n cl ∧ AF I I1) := by
  have h0 := RW_n0 hE.2.1
  have h1 := RW_n1 hE.2.1
  have h3 := RW_n3 hE.2.1
  have h8 := RW_sm hE.2.1
  have w : am_ex (am_call am_B am_M (d + 5)) (am_B 142) (am_B 142 0) [some (.inr (.inr (some 64))), some (.inl (f : Int))] [] (G, I, P) (fun o => ∃ I1, o = (some (.inl (fsh ρ n cl F N f)), (G, I1, P)) ∧ (CE G I1 P 65 ρ n cl ∧ AF I I1)) := by
    refine (ex_6_0 (ix_41r (sh_64 hS) (pt_64_0 hS) (ex_4_1 ?_)))
    have hb5 : ((0 : Int) ≤ (f : Int) ∧ ((f : Int) : Int) < ρ 1) := by omega
    refine (ix_46 (S' := [(.inl 1)]) rfl (sh_65 hS) (k_hasFolk_t hS cq65 hE.1 hb5) rfl rfl (ex_if0 (fun hc => by exfalso; revert hc; decide) (fun _ => ?_)))
    refine (ex_6_0 (ix_41r (sh_64 hS) (pt_64_7 hS) (ex_6_0 (ix_41r (sh_64 hS) (pt_64_0 hS) (ex_4_1 ?_)))))
    obtain ⟨K, eK, hEK, fK⟩ := k_fair (d := d) hS cq65 hE hNN hF hBN (f := f) (by omega)
    refine (ix_46 (S' := [(.inl (fsh ρ n cl F N f))]) rfl (sh_116 hS) eK rfl rfl (ex_28 ?_))
    exact ex_53 ⟨_, rfl, hEK, fK⟩
  obtain ⟨o, e, I1, rfl, h⟩ := am_doQ (as := [(.inr (.inr (some 64))), (.inl (f : Int))]) (Nat.le_of_ble_eq_true rfl) rfl w
  exact ⟨I1, e, h⟩
