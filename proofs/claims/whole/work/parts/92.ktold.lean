/-! ===== the class: its face, what is told ===== -/
theorem CC_w65 {I : Nat → Nat → Int} {ρ : Nat → Int} {q k : Nat} {v : Int} (h : CC I 65 ρ) (hq : q < 65 ∨ 80 < q) : CC (am_u2 I q k v) 65 ρ := CC_fr h (fun q' k' a b _ => u2_q (by omega))
/-- told to the circuit itself: the log is emptied where lg, the status is 0 -/
def TLD (I J : Nat → Nat → Int) : Prop := J 64 16 = 0 ∧ (∀ q k, ¬ (65 ≤ q ∧ q ≤ 80) → ¬ (q = 84 ∧ k = 4) → ¬ (q = 64 ∧ k = 16) → J q k = I q k)
theorem k_logClr {d : Nat} {G : am_G} {I : Nat → Nat → Int} {P : Nat → Nat → Option Nat} (hS : ST G P) : am_call am_B am_M (d + 1) 43 [(.inr (.inr (some 84)))] (G, I, P) = some (none, (G, am_u2 I 84 4 0, P)) := by
  refine am_doL (L := [some (.inr (.inr (some 84)))]) (Nat.le_of_ble_eq_true rfl) rfl ?_
  refine (ex_6_0 (ex_0 (ix_42i (sh_84 hS) ?_)))
  exact ex_56 rfl
theorem k_cloud_b {d : Nat} {G : am_G} {I : Nat → Nat → Int} {P : Nat → Nat → Option Nat} (hS : ST G P) {ρ : Nat → Int} {n : Nat} {cl : Nat → Cl} (hE : CE G I P 65 ρ n cl) {kind rage box : Int} (hk : ¬ ((0 ≤ kind ∧ kind ≤ 4) ∧ (0 ≤ rage ∧ rage ≤ 9) ∧ (0 ≤ box ∧ box < 6))) (hR1 : 0 ≤ I 173 1 ∧ I 173 1 ≤ 1000000) : am_call am_B am_M (d + 3) 107 [(.inr (.inr (some 64))), (.inl kind), (.inl rage), (.inl box)] (G, I, P) = some (some (.inl (-1)), (G, am_u2 (am_u2 I 173 1 (I 173 1 + 1)) 64 16 (-1), P)) := by
  have h0 := RW_n0 hE.2.1
  have h1 := RW_n1 hE.2.1
  have h3 := RW_n3 hE.2.1
  have h8 := RW_sm hE.2.1
  refine am_doL (L := [some (.inr (.inr (some 64))), some (.inl kind), some (.inl rage), some (.inl box)]) (Nat.le_of_ble_eq_true rfl) rfl ?_
  refine (ex_4_1 (ex_0 ?_))
  by_cases hb2 : ((0 : Int) ≤ kind ∧ (kind : Int) ≤ 4)
  · refine (ix_45 (S' := [(.inl 1)]) rfl (k_isWithin_t hb2) rfl rfl (ex_if0 (fun hc => by exfalso; revert hc; decide) (fun _ => ?_)))
    refine (ex_4_2 (ex_0 ?_))
    by_cases hb11 : ((0 : Int) ≤ rage ∧ (rage : Int) ≤ 9)
    · refine (ix_45 (S' := [(.inl 1)]) rfl (k_isWithin_t hb11) rfl rfl (ex_if0 (fun hc => by exfalso; revert hc; decide) (fun _ => ?_)))
      refine (ex_4_3 ?_)
      have hb18 : ¬ (((0 : Int) ≤ box ∧ (box : Int) < 6)) := by omega
      refine (ix_45 (S' := [(.inl 0)]) rfl (k_isBox_f hb18) rfl rfl (ex_if1 (fun hc => by exfalso; revert hc; decide) (fun _ => ?_)))
      refine (ex_6_0 (ex_0 (ix_46 (S' := [(.inl (-1))]) rfl (sh_64 hS) (k_refuse_n hS (k := 1) (by decide) (by decide) rfl hR1) rfl rfl ?_)))
      exact ex_53 rfl
    · refine (ix_45 (S' := [(.inl 0)]) rfl (k_isWithin_f hb11) rfl rfl (ex_if0 (fun _ => ?_) (fun hc => by exfalso; revert hc; decide)))
      refine (ex_6_0 (ex_0 (ix_46 (S' := [(.inl (-1))]) rfl (sh_64 hS) (k_refuse_n hS (k := 1) (by decide) (by decide) rfl hR1) rfl rfl ?_)))
      exact ex_53 rfl
  · refine (ix_45 (S' := [(.inl 0)]) rfl (k_isWithin_f hb2) rfl rfl (ex_if0 (fun _ => ?_) (fun hc => by exfalso; revert hc; decide)))
    refine (ex_6_0 (ex_0 (ix_46 (S' := [(.inl (-1))]) rfl (sh_64 hS) (k_refuse_n hS (k := 1) (by decide) (by decide) rfl hR1) rfl rfl ?_)))
    exact ex_53 rfl
theorem k_cloud_n {d : Nat} {G : am_G} {I : Nat → Nat → Int} {P : Nat → Nat → Option Nat} (hS : ST G P) {ρ : Nat → Int} {n : Nat} {cl : Nat → Cl} (hE : CE G I P 65 ρ n cl) {kind rage box : Int} (hk : 0 ≤ kind ∧ kind ≤ 4) (hr : 0 ≤ rage ∧ rage ≤ 9) (hb : 0 ≤ box ∧ box < 6) (hn : ρ 0 = 6) (hR5 : 0 ≤ I 173 5 ∧ I 173 5 ≤ 1000000) : am_call am_B am_M (d + 3) 107 [(.inr (.inr (some 64))), (.inl kind), (.inl rage), (.inl box)] (G, I, P) = some (some (.inl (-5)), (G, am_u2 (am_u2 I 173 5 (I 173 5 + 1)) 64 16 (-5), P)) := by
  have h0 := RW_n0 hE.2.1
  have h1 := RW_n1 hE.2.1
  have h3 := RW_n3 hE.2.1
  have h8 := RW_sm hE.2.1
  refine am_doL (L := [some (.inr (.inr (some 64))), some (.inl kind), some (.inl rage), some (.inl box)]) (Nat.le_of_ble_eq_true rfl) rfl ?_
  refine (ex_4_1 (ex_0 ?_))
  have hb2 : ((0 : Int) ≤ kind ∧ (kind : Int) ≤ 4) := by omega
  refine (ix_45 (S' := [(.inl 1)]) rfl (k_isWithin_t hb2) rfl rfl (ex_if0 (fun hc => by exfalso; revert hc; decide) (fun _ => ?_)))
  refine (ex_4_2 (ex_0 ?_))
  have hb11 : ((0 : Int) ≤ rage ∧ (rage : Int) ≤ 9) := by omega
  refine (ix_45 (S' := [(.inl 1)]) rfl (k_isWithin_t hb11) rfl rfl (ex_if0 (fun hc => by exfalso; revert hc; decide) (fun _ => ?_)))
  refine (ex_4_3 ?_)
  have hb18 : ((0 : Int) ≤ box ∧ (box : Int) < 6) := by omega
  refine (ix_45 (S' := [(.inl 1)]) rfl (k_isBox_t hb18) rfl rfl (ex_if1 (fun _ => ?_) (fun hc => by exfalso; revert hc; decide)))
  refine (ex_6_0 (ix_41r (sh_64 hS) (pt_64_0 hS) (ix_41i (v := 6) (sh_65 hS) ((CC_n0 hE.1).trans hn) (ex_0 (ex_ic2 (fun hc => by exfalso; revert hc; decide) (fun _ => ?_))))))
  refine (ex_6_0 (ex_0 (ix_46 (S' := [(.inl (-5))]) rfl (sh_64 hS) (k_refuse_n hS (k := 5) (by decide) (by decide) rfl hR5) rfl rfl ?_)))
  exact ex_53 rfl
theorem CC_84 {I : Nat → Nat → Int} {ρ : Nat → Int} {v : Int} (h : CC I 65 ρ) : CC (am_u2 I 84 4 v) 65 ρ := CC_w65 h (by omega)
theorem k_cloudc {d : Nat} {G : am_G} {I : Nat → Nat → Int} {P : Nat → Nat → Option Nat} (hS : ST G P) {ρ : Nat → Int} {n : Nat} {cl : Nat → Cl} (hE : CE G I P 65 ρ n cl) {kind rage box : Int} (hk : 0 ≤ kind ∧ kind ≤ 4) (hr : 0 ≤ rage ∧ rage ≤ 9) (hb : 0 ≤ box ∧ box < 6) {n0 : Nat} (hn : ρ 0 = (n0 : Int)) (hl : n0 < 6) : ∃ I1, am_call am_B am_M (d + 3) 107 [(.inr (.inr (some 64))), (.inl kind), (.inl rage), (.inl box)] (G, I, P) = some (some (.inl (n0 : Int)), (G, I1, P)) ∧ (CC I1 65 (am_u1 (am_u1 (am_u1 (am_u1 ρ (30 + n0) kind) (36 + n0) rage) (9 + n0) box) 0 ((n0 : Int) + 1)) ∧ I1 84 4 = 0 ∧ TLD I I1) := by
  have h0 := RW_n0 hE.2.1
  have h1 := RW_n1 hE.2.1
  have h3 := RW_n3 hE.2.1
  have h8 := RW_sm hE.2.1
  have w : am_ex (am_call am_B am_M (d + 2)) (am_B 107) (am_B 107 0) [some (.inr (.inr (some 64))), some (.inl kind), some (.inl rage), some (.inl box)] [] (G, I, P) (fun o => ∃ I1, o = (some (.inl (n0 : Int)), (G, I1, P)) ∧ (CC I1 65 (am_u1 (am_u1 (am_u1 (am_u1 ρ (30 + n0) kind) (36 + n0) rage) (9 + n0) box) 0 ((n0 : Int) + 1)) ∧ I1 84 4 = 0 ∧ TLD I I1)) := by
    refine (ex_4_1 (ex_0 ?_))
    have hb2 : ((0 : Int) ≤ kind ∧ (kind : Int) ≤ 4) := by omega
    refine (ix_45 (S' := [(.inl 1)]) rfl (k_isWithin_t hb2) rfl rfl (ex_if0 (fun hc => by exfalso; revert hc; decide) (fun _ => ?_)))
    refine (ex_4_2 (ex_0 ?_))
    have hb11 : ((0 : Int) ≤ rage ∧ (rage : Int) ≤ 9) := by omega
    refine (ix_45 (S' := [(.inl 1)]) rfl (k_isWithin_t hb11) rfl rfl (ex_if0 (fun hc => by exfalso; revert hc; decide) (fun _ => ?_)))
    refine (ex_4_3 ?_)
    have hb18 : ((0 : Int) ≤ box ∧ (box : Int) < 6) := by omega
    refine (ix_45 (S' := [(.inl 1)]) rfl (k_isBox_t hb18) rfl rfl (ex_if1 (fun _ => ?_) (fun hc => by exfalso; revert hc; decide)))
    refine (ex_6_0 (ix_41r (sh_64 hS) (pt_64_0 hS) (ix_41i (v := (n0 : Int)) (sh_65 hS) ((CC_n0 hE.1).trans hn) (ex_0 ?_))))
    refine ex_ic2 (fun hc39 => ?_) (fun hc39 => by exfalso; omega)
    refine (ex_6_0 (ix_41r (sh_64 hS) (pt_64_3 hS) (ix_46 (S' := []) rfl (sh_84 hS) (k_logClr hS) rfl rfl (ex_6_0 (ex_6_0 (ix_41r (sh_64 hS) (pt_64_0 hS) (ex_4_1 (ex_4_2 (ex_4_3 (ix_46 (S' := [(.inl (n0 : Int)), (.inr (.inr (some 64)))]) rfl (sh_65 hS) (k_addCloud hS (CC_84 hE.1) hn hl) rfl rfl (ix_46 (S' := [(.inl (n0 : Int))]) rfl (sh_64 hS) (k_grant hS) rfl rfl ?_)))))))))))
    exact ex_53 ⟨_, rfl, CC_w65 (CCs_n0 (CCs_at (CCs_ra (CCs_ki (CC_84 hE.1) hl) hl) hl)) (by omega), ((u2_q (by decide)).trans ((u2_q (by decide)).trans ((u2_q (by decide)).trans ((u2_q (by decide)).trans ((u2_q (by decide)).trans (u2_e)))))), ⟨u2_e, fun q k h1 h2 h3 => (u2_o h3).trans ((u2_q (by omega)).trans ((u2_q (by omega)).trans ((u2_q (by omega)).trans ((u2_q (by omega)).trans ((u2_o h2).trans (rfl))))))⟩⟩
  obtain ⟨o, e, I1, rfl, h⟩ := am_doQ (as := [(.inr (.inr (some 64))), (.inl kind), (.inl rage), (.inl box)]) (Nat.le_of_ble_eq_true rfl) rfl w
  exact ⟨I1, e, h⟩
theorem k_folk_b {d : Nat} {G : am_G} {I : Nat → Nat → Int} {P : Nat → Nat → Option Nat} (hS : ST G P) {ρ : Nat → Int} {n : Nat} {cl : Nat → Cl} (hE : CE G I P 65 ρ n cl) {box ears : Int} (hk : ¬ ((0 ≤ box ∧ box < 6) ∧ (0 ≤ ears ∧ ears ≤ 31))) (hR1 : 0 ≤ I 173 1 ∧ I 173 1 ≤ 1000000) : am_call am_B am_M (d + 3) 109 [(.inr (.inr (some 64))), (.inl box), (.inl ears)] (G, I, P) = some (some (.inl (-1)), (G, am_u2 (am_u2 I 173 1 (I 173 1 + 1)) 64 16 (-1), P)) := by
  have h0 := RW_n0 hE.2.1
  have h1 := RW_n1 hE.2.1
  have h3 := RW_n3 hE.2.1
  have h8 := RW_sm hE.2.1
  refine am_doL (L := [some (.inr (.inr (some 64))), some (.inl box), some (.inl ears)]) (Nat.le_of_ble_eq_true rfl) rfl ?_
  refine (ex_4_1 ?_)
  by_cases hb1 : ((0 : Int) ≤ box ∧ (box : Int) < 6)
  · refine (ix_45 (S' := [(.inl 1)]) rfl (k_isBox_t hb1) rfl rfl (ex_if0 (fun hc => by exfalso; revert hc; decide) (fun _ => ?_)))
    refine (ex_4_2 (ex_0 ?_))
    have hb10 : ¬ (((0 : Int) ≤ ears ∧ (ears : Int) ≤ 31)) := by omega
    refine (ix_45 (S' := [(.inl 0)]) rfl (k_isWithin_f hb10) rfl rfl (ex_if1 (fun hc => by exfalso; revert hc; decide) (fun _ => ?_)))
    refine (ex_6_0 (ex_0 (ix_46 (S' := [(.inl (-1))]) rfl (sh_64 hS) (k_refuse_n hS (k := 1) (by decide) (by decide) rfl hR1) rfl rfl ?_)))
    exact ex_53 rfl
  · refine (ix_45 (S' := [(.inl 0)]) rfl (k_isBox_f hb1) rfl rfl (ex_if0 (fun _ => ?_) (fun hc => by exfalso; revert hc; decide)))
    refine (ex_6_0 (ex_0 (ix_46 (S' := [(.inl (-1))]) rfl (sh_64 hS) (k_refuse_n hS (k := 1) (by decide) (by decide) rfl hR1) rfl rfl ?_)))
    exact ex_53 rfl
theorem k_folk_n {d : Nat} {G : am_G} {I : Nat → Nat → Int} {P : Nat → Nat → Option Nat} (hS : ST G P) {ρ : Nat → Int} {n : Nat} {cl : Nat → Cl} (hE : CE G I P 65 ρ n cl) {box ears : Int} (hb : 0 ≤ box ∧ box < 6) (he : 0 ≤ ears ∧ ears ≤ 31) (hn : ρ 1 = 5) (hR5 : 0 ≤ I 173 5 ∧ I 173 5 ≤ 1000000) : am_call am_B am_M (d + 3) 109 [(.inr (.inr (some 64))), (.inl box), (.inl ears)] (G, I, P) = some (some (.inl (-5)), (G, am_u2 (am_u2 I 173 5 (I 173 5 + 1)) 64 16 (-5), P)) := by
  have h0 := RW_n0 hE.2.1
  have h1 := RW_n1 hE.2.1
  have h3 := RW_n3 hE.2.1
  have h8 := RW_sm hE.2.1
  refine am_doL (L := [some (.inr (.inr (some 64))), some (.inl box), some (.inl ears)]) (Nat.le_of_ble_eq_true rfl) rfl ?_
  refine (ex_4_1 ?_)
  have hb1 : ((0 : Int) ≤ box ∧ (box : Int) < 6) := by omega
  refine (ix_45 (S' := [(.inl 1)]) rfl (k_isBox_t hb1) rfl rfl (ex_if0 (fun hc => by exfalso; revert hc; decide) (fun _ => ?_)))
  refine (ex_4_2 (ex_0 ?_))
  have hb10 : ((0 : Int) ≤ ears ∧ (ears : Int) ≤ 31) := by omega
  refine (ix_45 (S' := [(.inl 1)]) rfl (k_isWithin_t hb10) rfl rfl (ex_if1 (fun _ => ?_) (fun hc => by exfalso; revert hc; decide)))
  refine (ex_6_0 (ix_41r (sh_64 hS) (pt_64_0 hS) (ix_41i (v := 5) (sh_65 hS) ((CC_n1 hE.1).trans hn) (ex_0 (ex_ic2 (fun hc => by exfalso; revert hc; decide) (fun _ => ?_))))))
  refine (ex_6_0 (ex_0 (ix_46 (S' := [(.inl (-5))]) rfl (sh_64 hS) (k_refuse_n hS (k := 5) (by decide) (by decide) rfl hR5) rfl rfl ?_)))
  exact ex_53 rfl
theorem k_folkc {d : Nat} {G : am_G} {I : Nat → Nat → Int} {P : Nat → Nat → Option Nat} (hS : ST G P) {ρ : Nat → Int} {n : Nat} {cl : Nat → Cl} (hE : CE G I P 65 ρ n cl) {box ears : Int} (hb : 0 ≤ box ∧ box < 6) (he : 0 ≤ ears ∧ ears ≤ 31) {n0 : Nat} (hn : ρ 1 = (n0 : Int)) (hl : n0 < 5) : ∃ I1, am_call am_B am_M (d + 3) 109 [(.inr (.inr (some 64))), (.inl box), (.inl ears)] (G, I, P) = some (some (.inl (n0 : Int)), (G, I1, P)) ∧ (CC I1 65 (am_u1 (am_u1 (am_u1 (am_u1 (am_u1 (am_u1 ρ (42 + n0) box) (47 + n0) ears) (15 + n0) 0) (20 + n0) 0) (25 + n0) 0) 1 ((n0 : Int) + 1)) ∧ I1 84 4 = 0 ∧ TLD I I1) := by
  have h0 := RW_n0 hE.2.1
  have h1 := RW_n1 hE.2.1
  have h3 := RW_n3 hE.2.1
  have h8 := RW_sm hE.2.1
  have w : am_ex (am_call am_B am_M (d + 2)) (am_B 109) (am_B 109 0) [some (.inr (.inr (some 64))), some (.inl box), some (.inl ears)] [] (G, I, P) (fun o => ∃ I1, o = (some (.inl (n0 : Int)), (G, I1, P)) ∧ (CC I1 65 (am_u1 (am_u1 (am_u1 (am_u1 (am_u1 (am_u1 ρ (42 + n0) box) (47 + n0) ears) (15 + n0) 0) (20 + n0) 0) (25 + n0) 0) 1 ((n0 : Int) + 1)) ∧ I1 84 4 = 0 ∧ TLD I I1)) := by
    refine (ex_4_1 ?_)
    have hb1 : ((0 : Int) ≤ box ∧ (box : Int) < 6) := by omega
    refine (ix_45 (S' := [(.inl 1)]) rfl (k_isBox_t hb1) rfl rfl (ex_if0 (fun hc => by exfalso; revert hc; decide) (fun _ => ?_)))
    refine (ex_4_2 (ex_0 ?_))
    have hb10 : ((0 : Int) ≤ ears ∧ (ears : Int) ≤ 31) := by omega
    refine (ix_45 (S' := [(.inl 1)]) rfl (k_isWithin_t hb10) rfl rfl (ex_if1 (fun _ => ?_) (fun hc => by exfalso; revert hc; decide)))
    refine (ex_6_0 (ix_41r (sh_64 hS) (pt_64_0 hS) (ix_41i (v := (n0 : Int)) (sh_65 hS) ((CC_n1 hE.1).trans hn) (ex_0 ?_))))
    refine ex_ic2 (fun hc30 => ?_) (fun hc30 => by exfalso; omega)
    refine (ex_6_0 (ix_41r (sh_64 hS) (pt_64_3 hS) (ix_46 (S' := []) rfl (sh_84 hS) (k_logClr hS) rfl rfl (ex_6_0 (ex_6_0 (ix_41r (sh_64 hS) (pt_64_0 hS) (ex_4_1 (ex_4_2 (ix_46 (S' := [(.inl (n0 : Int)), (.inr (.inr (some 64)))]) rfl (sh_65 hS) (k_addFolk hS (CC_84 hE.1) hn hl) rfl rfl (ix_46 (S' := [(.inl (n0 : Int))]) rfl (sh_64 hS) (k_grant hS) rfl rfl ?_))))))))))
    exact ex_53 ⟨_, rfl, CC_w65 (CCs_n1 (CCs_kn (CCs_we (CCs_en (CCs_ea (CCs_by (CC_84 hE.1) hl) hl) hl) hl) hl)) (by omega), ((u2_q (by decide)).trans ((u2_q (by decide)).trans ((u2_q (by decide)).trans ((u2_q (by decide)).trans ((u2_q (by decide)).trans ((u2_q (by decide)).trans ((u2_q (by decide)).trans (u2_e)))))))), ⟨u2_e, fun q k h1 h2 h3 => (u2_o h3).trans ((u2_q (by omega)).trans ((u2_q (by omega)).trans ((u2_q (by omega)).trans ((u2_q (by omega)).trans ((u2_q (by omega)).trans ((u2_q (by omega)).trans ((u2_o h2).trans (rfl))))))))⟩⟩
  obtain ⟨o, e, I1, rfl, h⟩ := am_doQ (as := [(.inr (.inr (some 64))), (.inl box), (.inl ears)]) (Nat.le_of_ble_eq_true rfl) rfl w
  exact ⟨I1, e, h⟩
theorem k_force_b {d : Nat} {G : am_G} {I : Nat → Nat → Int} {P : Nat → Nat → Option Nat} (hS : ST G P) {ρ : Nat → Int} {n : Nat} {cl : Nat → Cl} (hE : CE G I P 65 ρ n cl) {w : Int} (hb : ¬ (w = -1 ∨ (0 ≤ w ∧ w < ρ 3))) (hR2 : 0 ≤ I 173 2 ∧ I 173 2 ≤ 1000000) : am_call am_B am_M (d + 3) 123 [(.inr (.inr (some 64))), (.inl w)] (G, I, P) = some (some (.inl (-2)), (G, am_u2 (am_u2 I 173 2 (I 173 2 + 1)) 64 16 (-2), P)) := by
  have h0 := RW_n0 hE.2.1
  have h1 := RW_n1 hE.2.1
  have h3 := RW_n3 hE.2.1
  have h8 := RW_sm hE.2.1
  refine am_doL (L := [some (.inr (.inr (some 64))), some (.inl w), none]) (Nat.le_of_ble_eq_true rfl) rfl ?_
  refine (ex_4_1 (ex_0 ?_))
  refine ex_ic0 (fun hc2 => by exfalso; omega) (fun hc2 => ?_)
  refine (ex_6_0 (ix_41r (sh_64 hS) (pt_64_0 hS) (ex_4_1 ?_)))
  have hb10 : ¬ (((0 : Int) ≤ w ∧ (w : Int) < ρ 3)) := by omega
  refine (ix_46 (S' := [(.inl 0)]) rfl (sh_65 hS) (k_hasLaw_f hS cq65 hE.1 hb10) rfl rfl (ex_if1 (fun hc => by exfalso; revert hc; decide) (fun _ => ?_)))
  refine (ex_6_0 (ex_0 (ix_46 (S' := [(.inl (-2))]) rfl (sh_64 hS) (k_refuse_n hS (k := 2) (by decide) (by decide) rfl hR2) rfl rfl ?_)))
  exact ex_53 rfl
theorem k_forcec {d : Nat} {G : am_G} {I : Nat → Nat → Int} {P : Nat → Nat → Option Nat} (hS : ST G P) {ρ : Nat → Int} {n : Nat} {cl : Nat → Cl} (hE : CE G I P 65 ρ n cl) {w_ : Int} (hb : w_ = -1 ∨ (0 ≤ w_ ∧ w_ < ρ 3)) : ∃ I1, am_call am_B am_M (d + 3) 123 [(.inr (.inr (some 64))), (.inl w_)] (G, I, P) = some (some (.inl (ρ 4)), (G, I1, P)) ∧ (CC I1 65 (am_u1 ρ 4 w_) ∧ I1 84 4 = I 84 4 ∧ TLD I I1) := by
  have h0 := RW_n0 hE.2.1
  have h1 := RW_n1 hE.2.1
  have h3 := RW_n3 hE.2.1
  have h8 := RW_sm hE.2.1
  have w : am_ex (am_call am_B am_M (d + 2)) (am_B 123) (am_B 123 0) [some (.inr (.inr (some 64))), some (.inl w_), none] [] (G, I, P) (fun o => ∃ I1, o = (some (.inl (ρ 4)), (G, I1, P)) ∧ (CC I1 65 (am_u1 ρ 4 w_) ∧ I1 84 4 = I 84 4 ∧ TLD I I1)) := by
    refine (ex_4_1 (ex_0 ?_))
    refine ex_ic0 (fun hc2 => ?_) (fun hc2 => ?_)
    · refine (ex_6_0 (ix_41r (sh_64 hS) (pt_64_0 hS) (ix_41i (v := (ρ 4)) (sh_65 hS) (CC_fo hE.1) (ex_7_2 rfl (ex_6_0 (ix_41r (sh_64 hS) (pt_64_0 hS) (ex_4_1 (ix_42i (sh_65 hS) (ex_6_0 (ex_4_2 (ix_46 (S' := [(.inl (ρ 4))]) rfl (sh_64 hS) (k_grant hS) rfl rfl ?_)))))))))))
      exact ex_53 ⟨_, rfl, CC_w65 (CCs_fo hE.1) (by omega), (u2_q (by decide)).trans (u2_q (by decide)), ⟨u2_e, fun q k h1 h2 h3 => (u2_o h3).trans (u2_q (by omega))⟩⟩
    · refine (ex_6_0 (ix_41r (sh_64 hS) (pt_64_0 hS) (ex_4_1 ?_)))
      have hb10 : ((0 : Int) ≤ w_ ∧ (w_ : Int) < ρ 3) := by omega
      refine (ix_46 (S' := [(.inl 1)]) rfl (sh_65 hS) (k_hasLaw_t hS cq65 hE.1 hb10) rfl rfl (ex_if1 (fun _ => ?_) (fun hc => by exfalso; revert hc; decide)))
      refine (ex_6_0 (ix_41r (sh_64 hS) (pt_64_0 hS) (ix_41i (v := (ρ 4)) (sh_65 hS) (CC_fo hE.1) (ex_7_2 rfl (ex_6_0 (ix_41r (sh_64 hS) (pt_64_0 hS) (ex_4_1 (ix_42i (sh_65 hS) (ex_6_0 (ex_4_2 (ix_46 (S' := [(.inl (ρ 4))]) rfl (sh_64 hS) (k_grant hS) rfl rfl ?_)))))))))))
      exact ex_53 ⟨_, rfl, CC_w65 (CCs_fo hE.1) (by omega), (u2_q (by decide)).trans (u2_q (by decide)), ⟨u2_e, fun q k h1 h2 h3 => (u2_o h3).trans (u2_q (by omega))⟩⟩
  obtain ⟨o, e, I1, rfl, h⟩ := am_doQ (as := [(.inr (.inr (some 64))), (.inl w_)]) (Nat.le_of_ble_eq_true rfl) rfl w
  exact ⟨I1, e, h⟩
theorem k_heard_b {d : Nat} {G : am_G} {I : Nat → Nat → Int} {P : Nat → Nat → Option Nat} (hS : ST G P) {ρ : Nat → Int} {n : Nat} {cl : Nat → Cl} (hE : CE G I P 65 ρ n cl) {f t : Int} (ht : ¬ (0 ≤ t ∧ t ≤ 9)) (hR1 : 0 ≤ I 173 1 ∧ I 173 1 ≤ 1000000) : am_call am_B am_M (d + 3) 134 [(.inr (.inr (some 64))), (.inl f), (.inl t)] (G, I, P) = some (some (.inl (-1)), (G, am_u2 (am_u2 I 173 1 (I 173 1 + 1)) 64 16 (-1), P)) := by
  have h0 := RW_n0 hE.2.1
  have h1 := RW_n1 hE.2.1
  have h3 := RW_n3 hE.2.1
  have h8 := RW_sm hE.2.1
  refine am_doL (L := [some (.inr (.inr (some 64))), some (.inl f), some (.inl t)]) (Nat.le_of_ble_eq_true rfl) rfl ?_
  refine (ex_4_2 (ex_0 ?_))
  have hb3 : ¬ (((0 : Int) ≤ t ∧ (t : Int) ≤ 9)) := by omega
  refine (ix_45 (S' := [(.inl 0)]) rfl (k_isWithin_f hb3) rfl rfl (ex_if1 (fun hc => by exfalso; revert hc; decide) (fun _ => ?_)))
  refine (ex_6_0 (ex_0 (ix_46 (S' := [(.inl (-1))]) rfl (sh_64 hS) (k_refuse_n hS (k := 1) (by decide) (by decide) rfl hR1) rfl rfl ?_)))
  exact ex_53 rfl
theorem k_heard_n {d : Nat} {G : am_G} {I : Nat → Nat → Int} {P : Nat → Nat → Option Nat} (hS : ST G P) {ρ : Nat → Int} {n : Nat} {cl : Nat → Cl} (hE : CE G I P 65 ρ n cl) {f t : Int} (ht : 0 ≤ t ∧ t ≤ 9) (hf : ¬ (0 ≤ f ∧ f < ρ 1)) (hR2 : 0 ≤ I 173 2 ∧ I 173 2 ≤ 1000000) : am_call am_B am_M (d + 3) 134 [(.inr (.inr (some 64))), (.inl f), (.inl t)] (G, I, P) = some (some (.inl (-2)), (G, am_u2 (am_u2 I 173 2 (I 173 2 + 1)) 64 16 (-2), P)) := by
  have h0 := RW_n0 hE.2.1
  have h1 := RW_n1 hE.2.1
  have h3 := RW_n3 hE.2.1
  have h8 := RW_sm hE.2.1
  refine am_doL (L := [some (.inr (.inr (some 64))), some (.inl f), some (.inl t)]) (Nat.le_of_ble_eq_true rfl) rfl ?_
  refine (ex_4_2 (ex_0 ?_))
  have hb3 : ((0 : Int) ≤ t ∧ (t : Int) ≤ 9) := by omega
  refine (ix_45 (S' := [(.inl 1)]) rfl (k_isWithin_t hb3) rfl rfl (ex_if1 (fun _ => ?_) (fun hc => by exfalso; revert hc; decide)))
  refine (ex_6_0 (ix_41r (sh_64 hS) (pt_64_0 hS) (ex_4_1 ?_)))
  have hb20 : ¬ (((0 : Int) ≤ f ∧ (f : Int) < ρ 1)) := by omega
  refine (ix_46 (S' := [(.inl 0)]) rfl (sh_65 hS) (k_hasFolk_f hS cq65 hE.1 hb20) rfl rfl (ex_if1 (fun hc => by exfalso; revert hc; decide) (fun _ => ?_)))
  refine (ex_6_0 (ex_0 (ix_46 (S' := [(.inl (-2))]) rfl (sh_64 hS) (k_refuse_n hS (k := 2) (by decide) (by decide) rfl hR2) rfl rfl ?_)))
  exact ex_53 rfl
theorem k_heard_r {d : Nat} {G : am_G} {I : Nat → Nat → Int} {P : Nat → Nat → Option Nat} (hS : ST G P) {ρ : Nat → Int} {n : Nat} {cl : Nat → Cl} (hE : CE G I P 65 ρ n cl) {f t : Int} (ht : 0 ≤ t ∧ t ≤ 9) (hf : 0 ≤ f ∧ f < ρ 1) (h2 : ρ 2 = 6) (hR5 : 0 ≤ I 173 5 ∧ I 173 5 ≤ 1000000) : am_call am_B am_M (d + 3) 134 [(.inr (.inr (some 64))), (.inl f), (.inl t)] (G, I, P) = some (some (.inl (-5)), (G, am_u2 (am_u2 I 173 5 (I 173 5 + 1)) 64 16 (-5), P)) := by
  have h0 := RW_n0 hE.2.1
  have h1 := RW_n1 hE.2.1
  have h3 := RW_n3 hE.2.1
  have h8 := RW_sm hE.2.1
  refine am_doL (L := [some (.inr (.inr (some 64))), some (.inl f), some (.inl t)]) (Nat.le_of_ble_eq_true rfl) rfl ?_
  refine (ex_4_2 (ex_0 ?_))
  have hb3 : ((0 : Int) ≤ t ∧ (t : Int) ≤ 9) := by omega
  refine (ix_45 (S' := [(.inl 1)]) rfl (k_isWithin_t hb3) rfl rfl (ex_if1 (fun _ => ?_) (fun hc => by exfalso; revert hc; decide)))
  refine (ex_6_0 (ix_41r (sh_64 hS) (pt_64_0 hS) (ex_4_1 ?_)))
  have hb20 : ((0 : Int) ≤ f ∧ (f : Int) < ρ 1) := by omega
  refine (ix_46 (S' := [(.inl 1)]) rfl (sh_65 hS) (k_hasFolk_t hS cq65 hE.1 hb20) rfl rfl (ex_if1 (fun _ => ?_) (fun hc => by exfalso; revert hc; decide)))
  refine (ex_6_0 (ix_41r (sh_64 hS) (pt_64_0 hS) (ix_41i (v := 6) (sh_65 hS) ((CC_n2 hE.1).trans h2) (ex_0 (ex_ic2 (fun hc => by exfalso; revert hc; decide) (fun _ => ?_))))))
  refine (ex_6_0 (ex_0 (ix_46 (S' := [(.inl (-5))]) rfl (sh_64 hS) (k_refuse_n hS (k := 5) (by decide) (by decide) rfl hR5) rfl rfl ?_)))
  exact ex_53 rfl
theorem k_heardc {d : Nat} {G : am_G} {I : Nat → Nat → Int} {P : Nat → Nat → Option Nat} (hS : ST G P) {ρ : Nat → Int} {n : Nat} {cl : Nat → Cl} (hE : CE G I P 65 ρ n cl) {f t : Int} (ht : 0 ≤ t ∧ t ≤ 9) (hf : 0 ≤ f ∧ f < ρ 1) {n0 : Nat} (h2 : ρ 2 = (n0 : Int)) (hl : n0 < 6) : ∃ I1, am_call am_B am_M (d + 3) 134 [(.inr (.inr (some 64))), (.inl f), (.inl t)] (G, I, P) = some (some (.inl ((n0 : Int) + 1)), (G, I1, P)) ∧ (CC I1 65 (am_u1 (am_u1 (am_u1 ρ (88 + 2 * n0) f) (88 + 2 * n0 + 1) t) 2 ((n0 : Int) + 1)) ∧ I1 84 4 = I 84 4 ∧ TLD I I1) := by
  have h0 := RW_n0 hE.2.1
  have h1 := RW_n1 hE.2.1
  have h3 := RW_n3 hE.2.1
  have h8 := RW_sm hE.2.1
  have w : am_ex (am_call am_B am_M (d + 2)) (am_B 134) (am_B 134 0) [some (.inr (.inr (some 64))), some (.inl f), some (.inl t)] [] (G, I, P) (fun o => ∃ I1, o = (some (.inl ((n0 : Int) + 1)), (G, I1, P)) ∧ (CC I1 65 (am_u1 (am_u1 (am_u1 ρ (88 + 2 * n0) f) (88 + 2 * n0 + 1) t) 2 ((n0 : Int) + 1)) ∧ I1 84 4 = I 84 4 ∧ TLD I I1)) := by
    refine (ex_4_2 (ex_0 ?_))
    have hb3 : ((0 : Int) ≤ t ∧ (t : Int) ≤ 9) := by omega
    refine (ix_45 (S' := [(.inl 1)]) rfl (k_isWithin_t hb3) rfl rfl (ex_if1 (fun _ => ?_) (fun hc => by exfalso; revert hc; decide)))
    refine (ex_6_0 (ix_41r (sh_64 hS) (pt_64_0 hS) (ex_4_1 ?_)))
    have hb20 : ((0 : Int) ≤ f ∧ (f : Int) < ρ 1) := by omega
    refine (ix_46 (S' := [(.inl 1)]) rfl (sh_65 hS) (k_hasFolk_t hS cq65 hE.1 hb20) rfl rfl (ex_if1 (fun _ => ?_) (fun hc => by exfalso; revert hc; decide)))
    refine (ex_6_0 (ix_41r (sh_64 hS) (pt_64_0 hS) (ix_41i (v := (n0 : Int)) (sh_65 hS) ((CC_n2 hE.1).trans h2) (ex_0 ?_))))
    refine ex_ic2 (fun hc42 => ?_) (fun hc42 => by exfalso; omega)
    refine (ex_6_0 (ix_41r (sh_64 hS) (pt_64_0 hS) (ex_4_1 (ex_4_2 (ix_46 (S' := []) rfl (sh_65 hS) (k_addHeard hS hE.1 h2 hl) rfl rfl (ex_6_0 (ex_6_0 (ix_41r (sh_64 hS) (pt_64_0 hS) (ix_41i (v := ((n0 : Int) + 1)) (sh_65 hS) u2_e (ix_46 (S' := [(.inl ((n0 : Int) + 1))]) rfl (sh_64 hS) (k_grant hS) rfl rfl ?_))))))))))
    exact ex_53 ⟨_, rfl, CC_w65 (CCs_n2 (CCs_h2 (CCs_h1 hE.1 hl) hl)) (by omega), (u2_q (by decide)).trans ((u2_q (by decide)).trans ((u2_q (by decide)).trans (u2_q (by decide)))), ⟨u2_e, fun q k h1 h2 h3 => (u2_o h3).trans ((u2_q (by omega)).trans ((u2_q (by omega)).trans (u2_q (by omega))))⟩⟩
  obtain ⟨o, e, I1, rfl, h⟩ := am_doQ (as := [(.inr (.inr (some 64))), (.inl f), (.inl t)]) (Nat.le_of_ble_eq_true rfl) rfl w
  exact ⟨I1, e, h⟩
theorem k_forgetc {d : Nat} {G : am_G} {I : Nat → Nat → Int} {P : Nat → Nat → Option Nat} (hS : ST G P) {ρ : Nat → Int} {n : Nat} {cl : Nat → Cl} (hE : CE G I P 65 ρ n cl) : ∃ I1, am_call am_B am_M (d + 3) 135 [(.inr (.inr (some 64)))] (G, I, P) = some (some (.inl (ρ 2)), (G, I1, P)) ∧ (CC I1 65 (am_u1 ρ 2 0) ∧ (∀ q k, ¬ (q = 65 ∧ k = 13) → I1 q k = I q k)) := by
  have h0 := RW_n0 hE.2.1
  have h1 := RW_n1 hE.2.1
  have h3 := RW_n3 hE.2.1
  have h8 := RW_sm hE.2.1
  have w : am_ex (am_call am_B am_M (d + 2)) (am_B 135) (am_B 135 0) [some (.inr (.inr (some 64))), none] [] (G, I, P) (fun o => ∃ I1, o = (some (.inl (ρ 2)), (G, I1, P)) ∧ (CC I1 65 (am_u1 ρ 2 0) ∧ (∀ q k, ¬ (q = 65 ∧ k = 13) → I1 q k = I q k))) := by
    refine (ex_6_0 (ix_41r (sh_64 hS) (pt_64_0 hS) (ix_41i (v := (ρ 2)) (sh_65 hS) (CC_n2 hE.1) (ex_7_1 rfl (ex_6_0 (ix_41r (sh_64 hS) (pt_64_0 hS) (ex_0 (ix_42i (sh_65 hS) (ex_4_1 ?_)))))))))
    exact ex_53 ⟨_, rfl, CCs_n2 hE.1, fun q k h => u2_o h⟩
  obtain ⟨o, e, I1, rfl, h⟩ := am_doQ (as := [(.inr (.inr (some 64)))]) (Nat.le_of_ble_eq_true rfl) rfl w
  exact ⟨I1, e, h⟩
theorem k_end_b {d : Nat} {G : am_G} {I : Nat → Nat → Int} {P : Nat → Nat → Option Nat} (hS : ST G P) {w : Int} (hb : ¬ (0 ≤ w ∧ w ≤ I 64 13)) : am_call am_B am_M (d + 2) 116 [(.inr (.inr (some 64))), (.inl w)] (G, I, P) = some (some (.inl (-1)), (G, I, P)) := by
  refine am_doL (L := [some (.inr (.inr (some 64))), some (.inl w)]) (Nat.le_of_ble_eq_true rfl) rfl ?_
  refine (ex_4_1 (ex_6_0 (ix_41i (v := (I 64 13)) (sh_64 hS) rfl ?_)))
  have hb5 : ¬ (((0 : Int) ≤ w ∧ (w : Int) ≤ (I 64 13))) := by omega
  refine (ix_45 (S' := [(.inl 0)]) rfl (k_isWithin_f hb5) rfl rfl (ex_if1 (fun hc => by exfalso; revert hc; decide) (fun _ => ?_)))
  refine (ex_0 ?_)
  exact ex_53 rfl
theorem k_endc {d : Nat} {G : am_G} {I : Nat → Nat → Int} {P : Nat → Nat → Option Nat} (hS : ST G P) {w : Int} (hb : 0 ≤ w ∧ w ≤ I 64 13) : am_call am_B am_M (d + 2) 116 [(.inr (.inr (some 64))), (.inl w)] (G, I, P) = some (some (.inl w), (G, am_u2 I 64 13 w, P)) := by
  refine am_doL (L := [some (.inr (.inr (some 64))), some (.inl w)]) (Nat.le_of_ble_eq_true rfl) rfl ?_
  refine (ex_4_1 (ex_6_0 (ix_41i (v := (I 64 13)) (sh_64 hS) rfl ?_)))
  have hb5 : ((0 : Int) ≤ w ∧ (w : Int) ≤ (I 64 13)) := by omega
  refine (ix_45 (S' := [(.inl 1)]) rfl (k_isWithin_t hb5) rfl rfl (ex_if1 (fun _ => ?_) (fun hc => by exfalso; revert hc; decide)))
  refine (ex_6_0 (ex_4_1 (ix_42i (sh_64 hS) (ex_4_1 ?_))))
  exact ex_53 rfl
theorem k_terms_0 {d : Nat} {G : am_G} {I : Nat → Nat → Int} {P : Nat → Nat → Option Nat} (hS : ST G P) {ρ : Nat → Int} {n : Nat} {cl : Nat → Cl} (hE : CE G I P 65 ρ n cl) (ht : I 1 0 = 999 ∧ I 1 1 = 10 ∧ I 1 2 = 9) {v : Int} (hv : 0 ≤ v ∧ v ≤ 999) : ∃ I1, am_call am_B am_M (d + 3) 114 [(.inr (.inr (some 64))), (.inl 0), (.inl v)] (G, I, P) = some (some (.inl (ρ 5)), (G, I1, P)) ∧ (CC I1 65 (am_u1 ρ 5 v) ∧ I1 84 4 = 0 ∧ TLD I I1) := by
  have h0 := RW_n0 hE.2.1
  have h1 := RW_n1 hE.2.1
  have h3 := RW_n3 hE.2.1
  have h8 := RW_sm hE.2.1
  have w : am_ex (am_call am_B am_M (d + 2)) (am_B 114) (am_B 114 0) [some (.inr (.inr (some 64))), some (.inl 0), some (.inl v), none] [] (G, I, P) (fun o => ∃ I1, o = (some (.inl (ρ 5)), (G, I1, P)) ∧ (CC I1 65 (am_u1 ρ 5 v) ∧ I1 84 4 = 0 ∧ TLD I I1)) := by
    refine (ex_4_1 (ex_3 (ix_38 (sh_1 hS) (by decide) (ex_0 (ex_11e (v := 2) (by decide) ?_)))))
    have hb7 : ((0 : Int) ≤ 0 ∧ (0 : Int) ≤ 2) := by omega
    refine (ix_45 (S' := [(.inl 1)]) rfl (k_isWithin_t hb7) rfl rfl (ex_if0 (fun hc => by exfalso; revert hc; decide) (fun _ => ?_)))
    refine (ex_4_2 (ex_3 (ex_4_1 (ix_30x (j := 0) (v := 999) (sh_1 hS) (by decide) (by decide) rfl ht.1 ?_))))
    have hb19 : ((0 : Int) ≤ v ∧ (v : Int) ≤ 999) := by omega
    refine (ix_45 (S' := [(.inl 1)]) rfl (k_isWithin_t hb19) rfl rfl (ex_if1 (fun _ => ?_) (fun hc => by exfalso; revert hc; decide)))
    refine (ex_6_0 (ix_41r (sh_64 hS) (pt_64_0 hS) (ix_41r (sh_65 hS) (pt_65_14 hS) (ex_4_1 (ix_30 (j := 0) (v := (ρ 5)) (sh_80 hS) (by decide) (by decide) rfl (CC_te hE.1 0 (by decide)) (ex_7_3 rfl (ex_6_0 (ix_41r (sh_64 hS) (pt_64_0 hS) (ix_41r (sh_65 hS) (pt_65_14 hS) (ex_4_1 (ex_4_2 (ix_34 (j := 0) (sh_80 hS) (by decide) (by decide) rfl (ex_6_0 (ix_41r (sh_64 hS) (pt_64_3 hS) (ix_46 (S' := []) rfl (sh_84 hS) (k_logClr hS) rfl rfl (ex_6_0 (ex_4_3 (ix_46 (S' := [(.inl (ρ 5))]) rfl (sh_64 hS) (k_grant hS) rfl rfl ?_))))))))))))))))))
    exact ex_53 ⟨_, rfl, CC_w65 (CC_84 (CCs_te hE.1 (i := 0) (by decide))) (by omega), (u2_q (by decide)).trans u2_e, ⟨u2_e, fun q k h1 h2 h3 => (u2_o h3).trans ((u2_o h2).trans (u2_q (by omega)))⟩⟩
  obtain ⟨o, e, I1, rfl, h⟩ := am_doQ (as := [(.inr (.inr (some 64))), (.inl 0), (.inl v)]) (Nat.le_of_ble_eq_true rfl) rfl w
  exact ⟨I1, e, h⟩
theorem k_terms_0b {d : Nat} {G : am_G} {I : Nat → Nat → Int} {P : Nat → Nat → Option Nat} (hS : ST G P) {ρ : Nat → Int} {n : Nat} {cl : Nat → Cl} (hE : CE G I P 65 ρ n cl) (ht : I 1 0 = 999 ∧ I 1 1 = 10 ∧ I 1 2 = 9) {v : Int} (hv : ¬ (0 ≤ v ∧ v ≤ 999)) (hR1 : 0 ≤ I 173 1 ∧ I 173 1 ≤ 1000000) : am_call am_B am_M (d + 3) 114 [(.inr (.inr (some 64))), (.inl 0), (.inl v)] (G, I, P) = some (some (.inl (-1)), (G, am_u2 (am_u2 I 173 1 (I 173 1 + 1)) 64 16 (-1), P)) := by
  have h0 := RW_n0 hE.2.1
  have h1 := RW_n1 hE.2.1
  have h3 := RW_n3 hE.2.1
  have h8 := RW_sm hE.2.1
  refine am_doL (L := [some (.inr (.inr (some 64))), some (.inl 0), some (.inl v), none]) (Nat.le_of_ble_eq_true rfl) rfl ?_
  refine (ex_4_1 (ex_3 (ix_38 (sh_1 hS) (by decide) (ex_0 (ex_11e (v := 2) (by decide) ?_)))))
  have hb7 : ((0 : Int) ≤ 0 ∧ (0 : Int) ≤ 2) := by omega
  refine (ix_45 (S' := [(.inl 1)]) rfl (k_isWithin_t hb7) rfl rfl (ex_if0 (fun hc => by exfalso; revert hc; decide) (fun _ => ?_)))
  refine (ex_4_2 (ex_3 (ex_4_1 (ix_30x (j := 0) (v := 999) (sh_1 hS) (by decide) (by decide) rfl ht.1 ?_))))
  have hb19 : ¬ (((0 : Int) ≤ v ∧ (v : Int) ≤ 999)) := by omega
  refine (ix_45 (S' := [(.inl 0)]) rfl (k_isWithin_f hb19) rfl rfl (ex_if1 (fun hc => by exfalso; revert hc; decide) (fun _ => ?_)))
  refine (ex_6_0 (ex_0 (ix_46 (S' := [(.inl (-1))]) rfl (sh_64 hS) (k_refuse_n hS (k := 1) (by decide) (by decide) rfl hR1) rfl rfl ?_)))
  exact ex_53 rfl
theorem k_terms_1 {d : Nat} {G : am_G} {I : Nat → Nat → Int} {P : Nat → Nat → Option Nat} (hS : ST G P) {ρ : Nat → Int} {n : Nat} {cl : Nat → Cl} (hE : CE G I P 65 ρ n cl) (ht : I 1 0 = 999 ∧ I 1 1 = 10 ∧ I 1 2 = 9) {v : Int} (hv : 0 ≤ v ∧ v ≤ 10) : ∃ I1, am_call am_B am_M (d + 3) 114 [(.inr (.inr (some 64))), (.inl 1), (.inl v)] (G, I, P) = some (some (.inl (ρ 6)), (G, I1, P)) ∧ (CC I1 65 (am_u1 ρ 6 v) ∧ I1 84 4 = 0 ∧ TLD I I1) := by
  have h0 := RW_n0 hE.2.1
  have h1 := RW_n1 hE.2.1
  have h3 := RW_n3 hE.2.1
  have h8 := RW_sm hE.2.1
  have w : am_ex (am_call am_B am_M (d + 2)) (am_B 114) (am_B 114 0) [some (.inr (.inr (some 64))), some (.inl 1), some (.inl v), none] [] (G, I, P) (fun o => ∃ I1, o = (some (.inl (ρ 6)), (G, I1, P)) ∧ (CC I1 65 (am_u1 ρ 6 v) ∧ I1 84 4 = 0 ∧ TLD I I1)) := by
    refine (ex_4_1 (ex_3 (ix_38 (sh_1 hS) (by decide) (ex_0 (ex_11e (v := 2) (by decide) ?_)))))
    have hb7 : ((0 : Int) ≤ 1 ∧ (1 : Int) ≤ 2) := by omega
    refine (ix_45 (S' := [(.inl 1)]) rfl (k_isWithin_t hb7) rfl rfl (ex_if0 (fun hc => by exfalso; revert hc; decide) (fun _ => ?_)))
    refine (ex_4_2 (ex_3 (ex_4_1 (ix_30x (j := 1) (v := 10) (sh_1 hS) (by decide) (by decide) rfl ht.2.1 ?_))))
    have hb19 : ((0 : Int) ≤ v ∧ (v : Int) ≤ 10) := by omega
    refine (ix_45 (S' := [(.inl 1)]) rfl (k_isWithin_t hb19) rfl rfl (ex_if1 (fun _ => ?_) (fun hc => by exfalso; revert hc; decide)))
    refine (ex_6_0 (ix_41r (sh_64 hS) (pt_64_0 hS) (ix_41r (sh_65 hS) (pt_65_14 hS) (ex_4_1 (ix_30 (j := 1) (v := (ρ 6)) (sh_80 hS) (by decide) (by decide) rfl (CC_te hE.1 1 (by decide)) (ex_7_3 rfl (ex_6_0 (ix_41r (sh_64 hS) (pt_64_0 hS) (ix_41r (sh_65 hS) (pt_65_14 hS) (ex_4_1 (ex_4_2 (ix_34 (j := 1) (sh_80 hS) (by decide) (by decide) rfl (ex_6_0 (ix_41r (sh_64 hS) (pt_64_3 hS) (ix_46 (S' := []) rfl (sh_84 hS) (k_logClr hS) rfl rfl (ex_6_0 (ex_4_3 (ix_46 (S' := [(.inl (ρ 6))]) rfl (sh_64 hS) (k_grant hS) rfl rfl ?_))))))))))))))))))
    exact ex_53 ⟨_, rfl, CC_w65 (CC_84 (CCs_te hE.1 (i := 1) (by decide))) (by omega), (u2_q (by decide)).trans u2_e, ⟨u2_e, fun q k h1 h2 h3 => (u2_o h3).trans ((u2_o h2).trans (u2_q (by omega)))⟩⟩
  obtain ⟨o, e, I1, rfl, h⟩ := am_doQ (as := [(.inr (.inr (some 64))), (.inl 1), (.inl v)]) (Nat.le_of_ble_eq_true rfl) rfl w
  exact ⟨I1, e, h⟩
theorem k_terms_1b {d : Nat} {G : am_G} {I : Nat → Nat → Int} {P : Nat → Nat → Option Nat} (hS : ST G P) {ρ : Nat → Int} {n : Nat} {cl : Nat → Cl} (hE : CE G I P 65 ρ n cl) (ht : I 1 0 = 999 ∧ I 1 1 = 10 ∧ I 1 2 = 9) {v : Int} (hv : ¬ (0 ≤ v ∧ v ≤ 10)) (hR1 : 0 ≤ I 173 1 ∧ I 173 1 ≤ 1000000) : am_call am_B am_M (d + 3) 114 [(.inr (.inr (some 64))), (.inl 1), (.inl v)] (G, I, P) = some (some (.inl (-1)), (G, am_u2 (am_u2 I 173 1 (I 173 1 + 1)) 64 16 (-1), P)) := by
  have h0 := RW_n0 hE.2.1
  have h1 := RW_n1 hE.2.1
  have h3 := RW_n3 hE.2.1
  have h8 := RW_sm hE.2.1
  refine am_doL (L := [some (.inr (.inr (some 64))), some (.inl 1), some (.inl v), none]) (Nat.le_of_ble_eq_true rfl) rfl ?_
  refine (ex_4_1 (ex_3 (ix_38 (sh_1 hS) (by decide) (ex_0 (ex_11e (v := 2) (by decide) ?_)))))
  have hb7 : ((0 : Int) ≤ 1 ∧ (1 : Int) ≤ 2) := by omega
  refine (ix_45 (S' := [(.inl 1)]) rfl (k_isWithin_t hb7) rfl rfl (ex_if0 (fun hc => by exfalso; revert hc; decide) (fun _ => ?_)))
  refine (ex_4_2 (ex_3 (ex_4_1 (ix_30x (j := 1) (v := 10) (sh_1 hS) (by decide) (by decide) rfl ht.2.1 ?_))))
  have hb19 : ¬ (((0 : Int) ≤ v ∧ (v : Int) ≤ 10)) := by omega
  refine (ix_45 (S' := [(.inl 0)]) rfl (k_isWithin_f hb19) rfl rfl (ex_if1 (fun hc => by exfalso; revert hc; decide) (fun _ => ?_)))
  refine (ex_6_0 (ex_0 (ix_46 (S' := [(.inl (-1))]) rfl (sh_64 hS) (k_refuse_n hS (k := 1) (by decide) (by decide) rfl hR1) rfl rfl ?_)))
  exact ex_53 rfl
theorem k_terms_2 {d : Nat} {G : am_G} {I : Nat → Nat → Int} {P : Nat → Nat → Option Nat} (hS : ST G P) {ρ : Nat → Int} {n : Nat} {cl : Nat → Cl} (hE : CE G I P 65 ρ n cl) (ht : I 1 0 = 999 ∧ I 1 1 = 10 ∧ I 1 2 = 9) {v : Int} (hv : 0 ≤ v ∧ v ≤ 9) : ∃ I1, am_call am_B am_M (d + 3) 114 [(.inr (.inr (some 64))), (.inl 2), (.inl v)] (G, I, P) = some (some (.inl (ρ 7)), (G, I1, P)) ∧ (CC I1 65 (am_u1 ρ 7 v) ∧ I1 84 4 = 0 ∧ TLD I I1) := by
  have h0 := RW_n0 hE.2.1
  have h1 := RW_n1 hE.2.1
  have h3 := RW_n3 hE.2.1
  have h8 := RW_sm hE.2.1
  have w : am_ex (am_call am_B am_M (d + 2)) (am_B 114) (am_B 114 0) [some (.inr (.inr (some 64))), some (.inl 2), some (.inl v), none] [] (G, I, P) (fun o => ∃ I1, o = (some (.inl (ρ 7)), (G, I1, P)) ∧ (CC I1 65 (am_u1 ρ 7 v) ∧ I1 84 4 = 0 ∧ TLD I I1)) := by
    refine (ex_4_1 (ex_3 (ix_38 (sh_1 hS) (by decide) (ex_0 (ex_11e (v := 2) (by decide) ?_)))))
    have hb7 : ((0 : Int) ≤ 2 ∧ (2 : Int) ≤ 2) := by omega
    refine (ix_45 (S' := [(.inl 1)]) rfl (k_isWithin_t hb7) rfl rfl (ex_if0 (fun hc => by exfalso; revert hc; decide) (fun _ => ?_)))
    refine (ex_4_2 (ex_3 (ex_4_1 (ix_30x (j := 2) (v := 9) (sh_1 hS) (by decide) (by decide) rfl ht.2.2 ?_))))
    have hb19 : ((0 : Int) ≤ v ∧ (v : Int) ≤ 9) := by omega
    refine (ix_45 (S' := [(.inl 1)]) rfl (k_isWithin_t hb19) rfl rfl (ex_if1 (fun _ => ?_) (fun hc => by exfalso; revert hc; decide)))
    refine (ex_6_0 (ix_41r (sh_64 hS) (pt_64_0 hS) (ix_41r (sh_65 hS) (pt_65_14 hS) (ex_4_1 (ix_30 (j := 2) (v := (ρ 7)) (sh_80 hS) (by decide) (by decide) rfl (CC_te hE.1 2 (by decide)) (ex_7_3 rfl (ex_6_0 (ix_41r (sh_64 hS) (pt_64_0 hS) (ix_41r (sh_65 hS) (pt_65_14 hS) (ex_4_1 (ex_4_2 (ix_34 (j := 2) (sh_80 hS) (by decide) (by decide) rfl (ex_6_0 (ix_41r (sh_64 hS) (pt_64_3 hS) (ix_46 (S' := []) rfl (sh_84 hS) (k_logClr hS) rfl rfl (ex_6_0 (ex_4_3 (ix_46 (S' := [(.inl (ρ 7))]) rfl (sh_64 hS) (k_grant hS) rfl rfl ?_))))))))))))))))))
    exact ex_53 ⟨_, rfl, CC_w65 (CC_84 (CCs_te hE.1 (i := 2) (by decide))) (by omega), (u2_q (by decide)).trans u2_e, ⟨u2_e, fun q k h1 h2 h3 => (u2_o h3).trans ((u2_o h2).trans (u2_q (by omega)))⟩⟩
  obtain ⟨o, e, I1, rfl, h⟩ := am_doQ (as := [(.inr (.inr (some 64))), (.inl 2), (.inl v)]) (Nat.le_of_ble_eq_true rfl) rfl w
  exact ⟨I1, e, h⟩
theorem k_terms_2b {d : Nat} {G : am_G} {I : Nat → Nat → Int} {P : Nat → Nat → Option Nat} (hS : ST G P) {ρ : Nat → Int} {n : Nat} {cl : Nat → Cl} (hE : CE G I P 65 ρ n cl) (ht : I 1 0 = 999 ∧ I 1 1 = 10 ∧ I 1 2 = 9) {v : Int} (hv : ¬ (0 ≤ v ∧ v ≤ 9)) (hR1 : 0 ≤ I 173 1 ∧ I 173 1 ≤ 1000000) : am_call am_B am_M (d + 3) 114 [(.inr (.inr (some 64))), (.inl 2), (.inl v)] (G, I, P) = some (some (.inl (-1)), (G, am_u2 (am_u2 I 173 1 (I 173 1 + 1)) 64 16 (-1), P)) := by
  have h0 := RW_n0 hE.2.1
  have h1 := RW_n1 hE.2.1
  have h3 := RW_n3 hE.2.1
  have h8 := RW_sm hE.2.1
  refine am_doL (L := [some (.inr (.inr (some 64))), some (.inl 2), some (.inl v), none]) (Nat.le_of_ble_eq_true rfl) rfl ?_
  refine (ex_4_1 (ex_3 (ix_38 (sh_1 hS) (by decide) (ex_0 (ex_11e (v := 2) (by decide) ?_)))))
  have hb7 : ((0 : Int) ≤ 2 ∧ (2 : Int) ≤ 2) := by omega
  refine (ix_45 (S' := [(.inl 1)]) rfl (k_isWithin_t hb7) rfl rfl (ex_if0 (fun hc => by exfalso; revert hc; decide) (fun _ => ?_)))
  refine (ex_4_2 (ex_3 (ex_4_1 (ix_30x (j := 2) (v := 9) (sh_1 hS) (by decide) (by decide) rfl ht.2.2 ?_))))
  have hb19 : ¬ (((0 : Int) ≤ v ∧ (v : Int) ≤ 9)) := by omega
  refine (ix_45 (S' := [(.inl 0)]) rfl (k_isWithin_f hb19) rfl rfl (ex_if1 (fun hc => by exfalso; revert hc; decide) (fun _ => ?_)))
  refine (ex_6_0 (ex_0 (ix_46 (S' := [(.inl (-1))]) rfl (sh_64 hS) (k_refuse_n hS (k := 1) (by decide) (by decide) rfl hR1) rfl rfl ?_)))
  exact ex_53 rfl
theorem k_terms_b {d : Nat} {G : am_G} {I : Nat → Nat → Int} {P : Nat → Nat → Option Nat} (hS : ST G P) {ρ : Nat → Int} {n : Nat} {cl : Nat → Cl} (hE : CE G I P 65 ρ n cl) {w v : Int} (hw : ¬ (0 ≤ w ∧ w ≤ 2)) (hR1 : 0 ≤ I 173 1 ∧ I 173 1 ≤ 1000000) : am_call am_B am_M (d + 3) 114 [(.inr (.inr (some 64))), (.inl w), (.inl v)] (G, I, P) = some (some (.inl (-1)), (G, am_u2 (am_u2 I 173 1 (I 173 1 + 1)) 64 16 (-1), P)) := by
  have h0 := RW_n0 hE.2.1
  have h1 := RW_n1 hE.2.1
  have h3 := RW_n3 hE.2.1
  have h8 := RW_sm hE.2.1
  refine am_doL (L := [some (.inr (.inr (some 64))), some (.inl w), some (.inl v), none]) (Nat.le_of_ble_eq_true rfl) rfl ?_
  refine (ex_4_1 (ex_3 (ix_38 (sh_1 hS) (by decide) (ex_0 (ex_11e (v := 2) (by decide) ?_)))))
  have hb7 : ¬ (((0 : Int) ≤ w ∧ (w : Int) ≤ 2)) := by omega
  refine (ix_45 (S' := [(.inl 0)]) rfl (k_isWithin_f hb7) rfl rfl (ex_if0 (fun _ => ?_) (fun hc => by exfalso; revert hc; decide)))
  refine (ex_6_0 (ex_0 (ix_46 (S' := [(.inl (-1))]) rfl (sh_64 hS) (k_refuse_n hS (k := 1) (by decide) (by decide) rfl hR1) rfl rfl ?_)))
  exact ex_53 rfl
