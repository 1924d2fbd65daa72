/-! ===== the class: nights, and what is taken back ===== -/
theorem pk_step {s a i : Nat} (hs : s < 2 ^ (3 * i)) (ha : a < 8) : s ||| (a <<< (3 * i)) < 2 ^ (3 * (i + 1)) := by
  rw [Nat.shiftLeft_eq]
  apply Nat.or_lt_two_pow
  · exact Nat.lt_of_lt_of_le hs (Nat.pow_le_pow_right (by decide) (by omega))
  · rw [show 3 * (i + 1) = 3 + 3 * i by omega, Nat.pow_add]
    exact (Nat.mul_lt_mul_right (Nat.two_pow_pos _)).mpr ha
theorem pk_or {s a i : Nat} (hs : s < 2 ^ (3 * i)) : s ||| (a <<< (3 * i)) = s + a * 2 ^ (3 * i) := by
  rw [Nat.or_comm, ← Nat.shiftLeft_add_eq_or_of_lt hs a, Nat.shiftLeft_eq]; omega
theorem pk_18 {i : Nat} (hi : i < 6) : 2 ^ (3 * (i + 1)) ≤ 2 ^ 18 := Nat.pow_le_pow_right (by decide) (by omega)
theorem pk_b {a i : Nat} (ha : a < 8) (hi : i < 6) : a <<< (3 * i) < 2 ^ 31 := by
  have h1 := pk_step (s := 0) (i := i) (Nat.two_pow_pos _) ha
  rw [Nat.zero_or] at h1
  exact Nat.lt_of_lt_of_le h1 (Nat.le_trans (pk_18 hi) (by decide))
def pkp (p : Nat → Nat) (k : Nat) : Nat := am_it (fun i s => s ||| (p i <<< (3 * i))) k 0 0
theorem pkp_lt {p : Nat → Nat} (hp : ∀ i, i < 6 → p i < 8) {k : Nat} (hk : k ≤ 6) : pkp p k < 2 ^ (3 * k) := am_it_inv (f := fun i s => s ||| (p i <<< (3 * i))) (inv := fun i s => s < 2 ^ (3 * i)) (N := k) (fun i s hi h => pk_step h (hp i (by omega))) k 0 0 (by omega) (by decide)
theorem pkp_succ {p : Nat → Nat} (hp : ∀ i, i < 6 → p i < 8) {k : Nat} (hk : k < 6) : pkp p (k + 1) = pkp p k + p k * 2 ^ (3 * k) := by
  have h := pkp_lt hp (show k ≤ 6 by omega)
  show am_it (fun i s => s ||| (p i <<< (3 * i))) (k + 1) 0 0 = _
  rw [am_it_succ, Nat.zero_add]
  exact pk_or h
theorem pkp_eq {p : Nat → Nat} (hp : ∀ i, i < 6 → p i < 8) : pkp p 6 = p 0 + p 1 * 8 + p 2 * 64 + p 3 * 512 + p 4 * 4096 + p 5 * 32768 := by
  have e0 := pkp_succ hp (show 0 < 6 by decide)
  have e1 := pkp_succ hp (show 1 < 6 by decide)
  have e2 := pkp_succ hp (show 2 < 6 by decide)
  have e3 := pkp_succ hp (show 3 < 6 by decide)
  have e4 := pkp_succ hp (show 4 < 6 by decide)
  have e5 := pkp_succ hp (show 5 < 6 by decide)
  have z : pkp p 0 = 0 := rfl
  simp only [Nat.reduceMul, Nat.reducePow, Nat.reduceAdd] at e0 e1 e2 e3 e4 e5
  omega
theorem pkp_at {p : Nat → Nat} (hp : ∀ i, i < 6 → p i < 8) {i : Nat} (hi : i < 6) : pkp p 6 >>> (3 * i) &&& 7 = p i := by
  have e := pkp_eq hp
  have h0 := hp 0 (by decide)
  have h1 := hp 1 (by decide)
  have h2 := hp 2 (by decide)
  have h3 := hp 3 (by decide)
  have h4 := hp 4 (by decide)
  have h5 := hp 5 (by decide)
  rw [Nat.shiftRight_eq_div_pow, show pkp p 6 / 2 ^ (3 * i) &&& 7 = pkp p 6 / 2 ^ (3 * i) % 8 from Nat.and_two_pow_sub_one_eq_mod _ 3]
  have : i = 0 ∨ i = 1 ∨ i = 2 ∨ i = 3 ∨ i = 4 ∨ i = 5 := by omega
  rcases this with rfl | rfl | rfl | rfl | rfl | rfl <;> simp only [Nat.reduceMul, Nat.reducePow] <;> omega
/-- all places in one number -/
def pk (ρ : Nat → Int) : Nat := pkp (fun i => (ρ (9 + i)).toNat) 6
theorem pk_p {ρ : Nat → Int} (h : RW ρ) : ∀ i, i < 6 → (fun i => (ρ (9 + i)).toNat) i < 8 := fun i hi => by
  have := RW_at h i hi
  show (ρ (9 + i)).toNat < 8
  omega
theorem pk_l18 {ρ : Nat → Int} (h : RW ρ) : pk ρ < 2 ^ 18 := pkp_lt (pk_p h) (Nat.le_refl _)
theorem pk_at {ρ : Nat → Int} (h : RW ρ) {i : Nat} (hi : i < 6) : ((pk ρ >>> (3 * i) &&& 7 : Nat) : Int) = ρ (9 + i) := by
  have e : pk ρ >>> (3 * i) &&& 7 = (ρ (9 + i)).toNat := pkp_at (pk_p h) hi
  have := RW_at h i hi
  rw [e]; omega
/-- a deed taken back -/
def und (d w b : Int) (ρ : Nat → Int) : Nat → Int := if d = 0 then (if w < 5 then am_u1 ρ (25 + w.toNat) b else am_u1 ρ (20 + (w - 5).toNat) b) else if d = 1 then am_u1 ρ (15 + w.toNat) b else if d = 2 then am_u1 ρ 8 b else am_u1 (am_cp (fun i => ((b.toNat >>> (3 * i) &&& 7 : Nat) : Int)) ρ 0 9 6) 5 (ρ 5 - 1)
def und_ok (d w b : Int) : Prop := (d = 0 ∧ 0 ≤ w ∧ w < 10) ∨ (d = 1 ∧ 0 ≤ w ∧ w < 5) ∨ d = 2 ∨ (d = 3 ∧ 0 ≤ b ∧ b < 262144)
theorem k_packed_n {d : Nat} {G : am_G} {I : Nat → Nat → Int} {P : Nat → Nat → Option Nat} (hS : ST G P) {ρ : Nat → Int} {n : Nat} {cl : Nat → Cl} (hE : CE G I P 65 ρ n cl) : am_call am_B am_M (d + 1) 26 [(.inr (.inr (some 91)))] (G, I, P) = some (some (.inl ((pk ρ : Nat) : Int)), (G, I, P)) := by
  refine am_doL (L := [some (.inr (.inr (some 91))), none, none]) (Nat.le_of_ble_eq_true rfl) rfl ?_
  refine (ex_0 (ex_7_1 rfl (ex_0 (ex_7_2 rfl (ex_58 ?_)))))
  refine ex_forH (b := 1) (σ := Nat) (6) (fun i s => s ||| ((ρ (9 + i)).toNat <<< (3 * i))) (fun i s => s < 2 ^ (3 * i)) (fun i s e_i => [some (.inr (.inr (some 91))), some (.inl (s : Int)), some (.inl (i : Int))]) (fun i s => (G, I, P)) ?_ ?_ (6) (0) (0) (fun k_ => ([some (.inr (.inr (some 91))), some (.inl 0), some (.inl 0)] : am_L).getD k_ none) (by omega) (by decide) rfl (rfl) ?_
  · intro i s hii hvi
    have hat := RW_at hE.2.1 i hii
    exact pk_step hvi (by omega)
  · intro i s e_i hii hvi s' hsi hki
    have hvi : s < 2 ^ (3 * i) := hvi
    have hat := RW_at hE.2.1 i hii
    have hs31 : s < 2 ^ 31 := Nat.lt_of_lt_of_le hvi (Nat.le_trans (Nat.pow_le_pow_right (by decide) (show 3 * i ≤ 18 by omega)) (by decide))
    refine (ex_4_2 (ex_0 ?_))
    refine ex_ic3 (fun hc7 => by exfalso; omega) (fun hc7 => ?_)
    refine (ex_4_1 (ex_6_0 (ix_41r (sh_91 hS) (pt_91_0 hS) (ix_41r (sh_65 hS) (pt_65_3 hS) (ex_4_2 (ix_30 (j := i) (v := ((ρ (9 + i)).toNat : Int)) (sh_72 hS) (by omega) (by omega) (by omega) ((CC_at hE.1 i hii).trans (Int.toNat_of_nonneg hat.1).symm) (ex_0 (ex_4_2 (ex_mul ⟨by omega, by omega⟩ (ex_11e (v := ((((ρ (9 + i)).toNat <<< (3 * i)) : Nat) : Int)) (by have e := am_shl (a := (ρ (9 + i)).toNat) (k := 3 * i) (by omega) (pk_b (by omega) hii); rw [show ((3 * i : Nat) : Int) = 3 * (i : Int) by omega] at e; exact e) (ex_11e (am_or (a := s) (b := ((ρ (9 + i)).toNat <<< (3 * i))) hs31 (pk_b (by omega) hii)) (ex_7_1 rfl (ex_10_2 ⟨by omega, by omega⟩ rfl (ex_28 ?_))))))))))))))
    rw [hsi] at hki
    exact hki (fun k_ => ([some (.inr (.inr (some 91))), some (.inl (((s ||| ((ρ (9 + i)).toNat <<< (3 * i))) : Nat) : Int)), some (.inl ((i : Int) + 1))] : am_L).getD k_ none)
  · intro s e_i hsi hvi
    refine (ex_4_2 (ex_0 ?_))
    refine ex_ic3 (fun hc7 => ?_) (fun hc7 => by exfalso; omega)
    refine (ex_4_1 ?_)
    exact ex_53 (by rw [hsi]; rfl)
theorem k_night_n_n {d : Nat} {G : am_G} {I : Nat → Nat → Int} {P : Nat → Nat → Option Nat} (hS : ST G P) {ρ : Nat → Int} {n : Nat} {cl : Nat → Cl} (hE : CE G I P 65 ρ n cl) (h9 : ¬ ρ 5 < 999) (ht1 : I 1 0 = 999) : am_call am_B am_M (d + 5) 25 [(.inr (.inr (some 91)))] (G, I, P) = some (some (.inl (-3)), (G, I, P)) := by
  refine am_doL (L := [some (.inr (.inr (some 91)))]) (Nat.le_of_ble_eq_true rfl) rfl ?_
  refine (ex_6_0 (ix_41r (sh_91 hS) (pt_91_0 hS) (ix_41r (sh_65 hS) (pt_65_14 hS) (ex_0 (ix_30 (j := 0) (v := (ρ 5)) (sh_80 hS) (by decide) (by decide) rfl (CC_te hE.1 0 (by decide)) (ex_3 (ex_0 (ix_30x (j := 0) (v := 999) (sh_1 hS) (by decide) (by decide) rfl ht1 ?_))))))))
  refine ex_ic2 (fun hc14 => by exfalso; omega) (fun hc14 => ?_)
  refine (ex_0 ?_)
  exact ex_53 rfl
theorem k_night_n {d : Nat} {G : am_G} {I : Nat → Nat → Int} {P : Nat → Nat → Option Nat} (hS : ST G P) {ρ : Nat → Int} {n : Nat} {cl : Nat → Cl} (hE : CE G I P 65 ρ n cl) (h9 : ρ 5 < 999) (ht1 : I 1 0 = 999) {nx u : Nat} (hnx : I 84 3 = (nx : Int)) (hn16 : nx < 16) (hu : I 84 4 = (u : Int)) (hu16 : u ≤ 16) : ∃ I1, am_call am_B am_M (d + 5) 25 [(.inr (.inr (some 91)))] (G, I, P) = some (some (.inl (m_pass ρ n cl 5)), (G, I1, P)) ∧ (CE G I1 P 65 (m_pass ρ n cl) n cl ∧ LGk I I1 84 nx u 3 (-1) ((pk ρ : Nat) : Int) ∧ DFK I I1 65 84) := by
  have h06 := RW_n0 hE.2.1
  have w : am_ex (am_call am_B am_M (d + 4)) (am_B 25) (am_B 25 0) [some (.inr (.inr (some 91)))] [] (G, I, P) (fun o => ∃ I1, o = (some (.inl (m_pass ρ n cl 5)), (G, I1, P)) ∧ (CE G I1 P 65 (m_pass ρ n cl) n cl ∧ LGk I I1 84 nx u 3 (-1) ((pk ρ : Nat) : Int) ∧ DFK I I1 65 84)) := by
    refine (ex_6_0 (ix_41r (sh_91 hS) (pt_91_0 hS) (ix_41r (sh_65 hS) (pt_65_14 hS) (ex_0 (ix_30 (j := 0) (v := (ρ 5)) (sh_80 hS) (by decide) (by decide) rfl (CC_te hE.1 0 (by decide)) (ex_3 (ex_0 (ix_30x (j := 0) (v := 999) (sh_1 hS) (by decide) (by decide) rfl ht1 ?_))))))))
    refine ex_ic2 (fun hc14 => ?_) (fun hc14 => by exfalso; omega)
    refine (ex_6_0 (ix_41r (sh_91 hS) (pt_91_1 hS) (ex_0 (ex_0 (ex_6_0 (ix_46 (S' := [(.inl ((pk ρ) : Int)), (.inl (-1)), (.inl 3), (.inr (.inr (some 84)))]) rfl (sh_91 hS) (k_packed_n hS hE) rfl rfl (ix_46 (S' := []) rfl (sh_84 hS) (k_keep_n hS hnx hn16 hu hu16) rfl rfl (ex_6_0 (ix_41r (sh_91 hS) (pt_91_2 hS) (ex_6_0 (ix_41r (sh_91 hS) (pt_91_0 hS) ?_)))))))))))
    have hEK : CE G (am_u2 (am_u2 (am_u2 (am_u2 (am_u2 I 85 nx 3) 86 nx (-1)) 87 nx ((pk ρ) : Int)) 84 3 (((nx + 1) % 16 : Nat) : Int)) 84 4 ((rem_n u : Nat) : Int)) P 65 ρ n cl := CE_set hE (CC_fr hE.1 (fun q k _ _ _ => keep_fr (lg := 84) (by omega))) hE.2.1 rfl (fun q k h => keep_fr (lg := 84) (by omega))
    obtain ⟨J, eJ, hEJ, fJ⟩ := k_letGo (d := d) hS cq65 hEK (N := (ρ 0).toNat) (by omega) (by omega)
    refine (ix_46 (S' := []) rfl (sh_88 hS) eJ rfl rfl (ex_6_0 (ix_41r (sh_91 hS) (pt_91_0 hS) (ix_41r (sh_65 hS) (pt_65_14 hS) (ex_0 (ix_30 (j := 0) (v := ((m_pass ρ n cl) 5)) (sh_80 hS) (by decide) (by decide) rfl (CC_te hEJ.1 0 (by decide)) ?_))))))
    exact ex_53 ⟨J, rfl, hEJ, LGk_fr (LGk_keep (lg := 84)) (fun _ _ _ _ => rfl) (fun q k _ _ => fJ q k (by omega) (by omega) (by omega) (by omega)), fun q k h1 h2 h3 h4 => (fJ q k h2 h3 (by omega) (by omega)).trans (keep_fr (lg := 84) h1)⟩
  obtain ⟨o, e, I1, rfl, h⟩ := am_doQ (as := [(.inr (.inr (some 91)))]) (Nat.le_of_ble_eq_true rfl) rfl w
  exact ⟨I1, e, h⟩
theorem k_packed_s {d : Nat} {G : am_G} {I : Nat → Nat → Int} {P : Nat → Nat → Option Nat} (hS : ST G P) {ρ : Nat → Int} {n : Nat} {cl : Nat → Cl} (hE : CE G I P 139 ρ n cl) : am_call am_B am_M (d + 1) 26 [(.inr (.inr (some 156)))] (G, I, P) = some (some (.inl ((pk ρ : Nat) : Int)), (G, I, P)) := by
  refine am_doL (L := [some (.inr (.inr (some 156))), none, none]) (Nat.le_of_ble_eq_true rfl) rfl ?_
  refine (ex_0 (ex_7_1 rfl (ex_0 (ex_7_2 rfl (ex_58 ?_)))))
  refine ex_forH (b := 1) (σ := Nat) (6) (fun i s => s ||| ((ρ (9 + i)).toNat <<< (3 * i))) (fun i s => s < 2 ^ (3 * i)) (fun i s e_i => [some (.inr (.inr (some 156))), some (.inl (s : Int)), some (.inl (i : Int))]) (fun i s => (G, I, P)) ?_ ?_ (6) (0) (0) (fun k_ => ([some (.inr (.inr (some 156))), some (.inl 0), some (.inl 0)] : am_L).getD k_ none) (by omega) (by decide) rfl (rfl) ?_
  · intro i s hii hvi
    have hat := RW_at hE.2.1 i hii
    exact pk_step hvi (by omega)
  · intro i s e_i hii hvi s' hsi hki
    have hvi : s < 2 ^ (3 * i) := hvi
    have hat := RW_at hE.2.1 i hii
    have hs31 : s < 2 ^ 31 := Nat.lt_of_lt_of_le hvi (Nat.le_trans (Nat.pow_le_pow_right (by decide) (show 3 * i ≤ 18 by omega)) (by decide))
    refine (ex_4_2 (ex_0 ?_))
    refine ex_ic3 (fun hc7 => by exfalso; omega) (fun hc7 => ?_)
    refine (ex_4_1 (ex_6_0 (ix_41r (sh_156 hS) (pt_156_0 hS) (ix_41r (sh_139 hS) (pt_139_3 hS) (ex_4_2 (ix_30 (j := i) (v := ((ρ (9 + i)).toNat : Int)) (sh_146 hS) (by omega) (by omega) (by omega) ((CC_at hE.1 i hii).trans (Int.toNat_of_nonneg hat.1).symm) (ex_0 (ex_4_2 (ex_mul ⟨by omega, by omega⟩ (ex_11e (v := ((((ρ (9 + i)).toNat <<< (3 * i)) : Nat) : Int)) (by have e := am_shl (a := (ρ (9 + i)).toNat) (k := 3 * i) (by omega) (pk_b (by omega) hii); rw [show ((3 * i : Nat) : Int) = 3 * (i : Int) by omega] at e; exact e) (ex_11e (am_or (a := s) (b := ((ρ (9 + i)).toNat <<< (3 * i))) hs31 (pk_b (by omega) hii)) (ex_7_1 rfl (ex_10_2 ⟨by omega, by omega⟩ rfl (ex_28 ?_))))))))))))))
    rw [hsi] at hki
    exact hki (fun k_ => ([some (.inr (.inr (some 156))), some (.inl (((s ||| ((ρ (9 + i)).toNat <<< (3 * i))) : Nat) : Int)), some (.inl ((i : Int) + 1))] : am_L).getD k_ none)
  · intro s e_i hsi hvi
    refine (ex_4_2 (ex_0 ?_))
    refine ex_ic3 (fun hc7 => ?_) (fun hc7 => by exfalso; omega)
    refine (ex_4_1 ?_)
    exact ex_53 (by rw [hsi]; rfl)
theorem k_night_s_n {d : Nat} {G : am_G} {I : Nat → Nat → Int} {P : Nat → Nat → Option Nat} (hS : ST G P) {ρ : Nat → Int} {n : Nat} {cl : Nat → Cl} (hE : CE G I P 139 ρ n cl) (h9 : ¬ ρ 5 < 999) (ht1 : I 1 0 = 999) : am_call am_B am_M (d + 5) 25 [(.inr (.inr (some 156)))] (G, I, P) = some (some (.inl (-3)), (G, I, P)) := by
  refine am_doL (L := [some (.inr (.inr (some 156)))]) (Nat.le_of_ble_eq_true rfl) rfl ?_
  refine (ex_6_0 (ix_41r (sh_156 hS) (pt_156_0 hS) (ix_41r (sh_139 hS) (pt_139_14 hS) (ex_0 (ix_30 (j := 0) (v := (ρ 5)) (sh_154 hS) (by decide) (by decide) rfl (CC_te hE.1 0 (by decide)) (ex_3 (ex_0 (ix_30x (j := 0) (v := 999) (sh_1 hS) (by decide) (by decide) rfl ht1 ?_))))))))
  refine ex_ic2 (fun hc14 => by exfalso; omega) (fun hc14 => ?_)
  refine (ex_0 ?_)
  exact ex_53 rfl
theorem k_night_s {d : Nat} {G : am_G} {I : Nat → Nat → Int} {P : Nat → Nat → Option Nat} (hS : ST G P) {ρ : Nat → Int} {n : Nat} {cl : Nat → Cl} (hE : CE G I P 139 ρ n cl) (h9 : ρ 5 < 999) (ht1 : I 1 0 = 999) {nx u : Nat} (hnx : I 157 3 = (nx : Int)) (hn16 : nx < 16) (hu : I 157 4 = (u : Int)) (hu16 : u ≤ 16) : ∃ I1, am_call am_B am_M (d + 5) 25 [(.inr (.inr (some 156)))] (G, I, P) = some (some (.inl (m_pass ρ n cl 5)), (G, I1, P)) ∧ (CE G I1 P 139 (m_pass ρ n cl) n cl ∧ LGk I I1 157 nx u 3 (-1) ((pk ρ : Nat) : Int) ∧ DFK I I1 139 157) := by
  have h06 := RW_n0 hE.2.1
  have w : am_ex (am_call am_B am_M (d + 4)) (am_B 25) (am_B 25 0) [some (.inr (.inr (some 156)))] [] (G, I, P) (fun o => ∃ I1, o = (some (.inl (m_pass ρ n cl 5)), (G, I1, P)) ∧ (CE G I1 P 139 (m_pass ρ n cl) n cl ∧ LGk I I1 157 nx u 3 (-1) ((pk ρ : Nat) : Int) ∧ DFK I I1 139 157)) := by
    refine (ex_6_0 (ix_41r (sh_156 hS) (pt_156_0 hS) (ix_41r (sh_139 hS) (pt_139_14 hS) (ex_0 (ix_30 (j := 0) (v := (ρ 5)) (sh_154 hS) (by decide) (by decide) rfl (CC_te hE.1 0 (by decide)) (ex_3 (ex_0 (ix_30x (j := 0) (v := 999) (sh_1 hS) (by decide) (by decide) rfl ht1 ?_))))))))
    refine ex_ic2 (fun hc14 => ?_) (fun hc14 => by exfalso; omega)
    refine (ex_6_0 (ix_41r (sh_156 hS) (pt_156_1 hS) (ex_0 (ex_0 (ex_6_0 (ix_46 (S' := [(.inl ((pk ρ) : Int)), (.inl (-1)), (.inl 3), (.inr (.inr (some 157)))]) rfl (sh_156 hS) (k_packed_s hS hE) rfl rfl (ix_46 (S' := []) rfl (sh_157 hS) (k_keep_s hS hnx hn16 hu hu16) rfl rfl (ex_6_0 (ix_41r (sh_156 hS) (pt_156_2 hS) (ex_6_0 (ix_41r (sh_156 hS) (pt_156_0 hS) ?_)))))))))))
    have hEK : CE G (am_u2 (am_u2 (am_u2 (am_u2 (am_u2 I 158 nx 3) 159 nx (-1)) 160 nx ((pk ρ) : Int)) 157 3 (((nx + 1) % 16 : Nat) : Int)) 157 4 ((rem_n u : Nat) : Int)) P 139 ρ n cl := CE_set hE (CC_fr hE.1 (fun q k _ _ _ => keep_fr (lg := 157) (by omega))) hE.2.1 rfl (fun q k h => keep_fr (lg := 157) (by omega))
    obtain ⟨J, eJ, hEJ, fJ⟩ := k_letGo (d := d) hS cq139 hEK (N := (ρ 0).toNat) (by omega) (by omega)
    refine (ix_46 (S' := []) rfl (sh_88 hS) eJ rfl rfl (ex_6_0 (ix_41r (sh_156 hS) (pt_156_0 hS) (ix_41r (sh_139 hS) (pt_139_14 hS) (ex_0 (ix_30 (j := 0) (v := ((m_pass ρ n cl) 5)) (sh_154 hS) (by decide) (by decide) rfl (CC_te hEJ.1 0 (by decide)) ?_))))))
    exact ex_53 ⟨J, rfl, hEJ, LGk_fr (LGk_keep (lg := 157)) (fun _ _ _ _ => rfl) (fun q k _ _ => fJ q k (by omega) (by omega) (by omega) (by omega)), fun q k h1 h2 h3 h4 => (fJ q k h2 h3 (by omega) (by omega)).trans (keep_fr (lg := 157) h1)⟩
  obtain ⟨o, e, I1, rfl, h⟩ := am_doQ (as := [(.inr (.inr (some 156)))]) (Nat.le_of_ble_eq_true rfl) rfl w
  exact ⟨I1, e, h⟩
theorem k_latest {d : Nat} {G : am_G} {I : Nat → Nat → Int} {P : Nat → Nat → Option Nat} (hS : ST G P) {nx : Nat} (hnx : I 84 3 = (nx : Int)) (hn16 : nx < 16) : am_call am_B am_M (d + 1) 44 [(.inr (.inr (some 84)))] (G, I, P) = some (some (.inl ((((nx + 15) % 16) : Nat) : Int)), (G, I, P)) := by
  refine am_doL (L := [some (.inr (.inr (some 84)))]) (Nat.le_of_ble_eq_true rfl) rfl ?_
  refine (ex_6_0 (ix_41i (v := (nx : Int)) (sh_84 hS) hnx (ex_0 (ex_add ⟨by omega, by omega⟩ (ex_0 (ex_sub ⟨by omega, by omega⟩ (ex_0 (ex_12 (v := ((((nx + 15) % 16) : Nat) : Int)) (by decide) ((am_d4r (by omega) (by decide) (by omega) (by decide)).trans (by omega)) ?_))))))))
  exact ex_53 rfl
theorem k_latestDeed {d : Nat} {G : am_G} {I : Nat → Nat → Int} {P : Nat → Nat → Option Nat} (hS : ST G P) {nx : Nat} (hnx : I 84 3 = (nx : Int)) (hn16 : nx < 16) : am_call am_B am_M (d + 2) 45 [(.inr (.inr (some 84)))] (G, I, P) = some (some (.inl (I 85 ((nx + 15) % 16))), (G, I, P)) := by
  refine am_doL (L := [some (.inr (.inr (some 84)))]) (Nat.le_of_ble_eq_true rfl) rfl ?_
  refine (ex_6_0 (ix_41r (sh_84 hS) (pt_84_0 hS) (ex_6_0 (ix_46 (S' := [(.inl ((((nx + 15) % 16) : Nat) : Int)), (.inr (.inr (some 85)))]) rfl (sh_84 hS) (k_latest hS hnx hn16) rfl rfl (ix_30 (j := ((nx + 15) % 16)) (v := (I 85 ((nx + 15) % 16))) (sh_85 hS) (by omega) (by omega) (by omega) rfl ?_)))))
  exact ex_53 rfl
theorem k_latestWhom {d : Nat} {G : am_G} {I : Nat → Nat → Int} {P : Nat → Nat → Option Nat} (hS : ST G P) {nx : Nat} (hnx : I 84 3 = (nx : Int)) (hn16 : nx < 16) : am_call am_B am_M (d + 2) 46 [(.inr (.inr (some 84)))] (G, I, P) = some (some (.inl (I 86 ((nx + 15) % 16))), (G, I, P)) := by
  refine am_doL (L := [some (.inr (.inr (some 84)))]) (Nat.le_of_ble_eq_true rfl) rfl ?_
  refine (ex_6_0 (ix_41r (sh_84 hS) (pt_84_1 hS) (ex_6_0 (ix_46 (S' := [(.inl ((((nx + 15) % 16) : Nat) : Int)), (.inr (.inr (some 86)))]) rfl (sh_84 hS) (k_latest hS hnx hn16) rfl rfl (ix_30 (j := ((nx + 15) % 16)) (v := (I 86 ((nx + 15) % 16))) (sh_86 hS) (by omega) (by omega) (by omega) rfl ?_)))))
  exact ex_53 rfl
theorem k_latestBefore {d : Nat} {G : am_G} {I : Nat → Nat → Int} {P : Nat → Nat → Option Nat} (hS : ST G P) {nx : Nat} (hnx : I 84 3 = (nx : Int)) (hn16 : nx < 16) : am_call am_B am_M (d + 2) 47 [(.inr (.inr (some 84)))] (G, I, P) = some (some (.inl (I 87 ((nx + 15) % 16))), (G, I, P)) := by
  refine am_doL (L := [some (.inr (.inr (some 84)))]) (Nat.le_of_ble_eq_true rfl) rfl ?_
  refine (ex_6_0 (ix_41r (sh_84 hS) (pt_84_2 hS) (ex_6_0 (ix_46 (S' := [(.inl ((((nx + 15) % 16) : Nat) : Int)), (.inr (.inr (some 87)))]) rfl (sh_84 hS) (k_latest hS hnx hn16) rfl rfl (ix_30 (j := ((nx + 15) % 16)) (v := (I 87 ((nx + 15) % 16))) (sh_87 hS) (by omega) (by omega) (by omega) rfl ?_)))))
  exact ex_53 rfl
theorem k_drop {d : Nat} {G : am_G} {I : Nat → Nat → Int} {P : Nat → Nat → Option Nat} (hS : ST G P) {nx : Nat} (hnx : I 84 3 = (nx : Int)) (hn16 : nx < 16) {u : Nat} (hu : I 84 4 = (u : Int) + 1) (hu16 : u < 16) : am_call am_B am_M (d + 2) 42 [(.inr (.inr (some 84)))] (G, I, P) = some (none, (G, (am_u2 (am_u2 I 84 3 ((((nx + 15) % 16) : Nat) : Int)) 84 4 (u : Int)), P)) := by
  refine am_doL (L := [some (.inr (.inr (some 84)))]) (Nat.le_of_ble_eq_true rfl) rfl ?_
  refine (ex_6_0 (ix_41i (v := ((u : Int) + 1)) (sh_84 hS) hu ?_))
  refine ex_if5 (fun hc4 => by exfalso; omega) (fun hc4 => ?_)
  refine (ex_6_0 (ex_6_0 (ix_46 (S' := [(.inl ((((nx + 15) % 16) : Nat) : Int)), (.inr (.inr (some 84)))]) rfl (sh_84 hS) (k_latest hS hnx hn16) rfl rfl (ix_42i (sh_84 hS) (ex_6_0 (ex_22 rfl (ix_41i (v := ((u : Int) + 1)) (sh_84 hS) ((u2_k (by decide)).trans hu) (ex_0 (ex_11e (v := (u : Int)) ((am_sub ⟨by omega, by omega⟩).trans (by omega)) (ix_42i (sh_84 hS) (ex_58 ?_)))))))))))
  exact ex_56 rfl
def upk (b : Nat) (i : Nat) (s : Nat → Int) : Nat → Int := am_u1 s i ((b >>> (3 * i) &&& 7 : Nat) : Int)
theorem upk_at {b : Nat} {s : Nat → Int} {j : Nat} (hj : j < 6) : am_it (fun i s => upk b i s) 6 0 s j = ((b >>> (3 * j) &&& 7 : Nat) : Int) := by
  refine am_it_inv (f := fun i s => upk b i s) (inv := fun i t => ∀ x, x < i → t x = ((b >>> (3 * x) &&& 7 : Nat) : Int)) (N := 6) (fun i t hi h x hx => ?_) 6 0 s rfl (fun x hx => absurd hx (by omega)) j hj
  show am_u1 t i _ x = _
  unfold am_u1
  split
  · rename_i e; rw [e]
  · exact h x (by omega)
theorem k_unpack {d : Nat} {G : am_G} {I : Nat → Nat → Int} {P : Nat → Nat → Option Nat} (hS : ST G P) {b : Nat} (hb : b < 262144) : am_call am_B am_M (d + 1) 28 [(.inr (.inr (some 91))), (.inl (b : Int))] (G, I, P) = some (none, (G, am_u1 I 72 (am_it (fun i s => upk b i s) 6 0 (I 72)), P)) := by
  refine am_doL (L := [some (.inr (.inr (some 91))), some (.inl (b : Int)), none]) (Nat.le_of_ble_eq_true rfl) rfl ?_
  refine (ex_0 (ex_7_2 rfl (ex_58 ?_)))
  refine ex_forH (b := 1) (σ := Nat → Int) (6) (fun i s => upk b i s) (fun i s => True) (fun i s e_i => [some (.inr (.inr (some 91))), some (.inl (b : Int)), some (.inl (i : Int))]) (fun i s => (G, (am_u1 I 72 s), P)) ?_ ?_ (6) (0) (I 72) (fun k_ => ([some (.inr (.inr (some 91))), some (.inl (b : Int)), some (.inl 0)] : am_L).getD k_ none) (by omega) (trivial) rfl (congrArg (fun J => (G, J, P)) u1_self.symm) ?_
  · intro i s hii hvi
    exact trivial
  · intro i s e_i hii hvi s' hsi hki
    refine (ex_4_2 (ex_0 ?_))
    refine ex_ic3 (fun hc5 => by exfalso; omega) (fun hc5 => ?_)
    refine (ex_6_0 (ix_41r (sh_91 hS) (pt_91_0 hS) (ix_41r (sh_65 hS) (pt_65_3 hS) (ex_4_2 (ex_4_1 (ex_0 (ex_4_2 (ex_mul ⟨by omega, by omega⟩ (ex_11e (v := ((b >>> (3 * i) : Nat) : Int)) (by have e := am_shr (a := b) (k := 3 * i) (by omega) (by omega); rw [show ((3 * i : Nat) : Int) = 3 * (i : Int) by omega] at e; exact e) (ex_0 (ex_11e (am_and (a := (b >>> (3 * i))) (b := 7) (Nat.lt_of_le_of_lt (Nat.shiftRight_le _ _) (by omega)) (by decide)) (ix_34 (j := i) (sh_72 hS) (by omega) (by omega) (by omega) (ex_10_2 ⟨by omega, by omega⟩ rfl (ex_28 ?_))))))))))))))
    rw [u2_u1]
    rw [hsi] at hki
    exact hki (fun k_ => ([some (.inr (.inr (some 91))), some (.inl (b : Int)), some (.inl ((i : Int) + 1))] : am_L).getD k_ none)
  · intro s e_i hsi hvi
    refine (ex_4_2 (ex_0 ?_))
    refine ex_ic3 (fun hc5 => ?_) (fun hc5 => by exfalso; omega)
    exact ex_56 (by rw [hsi])
theorem k_undo_e {d : Nat} {G : am_G} {I : Nat → Nat → Int} {P : Nat → Nat → Option Nat} (hS : ST G P) {ρ : Nat → Int} {n : Nat} {cl : Nat → Cl} (hE : CE G I P 65 ρ n cl) (hu : I 84 4 = 0) : am_call am_B am_M (d + 3) 27 [(.inr (.inr (some 91)))] (G, I, P) = some (some (.inl (-3)), (G, I, P)) := by
  refine am_doL (L := [some (.inr (.inr (some 91))), none, none, none]) (Nat.le_of_ble_eq_true rfl) rfl ?_
  refine (ex_6_0 (ix_41r (sh_91 hS) (pt_91_1 hS) (ix_41i (v := 0) (sh_84 hS) hu (ex_if1 (fun hc => by exfalso; revert hc; decide) (fun _ => ?_)))))
  refine (ex_0 ?_)
  exact ex_53 rfl
theorem k_undo_0k {d : Nat} {G : am_G} {I : Nat → Nat → Int} {P : Nat → Nat → Option Nat} (hS : ST G P) {ρ : Nat → Int} {n : Nat} {cl : Nat → Cl} (hE : CE G I P 65 ρ n cl) {nx u : Nat} (hnx : I 84 3 = (nx : Int)) (hn16 : nx < 16) (hu : I 84 4 = (u : Int) + 1) (hu16 : u < 16) {f : Nat} (hf : f < 5) {b : Int} (hd : I 85 ((nx + 15) % 16) = 0) (hw : I 86 ((nx + 15) % 16) = (f : Int)) (hbb : I 87 ((nx + 15) % 16) = b) (hbv : 0 ≤ b ∧ b ≤ 999) : ∃ I1, am_call am_B am_M (d + 3) 27 [(.inr (.inr (some 91)))] (G, I, P) = some (some (.inl 0), (G, I1, P)) ∧ (CE G I1 P 65 (am_u1 ρ (25 + f) b) n cl ∧ I1 84 3 = ((((nx + 15) % 16) : Nat) : Int) ∧ I1 84 4 = (u : Int) ∧ (∀ q k, ¬ q = 84 → ¬ (65 ≤ q ∧ q ≤ 80) → I1 q k = I q k)) := by
  have w : am_ex (am_call am_B am_M (d + 2)) (am_B 27) (am_B 27 0) [some (.inr (.inr (some 91))), none, none, none] [] (G, I, P) (fun o => ∃ I1, o = (some (.inl 0), (G, I1, P)) ∧ (CE G I1 P 65 (am_u1 ρ (25 + f) b) n cl ∧ I1 84 3 = ((((nx + 15) % 16) : Nat) : Int) ∧ I1 84 4 = (u : Int) ∧ (∀ q k, ¬ q = 84 → ¬ (65 ≤ q ∧ q ≤ 80) → I1 q k = I q k))) := by
    refine (ex_6_0 (ix_41r (sh_91 hS) (pt_91_1 hS) (ix_41i (v := ((u : Int) + 1)) (sh_84 hS) hu ?_)))
    refine ex_if1 (fun hc7 => ?_) (fun hc7 => by exfalso; omega)
    refine (ex_6_0 (ix_41r (sh_91 hS) (pt_91_1 hS) (ix_46 (S' := [(.inl 0)]) rfl (sh_84 hS) ((k_latestDeed hS hnx hn16).trans (by rw [hd])) rfl rfl (ex_7_1 rfl (ex_6_0 (ix_41r (sh_91 hS) (pt_91_1 hS) (ix_46 (S' := [(.inl (f : Int))]) rfl (sh_84 hS) ((k_latestWhom hS hnx hn16).trans (by rw [hw])) rfl rfl (ex_7_2 rfl (ex_6_0 (ix_41r (sh_91 hS) (pt_91_1 hS) (ix_46 (S' := [(.inl b)]) rfl (sh_84 hS) ((k_latestBefore hS hnx hn16).trans (by rw [hbb])) rfl rfl (ex_7_3 rfl (ex_4_1 (ex_if1 (fun hc => by exfalso; revert hc; decide) (fun _ => ?_)))))))))))))))
    refine (ex_4_2 (ex_0 ?_))
    refine ex_ic3 (fun hc43 => by exfalso; omega) (fun hc43 => ?_)
    refine (ex_6_0 (ix_41r (sh_91 hS) (pt_91_0 hS) (ix_41r (sh_65 hS) (pt_65_9 hS) (ex_4_2 (ex_4_3 (ix_34 (j := f) (sh_77 hS) (by omega) (by omega) (by omega) (ex_28 (ex_6_0 (ix_41r (sh_91 hS) (pt_91_1 hS) (ix_46 (S' := []) rfl (sh_84 hS) (k_drop hS ((u2_q (by decide)).trans hnx) hn16 ((u2_q (by decide)).trans hu) hu16) rfl rfl (ex_4_1 ?_)))))))))))
    exact ex_53 ⟨_, rfl, CE_set hE (CC_fr (CCs_kn hE.1 hf) (fun q k _ _ _ => (u2_q (by omega)).trans (u2_q (by omega)))) (RWs_kn hE.2.1 hf hbv) (by unfold am_u1; rw [if_neg (by omega)]) (fun q k h => (u2_q (by omega)).trans ((u2_q (by omega)).trans (u2_q (by omega)))), (u2_k (by decide)).trans u2_e, u2_e, fun q k h1 h2 => (u2_q h1).trans ((u2_q h1).trans (u2_q (by omega)))⟩
  obtain ⟨o, e, I1, rfl, h⟩ := am_doQ (as := [(.inr (.inr (some 91)))]) (Nat.le_of_ble_eq_true rfl) rfl w
  exact ⟨I1, e, h⟩
theorem k_undo_0w {d : Nat} {G : am_G} {I : Nat → Nat → Int} {P : Nat → Nat → Option Nat} (hS : ST G P) {ρ : Nat → Int} {n : Nat} {cl : Nat → Cl} (hE : CE G I P 65 ρ n cl) {nx u : Nat} (hnx : I 84 3 = (nx : Int)) (hn16 : nx < 16) (hu : I 84 4 = (u : Int) + 1) (hu16 : u < 16) {f : Nat} (hf : f < 5) {b : Int} (hd : I 85 ((nx + 15) % 16) = 0) (hw : I 86 ((nx + 15) % 16) = ((f : Int) + 5)) (hbb : I 87 ((nx + 15) % 16) = b) (hbv : 0 ≤ b ∧ b ≤ 999) : ∃ I1, am_call am_B am_M (d + 3) 27 [(.inr (.inr (some 91)))] (G, I, P) = some (some (.inl 0), (G, I1, P)) ∧ (CE G I1 P 65 (am_u1 ρ (20 + f) b) n cl ∧ I1 84 3 = ((((nx + 15) % 16) : Nat) : Int) ∧ I1 84 4 = (u : Int) ∧ (∀ q k, ¬ q = 84 → ¬ (65 ≤ q ∧ q ≤ 80) → I1 q k = I q k)) := by
  have w : am_ex (am_call am_B am_M (d + 2)) (am_B 27) (am_B 27 0) [some (.inr (.inr (some 91))), none, none, none] [] (G, I, P) (fun o => ∃ I1, o = (some (.inl 0), (G, I1, P)) ∧ (CE G I1 P 65 (am_u1 ρ (20 + f) b) n cl ∧ I1 84 3 = ((((nx + 15) % 16) : Nat) : Int) ∧ I1 84 4 = (u : Int) ∧ (∀ q k, ¬ q = 84 → ¬ (65 ≤ q ∧ q ≤ 80) → I1 q k = I q k))) := by
    refine (ex_6_0 (ix_41r (sh_91 hS) (pt_91_1 hS) (ix_41i (v := ((u : Int) + 1)) (sh_84 hS) hu ?_)))
    refine ex_if1 (fun hc7 => ?_) (fun hc7 => by exfalso; omega)
    refine (ex_6_0 (ix_41r (sh_91 hS) (pt_91_1 hS) (ix_46 (S' := [(.inl 0)]) rfl (sh_84 hS) ((k_latestDeed hS hnx hn16).trans (by rw [hd])) rfl rfl (ex_7_1 rfl (ex_6_0 (ix_41r (sh_91 hS) (pt_91_1 hS) (ix_46 (S' := [(.inl ((f : Int) + 5))]) rfl (sh_84 hS) ((k_latestWhom hS hnx hn16).trans (by rw [hw])) rfl rfl (ex_7_2 rfl (ex_6_0 (ix_41r (sh_91 hS) (pt_91_1 hS) (ix_46 (S' := [(.inl b)]) rfl (sh_84 hS) ((k_latestBefore hS hnx hn16).trans (by rw [hbb])) rfl rfl (ex_7_3 rfl (ex_4_1 (ex_if1 (fun hc => by exfalso; revert hc; decide) (fun _ => ?_)))))))))))))))
    refine (ex_4_2 (ex_0 ?_))
    refine ex_ic3 (fun hc43 => ?_) (fun hc43 => by exfalso; omega)
    refine (ex_4_1 (ex_if1 (fun hc => by exfalso; revert hc; decide) (fun _ => ?_)))
    refine (ex_6_0 (ix_41r (sh_91 hS) (pt_91_0 hS) (ix_41r (sh_65 hS) (pt_65_8 hS) (ex_4_2 (ex_0 (ex_11e (v := (f : Int)) ((am_sub ⟨by omega, by omega⟩).trans (by omega)) (ex_4_3 (ix_34 (j := f) (sh_76 hS) (by omega) (by omega) (by omega) (ex_28 (ex_6_0 (ix_41r (sh_91 hS) (pt_91_1 hS) (ix_46 (S' := []) rfl (sh_84 hS) (k_drop hS ((u2_q (by decide)).trans hnx) hn16 ((u2_q (by decide)).trans hu) hu16) rfl rfl (ex_4_1 ?_)))))))))))))
    exact ex_53 ⟨_, rfl, CE_set hE (CC_fr (CCs_we hE.1 hf) (fun q k _ _ _ => (u2_q (by omega)).trans (u2_q (by omega)))) (RWs_we hE.2.1 hf hbv) (by unfold am_u1; rw [if_neg (by omega)]) (fun q k h => (u2_q (by omega)).trans ((u2_q (by omega)).trans (u2_q (by omega)))), (u2_k (by decide)).trans u2_e, u2_e, fun q k h1 h2 => (u2_q h1).trans ((u2_q h1).trans (u2_q (by omega)))⟩
  obtain ⟨o, e, I1, rfl, h⟩ := am_doQ (as := [(.inr (.inr (some 91)))]) (Nat.le_of_ble_eq_true rfl) rfl w
  exact ⟨I1, e, h⟩
theorem k_undo_1 {d : Nat} {G : am_G} {I : Nat → Nat → Int} {P : Nat → Nat → Option Nat} (hS : ST G P) {ρ : Nat → Int} {n : Nat} {cl : Nat → Cl} (hE : CE G I P 65 ρ n cl) {nx u : Nat} (hnx : I 84 3 = (nx : Int)) (hn16 : nx < 16) (hu : I 84 4 = (u : Int) + 1) (hu16 : u < 16) {f : Nat} (hf : f < 5) {b : Int} (hd : I 85 ((nx + 15) % 16) = 1) (hw : I 86 ((nx + 15) % 16) = (f : Int)) (hbb : I 87 ((nx + 15) % 16) = b) (hbv : b = 0 ∨ b = 1) : ∃ I1, am_call am_B am_M (d + 3) 27 [(.inr (.inr (some 91)))] (G, I, P) = some (some (.inl 1), (G, I1, P)) ∧ (CE G I1 P 65 (am_u1 ρ (15 + f) b) n cl ∧ I1 84 3 = ((((nx + 15) % 16) : Nat) : Int) ∧ I1 84 4 = (u : Int) ∧ (∀ q k, ¬ q = 84 → ¬ (65 ≤ q ∧ q ≤ 80) → I1 q k = I q k)) := by
  have w : am_ex (am_call am_B am_M (d + 2)) (am_B 27) (am_B 27 0) [some (.inr (.inr (some 91))), none, none, none] [] (G, I, P) (fun o => ∃ I1, o = (some (.inl 1), (G, I1, P)) ∧ (CE G I1 P 65 (am_u1 ρ (15 + f) b) n cl ∧ I1 84 3 = ((((nx + 15) % 16) : Nat) : Int) ∧ I1 84 4 = (u : Int) ∧ (∀ q k, ¬ q = 84 → ¬ (65 ≤ q ∧ q ≤ 80) → I1 q k = I q k))) := by
    refine (ex_6_0 (ix_41r (sh_91 hS) (pt_91_1 hS) (ix_41i (v := ((u : Int) + 1)) (sh_84 hS) hu ?_)))
    refine ex_if1 (fun hc7 => ?_) (fun hc7 => by exfalso; omega)
    refine (ex_6_0 (ix_41r (sh_91 hS) (pt_91_1 hS) (ix_46 (S' := [(.inl 1)]) rfl (sh_84 hS) ((k_latestDeed hS hnx hn16).trans (by rw [hd])) rfl rfl (ex_7_1 rfl (ex_6_0 (ix_41r (sh_91 hS) (pt_91_1 hS) (ix_46 (S' := [(.inl (f : Int))]) rfl (sh_84 hS) ((k_latestWhom hS hnx hn16).trans (by rw [hw])) rfl rfl (ex_7_2 rfl (ex_6_0 (ix_41r (sh_91 hS) (pt_91_1 hS) (ix_46 (S' := [(.inl b)]) rfl (sh_84 hS) ((k_latestBefore hS hnx hn16).trans (by rw [hbb])) rfl rfl (ex_7_3 rfl (ex_4_1 (ex_if1 (fun _ => ?_) (fun hc => by exfalso; revert hc; decide)))))))))))))))
    refine (ex_4_1 (ex_if1 (fun _ => ?_) (fun hc => by exfalso; revert hc; decide)))
    refine (ex_4_1 (ex_0 (ex_ic1 (fun hc => by exfalso; revert hc; decide) (fun _ => ?_))))
    refine (ex_6_0 (ix_41r (sh_91 hS) (pt_91_0 hS) (ix_41r (sh_65 hS) (pt_65_7 hS) (ex_4_2 (ex_4_3 (ix_34 (j := f) (sh_75 hS) (by omega) (by omega) (by omega) (ex_28 (ex_6_0 (ix_41r (sh_91 hS) (pt_91_1 hS) (ix_46 (S' := []) rfl (sh_84 hS) (k_drop hS ((u2_q (by decide)).trans hnx) hn16 ((u2_q (by decide)).trans hu) hu16) rfl rfl (ex_4_1 ?_)))))))))))
    exact ex_53 ⟨_, rfl, CE_set hE (CC_fr (CCs_en hE.1 hf) (fun q k _ _ _ => (u2_q (by omega)).trans (u2_q (by omega)))) (RWs_en hE.2.1 hf hbv) (by unfold am_u1; rw [if_neg (by omega)]) (fun q k h => (u2_q (by omega)).trans ((u2_q (by omega)).trans (u2_q (by omega)))), (u2_k (by decide)).trans u2_e, u2_e, fun q k h1 h2 => (u2_q h1).trans ((u2_q h1).trans (u2_q (by omega)))⟩
  obtain ⟨o, e, I1, rfl, h⟩ := am_doQ (as := [(.inr (.inr (some 91)))]) (Nat.le_of_ble_eq_true rfl) rfl w
  exact ⟨I1, e, h⟩
theorem k_undo_2 {d : Nat} {G : am_G} {I : Nat → Nat → Int} {P : Nat → Nat → Option Nat} (hS : ST G P) {ρ : Nat → Int} {n : Nat} {cl : Nat → Cl} (hE : CE G I P 65 ρ n cl) {nx u : Nat} (hnx : I 84 3 = (nx : Int)) (hn16 : nx < 16) (hu : I 84 4 = (u : Int) + 1) (hu16 : u < 16) {wv : Int} {b : Int} (hd : I 85 ((nx + 15) % 16) = 2) (hw : I 86 ((nx + 15) % 16) = wv) (hbb : I 87 ((nx + 15) % 16) = b) (hbv : 0 ≤ b ∧ b < 64) : ∃ I1, am_call am_B am_M (d + 3) 27 [(.inr (.inr (some 91)))] (G, I, P) = some (some (.inl 2), (G, I1, P)) ∧ (CE G I1 P 65 (am_u1 ρ 8 b) n cl ∧ I1 84 3 = ((((nx + 15) % 16) : Nat) : Int) ∧ I1 84 4 = (u : Int) ∧ (∀ q k, ¬ q = 84 → ¬ (65 ≤ q ∧ q ≤ 80) → I1 q k = I q k)) := by
  have w : am_ex (am_call am_B am_M (d + 2)) (am_B 27) (am_B 27 0) [some (.inr (.inr (some 91))), none, none, none] [] (G, I, P) (fun o => ∃ I1, o = (some (.inl 2), (G, I1, P)) ∧ (CE G I1 P 65 (am_u1 ρ 8 b) n cl ∧ I1 84 3 = ((((nx + 15) % 16) : Nat) : Int) ∧ I1 84 4 = (u : Int) ∧ (∀ q k, ¬ q = 84 → ¬ (65 ≤ q ∧ q ≤ 80) → I1 q k = I q k))) := by
    refine (ex_6_0 (ix_41r (sh_91 hS) (pt_91_1 hS) (ix_41i (v := ((u : Int) + 1)) (sh_84 hS) hu ?_)))
    refine ex_if1 (fun hc7 => ?_) (fun hc7 => by exfalso; omega)
    refine (ex_6_0 (ix_41r (sh_91 hS) (pt_91_1 hS) (ix_46 (S' := [(.inl 2)]) rfl (sh_84 hS) ((k_latestDeed hS hnx hn16).trans (by rw [hd])) rfl rfl (ex_7_1 rfl (ex_6_0 (ix_41r (sh_91 hS) (pt_91_1 hS) (ix_46 (S' := [(.inl wv)]) rfl (sh_84 hS) ((k_latestWhom hS hnx hn16).trans (by rw [hw])) rfl rfl (ex_7_2 rfl (ex_6_0 (ix_41r (sh_91 hS) (pt_91_1 hS) (ix_46 (S' := [(.inl b)]) rfl (sh_84 hS) ((k_latestBefore hS hnx hn16).trans (by rw [hbb])) rfl rfl (ex_7_3 rfl (ex_4_1 (ex_if1 (fun _ => ?_) (fun hc => by exfalso; revert hc; decide)))))))))))))))
    refine (ex_4_1 (ex_if1 (fun _ => ?_) (fun hc => by exfalso; revert hc; decide)))
    refine (ex_4_1 (ex_0 (ex_ic1 (fun _ => ?_) (fun hc => by exfalso; revert hc; decide))))
    refine (ex_4_1 (ex_0 (ex_ic1 (fun hc => by exfalso; revert hc; decide) (fun _ => ?_))))
    refine (ex_6_0 (ix_41r (sh_91 hS) (pt_91_0 hS) (ix_41r (sh_65 hS) (pt_65_0 hS) (ex_4_3 (ix_42i (sh_66 hS) (ex_28 (ex_6_0 (ix_41r (sh_91 hS) (pt_91_1 hS) (ix_46 (S' := []) rfl (sh_84 hS) (k_drop hS ((u2_q (by decide)).trans hnx) hn16 ((u2_q (by decide)).trans hu) hu16) rfl rfl (ex_4_1 ?_))))))))))
    exact ex_53 ⟨_, rfl, CE_set hE (CC_fr (CCs_sm hE.1) (fun q k _ _ _ => (u2_q (by omega)).trans (u2_q (by omega)))) (RWs_sm hE.2.1 hbv) (by unfold am_u1; rw [if_neg (by omega)]) (fun q k h => (u2_q (by omega)).trans ((u2_q (by omega)).trans (u2_q (by omega)))), (u2_k (by decide)).trans u2_e, u2_e, fun q k h1 h2 => (u2_q h1).trans ((u2_q h1).trans (u2_q (by omega)))⟩
  obtain ⟨o, e, I1, rfl, h⟩ := am_doQ (as := [(.inr (.inr (some 91)))]) (Nat.le_of_ble_eq_true rfl) rfl w
  exact ⟨I1, e, h⟩
theorem CC_places {I J : Nat → Nat → Int} {ρ p : Nat → Int} (h : CC I 65 ρ) (hp : ∀ j, j < 6 → J 72 j = p j) (hf : ∀ q k, ¬ q = 72 → J q k = I q k) : CC J 65 (am_cp p ρ 0 9 6) := ⟨(hf _ _ (by omega)).trans ((CC_n0 h).trans (cp_out (by omega)).symm), (hf _ _ (by omega)).trans ((CC_n1 h).trans (cp_out (by omega)).symm), (hf _ _ (by omega)).trans ((CC_n2 h).trans (cp_out (by omega)).symm), (hf _ _ (by omega)).trans ((CC_n3 h).trans (cp_out (by omega)).symm), (hf _ _ (by omega)).trans ((CC_fo h).trans (cp_out (by omega)).symm), (hf _ _ (by omega)).trans ((CC_sm h).trans (cp_out (by omega)).symm), fun j hj => (hf _ _ (by omega)).trans ((CC_ki h j hj).trans (cp_out (by omega)).symm), fun j hj => (hf _ _ (by omega)).trans ((CC_ra h j hj).trans (cp_out (by omega)).symm), fun j hj => (hp j hj).trans (by rw [cp_in (by omega)]; exact congrArg p (by omega)), fun j hj => (hf _ _ (by omega)).trans ((CC_by h j hj).trans (cp_out (by omega)).symm), fun j hj => (hf _ _ (by omega)).trans ((CC_ea h j hj).trans (cp_out (by omega)).symm), fun j hj => (hf _ _ (by omega)).trans ((CC_en h j hj).trans (cp_out (by omega)).symm), fun j hj => (hf _ _ (by omega)).trans ((CC_we h j hj).trans (cp_out (by omega)).symm), fun j hj => (hf _ _ (by omega)).trans ((CC_kn h j hj).trans (cp_out (by omega)).symm), fun j hj => (hf _ _ (by omega)).trans ((CC_te h j hj).trans (cp_out (by omega)).symm), fun j hj => (hf _ _ (by omega)).trans ((CC_ro h j hj).trans (cp_out (by omega)).symm), fun b hb => (hf _ _ (by omega)).trans ((CC_nr h b hb).trans (congrArg Int.ofNat (nr_congr hb (fun j hj => cp_out (by omega))).symm)), fun j hj => (hf _ _ (by omega)).trans ((CC_h1 h j hj).trans (cp_out (by omega)).symm), fun j hj => (hf _ _ (by omega)).trans ((CC_h2 h j hj).trans (cp_out (by omega)).symm)⟩
theorem k_undo_3 {d : Nat} {G : am_G} {I : Nat → Nat → Int} {P : Nat → Nat → Option Nat} (hS : ST G P) {ρ : Nat → Int} {n : Nat} {cl : Nat → Cl} (hE : CE G I P 65 ρ n cl) {nx u : Nat} (hnx : I 84 3 = (nx : Int)) (hn16 : nx < 16) (hu : I 84 4 = (u : Int) + 1) (hu16 : u < 16) {b : Nat} {wv : Int} (hb : b < 262144) (hd : I 85 ((nx + 15) % 16) = 3) (hw : I 86 ((nx + 15) % 16) = wv) (hbb : I 87 ((nx + 15) % 16) = (b : Int)) (hR : RW (am_u1 (am_cp (fun i => ((b >>> (3 * i) &&& 7 : Nat) : Int)) ρ 0 9 6) 5 (ρ 5 - 1))) : ∃ I1, am_call am_B am_M (d + 3) 27 [(.inr (.inr (some 91)))] (G, I, P) = some (some (.inl 3), (G, I1, P)) ∧ (CE G I1 P 65 (am_u1 (am_cp (fun i => ((b >>> (3 * i) &&& 7 : Nat) : Int)) ρ 0 9 6) 5 (ρ 5 - 1)) n cl ∧ I1 84 3 = ((((nx + 15) % 16) : Nat) : Int) ∧ I1 84 4 = (u : Int) ∧ (∀ q k, ¬ q = 84 → ¬ (65 ≤ q ∧ q ≤ 80) → I1 q k = I q k)) := by
  have h5 := RW_ni hE.2.1
  have w : am_ex (am_call am_B am_M (d + 2)) (am_B 27) (am_B 27 0) [some (.inr (.inr (some 91))), none, none, none] [] (G, I, P) (fun o => ∃ I1, o = (some (.inl 3), (G, I1, P)) ∧ (CE G I1 P 65 (am_u1 (am_cp (fun i => ((b >>> (3 * i) &&& 7 : Nat) : Int)) ρ 0 9 6) 5 (ρ 5 - 1)) n cl ∧ I1 84 3 = ((((nx + 15) % 16) : Nat) : Int) ∧ I1 84 4 = (u : Int) ∧ (∀ q k, ¬ q = 84 → ¬ (65 ≤ q ∧ q ≤ 80) → I1 q k = I q k))) := by
    refine (ex_6_0 (ix_41r (sh_91 hS) (pt_91_1 hS) (ix_41i (v := ((u : Int) + 1)) (sh_84 hS) hu ?_)))
    refine ex_if1 (fun hc7 => ?_) (fun hc7 => by exfalso; omega)
    refine (ex_6_0 (ix_41r (sh_91 hS) (pt_91_1 hS) (ix_46 (S' := [(.inl 3)]) rfl (sh_84 hS) ((k_latestDeed hS hnx hn16).trans (by rw [hd])) rfl rfl (ex_7_1 rfl (ex_6_0 (ix_41r (sh_91 hS) (pt_91_1 hS) (ix_46 (S' := [(.inl wv)]) rfl (sh_84 hS) ((k_latestWhom hS hnx hn16).trans (by rw [hw])) rfl rfl (ex_7_2 rfl (ex_6_0 (ix_41r (sh_91 hS) (pt_91_1 hS) (ix_46 (S' := [(.inl (b : Int))]) rfl (sh_84 hS) ((k_latestBefore hS hnx hn16).trans (by rw [hbb])) rfl rfl (ex_7_3 rfl (ex_4_1 (ex_if1 (fun _ => ?_) (fun hc => by exfalso; revert hc; decide)))))))))))))))
    refine (ex_4_1 (ex_if1 (fun _ => ?_) (fun hc => by exfalso; revert hc; decide)))
    refine (ex_4_1 (ex_0 (ex_ic1 (fun _ => ?_) (fun hc => by exfalso; revert hc; decide))))
    refine (ex_4_1 (ex_0 (ex_ic1 (fun _ => ?_) (fun hc => by exfalso; revert hc; decide))))
    refine (ex_6_0 (ex_4_3 (ix_46 (S' := []) rfl (sh_91 hS) (k_unpack hS hb) rfl rfl (ex_6_0 (ix_41r (sh_91 hS) (pt_91_0 hS) (ix_41r (sh_65 hS) (pt_65_14 hS) (ex_0 (ex_23 rfl (ix_30 (j := 0) (v := (ρ 5)) (sh_80 hS) (by decide) (by decide) rfl (((u1_qk (by decide))).trans (CC_te hE.1 0 (by decide))) (ex_0 (ex_sub ⟨by omega, by omega⟩ (ix_34 (j := 0) (sh_80 hS) (by decide) (by decide) rfl (ex_58 (ex_6_0 (ix_41r (sh_91 hS) (pt_91_1 hS) (ix_46 (S' := []) rfl (sh_84 hS) (k_drop hS ((u2_q (by decide)).trans (((u1_qk (by decide))).trans hnx)) hn16 ((u2_q (by decide)).trans (((u1_qk (by decide))).trans hu)) hu16) rfl rfl (ex_4_1 ?_)))))))))))))))))
    exact ex_53 ⟨_, rfl, CE_set hE (CC_fr (CCs_te (i := 0) (CC_places hE.1 (fun j hj => (congrFun u1_e _).trans (upk_at hj)) (fun q k h => u1_qk h)) (by decide)) (fun q k _ _ _ => (u2_q (by omega)).trans (u2_q (by omega)))) hR (by show am_u1 _ 5 _ 4 = _; unfold am_u1; rw [if_neg (by omega), cp_out (by omega)]) (fun q k h => (u2_q (by omega)).trans ((u2_q (by omega)).trans ((u2_q (by omega)).trans (u1_qk (by omega))))), (u2_k (by decide)).trans u2_e, u2_e, fun q k h1 h2 => (u2_q h1).trans ((u2_q h1).trans ((u2_q (by omega)).trans (u1_qk (by omega))))⟩
  obtain ⟨o, e, I1, rfl, h⟩ := am_doQ (as := [(.inr (.inr (some 91)))]) (Nat.le_of_ble_eq_true rfl) rfl w
  exact ⟨I1, e, h⟩
