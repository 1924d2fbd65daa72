/-! ===== the class reads parts and tests ===== -/
theorem kp_bn {d : Nat} {G : am_G} {I : Nat → Nat → Int} {P : Nat → Nat → Option Nat} (hS : ST G P) {b : Nat → Int} {n : Nat} (hB : TB b n) {od : Bool} {s l z : Nat} (hR : RS I P b n od s l z) {S : Option (Nat → Nat → Rs)} {br : Int} (hbr : 0 ≤ br ∧ br ≤ 8) {D : Nat} (hD : 1 ≤ D) (h91 : tk b n s = [91]) (hb8 : br = 8) (hSn : S = none) : ∃ o, am_call am_B am_M (d + 3) 72 [(.inr (.inr (some 161))), (.inl br)] (G, I, P) = some o ∧ QR G P b n od I z s D (px_part b n od S s l) o := by
  have hn4 := hB.1
  have hs := RS_s hR
  have hzs := RS_z hR
  refine am_doQ (L := [some (.inr (.inr (some 161))), some (.inl br), none, none]) (Nat.le_of_ble_eq_true rfl) rfl ?_
  refine (ex_6_0 (ix_41r (sh_161 hS) (pt_161_1 hS) (ex_3 (ix_46 (S' := [(.inl 1)]) rfl (sh_169 hS) (k_is_5_t hS (RS_K hR) hB (RS_T hR) (RS_s hR) h91) rfl rfl (ex_if0 (fun hc => by exfalso; revert hc; decide) (fun _ => ?_))))))
  refine (ex_4_1 (ex_0 ?_))
  refine ex_ic2 (fun hc15 => by exfalso; omega) (fun hc15 => ?_)
  refine (ex_6_0 (ix_46 (S' := [(.inl 0)]) rfl (sh_161 hS) (k_fail hS (RS_T hR).2.2.1) rfl rfl ?_))
  exact ex_57 (by decide) (QR_inl (by unfold px_part; rw [if_pos h91, hSn]) u2_e RFr_fail)
theorem kp_bx {d : Nat} {G : am_G} {I : Nat → Nat → Int} {P : Nat → Nat → Option Nat} (hS : ST G P) {b : Nat → Int} {n : Nat} (hB : TB b n) {od : Bool} {s l z : Nat} (hR : RS I P b n od s l z) {S : Option (Nat → Nat → Rs)} {br : Int} (hbr : 0 ≤ br ∧ br ≤ 8) {D : Nat} (hD : 1 ≤ D) (h91 : tk b n s = [91]) (hb8 : br < 8) {g : Nat → Nat → Rs} (hSg : S = some g) (hg : KItd G P b n od (d + 6) 70 (br + 1) D g) {x : Nat} (hgv : g (nx b n s) l = .inl x) : ∃ o, am_call am_B am_M (d + 7) 72 [(.inr (.inr (some 161))), (.inl br)] (G, I, P) = some o ∧ QR G P b n od I z s D (px_part b n od S s l) o := by
  have hn4 := hB.1
  have hs := RS_s hR
  have hzs := RS_z hR
  have hlt := tk_lt hs h91
  have hnx := nx_2 (b := b) s hlt
  refine am_doQ (L := [some (.inr (.inr (some 161))), some (.inl br), none, none]) (Nat.le_of_ble_eq_true rfl) rfl ?_
  refine (ex_6_0 (ix_41r (sh_161 hS) (pt_161_1 hS) (ex_3 (ix_46 (S' := [(.inl 1)]) rfl (sh_169 hS) (k_is_5_t hS (RS_K hR) hB (RS_T hR) (RS_s hR) h91) rfl rfl (ex_if0 (fun hc => by exfalso; revert hc; decide) (fun _ => ?_))))))
  refine (ex_4_1 (ex_0 ?_))
  refine ex_ic2 (fun hc15 => ?_) (fun hc15 => by exfalso; omega)
  refine (ex_6_0 (ix_41r (sh_161 hS) (pt_161_1 hS) ?_))
  obtain ⟨I2, e2, r2, f2⟩ := RS_step (d := d + 4) hS hB hR hlt
  refine (ix_46 (S' := []) rfl (sh_169 hS) e2 rfl rfl (ex_6_0 (ex_4_1 (ex_0 (ex_add ⟨by omega, by omega⟩ ?_)))))
  obtain ⟨o_, eo, qo⟩ := hg I2 (nx b n s) l z r2
  rw [hgv] at qo
  obtain ⟨I3, rfl, hx3, f3⟩ := qo
  refine (ix_46 (S' := [(.inl 0)]) rfl (sh_161 hS) eo rfl rfl (ex_if0 (fun _ => ?_) (fun hc => by exfalso; revert hc; decide)))
  refine (ex_0 (ex_58 ?_))
  exact ex_57 (by decide) (QR_inl (by unfold px_part; rw [if_pos h91, hSg]; simp only [hgv]) hx3 (RFr_trans (RFr_TKF f2) f3 (Nat.le_refl _)))
theorem kp_bc {d : Nat} {G : am_G} {I : Nat → Nat → Int} {P : Nat → Nat → Option Nat} (hS : ST G P) {b : Nat → Int} {n : Nat} (hB : TB b n) {od : Bool} {s l z : Nat} (hR : RS I P b n od s l z) {S : Option (Nat → Nat → Rs)} {br : Int} (hbr : 0 ≤ br ∧ br ≤ 8) {D : Nat} (hD : 1 ≤ D) (h91 : tk b n s = [91]) (hb8 : br < 8) {g : Nat → Nat → Rs} (hSg : S = some g) (hg : KItd G P b n od (d + 6) 70 (br + 1) D g) {s3 l3 : Nat} {f : Fn} (hgv : g (nx b n s) l = .inr (s3, l3, f)) (hcl : ¬ tk b n s3 = [93]) : ∃ o, am_call am_B am_M (d + 7) 72 [(.inr (.inr (some 161))), (.inl br)] (G, I, P) = some o ∧ QR G P b n od I z s D (px_part b n od S s l) o := by
  have hn4 := hB.1
  have hs := RS_s hR
  have hzs := RS_z hR
  have hlt := tk_lt hs h91
  have hnx := nx_2 (b := b) s hlt
  refine am_doQ (L := [some (.inr (.inr (some 161))), some (.inl br), none, none]) (Nat.le_of_ble_eq_true rfl) rfl ?_
  refine (ex_6_0 (ix_41r (sh_161 hS) (pt_161_1 hS) (ex_3 (ix_46 (S' := [(.inl 1)]) rfl (sh_169 hS) (k_is_5_t hS (RS_K hR) hB (RS_T hR) (RS_s hR) h91) rfl rfl (ex_if0 (fun hc => by exfalso; revert hc; decide) (fun _ => ?_))))))
  refine (ex_4_1 (ex_0 ?_))
  refine ex_ic2 (fun hc15 => ?_) (fun hc15 => by exfalso; omega)
  refine (ex_6_0 (ix_41r (sh_161 hS) (pt_161_1 hS) ?_))
  obtain ⟨I2, e2, r2, f2⟩ := RS_step (d := d + 4) hS hB hR hlt
  refine (ix_46 (S' := []) rfl (sh_169 hS) e2 rfl rfl (ex_6_0 (ex_4_1 (ex_0 (ex_add ⟨by omega, by omega⟩ ?_)))))
  obtain ⟨o_, eo, qo⟩ := hg I2 (nx b n s) l z r2
  rw [hgv] at qo
  obtain ⟨I3, z3, rfl, r3, hz3, hS3, f3⟩ := qo
  refine (ix_46 (S' := [(.inl 1)]) rfl (sh_161 hS) eo rfl rfl (ex_if0 (fun hc => by exfalso; revert hc; decide) (fun _ => ?_)))
  refine (ex_6_0 (ex_3 (ix_46 (S' := [(.inl 0)]) rfl (sh_161 hS) (k_exp_6_f (d := d + 3) hS hB r3 hcl) rfl rfl (ex_if0 (fun _ => ?_) (fun hc => by exfalso; revert hc; decide)))))
  refine (ex_0 (ex_58 ?_))
  exact ex_57 (by decide) (QR_inl (by unfold px_part; rw [if_pos h91, hSg]; simp only [hgv, if_neg hcl]) u2_e (RFr_trans (RFr_TKF f2) (RFr_trans f3 RFr_fail (Nat.le_refl _)) (Nat.le_refl _)))
theorem kp_bs {d : Nat} {G : am_G} {I : Nat → Nat → Int} {P : Nat → Nat → Option Nat} (hS : ST G P) {b : Nat → Int} {n : Nat} (hB : TB b n) {od : Bool} {s l z : Nat} (hR : RS I P b n od s l z) {S : Option (Nat → Nat → Rs)} {br : Int} (hbr : 0 ≤ br ∧ br ≤ 8) {D : Nat} (hD : 1 ≤ D) (h91 : tk b n s = [91]) (hb8 : br < 8) {g : Nat → Nat → Rs} (hSg : S = some g) (hg : KItd G P b n od (d + 6) 70 (br + 1) D g) {s3 l3 : Nat} {f : Fn} (hgv : g (nx b n s) l = .inr (s3, l3, f)) (hcl : tk b n s3 = [93]) : ∃ o, am_call am_B am_M (d + 7) 72 [(.inr (.inr (some 161))), (.inl br)] (G, I, P) = some o ∧ QR G P b n od I z s D (px_part b n od S s l) o := by
  have hn4 := hB.1
  have hs := RS_s hR
  have hzs := RS_z hR
  have hlt := tk_lt hs h91
  have hnx := nx_2 (b := b) s hlt
  refine am_doQ (L := [some (.inr (.inr (some 161))), some (.inl br), none, none]) (Nat.le_of_ble_eq_true rfl) rfl ?_
  refine (ex_6_0 (ix_41r (sh_161 hS) (pt_161_1 hS) (ex_3 (ix_46 (S' := [(.inl 1)]) rfl (sh_169 hS) (k_is_5_t hS (RS_K hR) hB (RS_T hR) (RS_s hR) h91) rfl rfl (ex_if0 (fun hc => by exfalso; revert hc; decide) (fun _ => ?_))))))
  refine (ex_4_1 (ex_0 ?_))
  refine ex_ic2 (fun hc15 => ?_) (fun hc15 => by exfalso; omega)
  refine (ex_6_0 (ix_41r (sh_161 hS) (pt_161_1 hS) ?_))
  obtain ⟨I2, e2, r2, f2⟩ := RS_step (d := d + 4) hS hB hR hlt
  refine (ix_46 (S' := []) rfl (sh_169 hS) e2 rfl rfl (ex_6_0 (ex_4_1 (ex_0 (ex_add ⟨by omega, by omega⟩ ?_)))))
  obtain ⟨o_, eo, qo⟩ := hg I2 (nx b n s) l z r2
  rw [hgv] at qo
  obtain ⟨I3, z3, rfl, r3, hz3, hS3, f3⟩ := qo
  refine (ix_46 (S' := [(.inl 1)]) rfl (sh_161 hS) eo rfl rfl (ex_if0 (fun hc => by exfalso; revert hc; decide) (fun _ => ?_)))
  refine (ex_6_0 (ex_3 ?_))
  obtain ⟨I4, e4, r4, f4⟩ := k_exp_6_t (d := d + 3) hS hB r3 hcl
  refine (ix_46 (S' := [(.inl 1)]) rfl (sh_161 hS) e4 rfl rfl (ex_if0 (fun hc => by exfalso; revert hc; decide) (fun _ => ?_)))
  refine (ex_0 (ex_28 ?_))
  exact ex_57 (by decide) (QR_inr (by unfold px_part; rw [if_pos h91, hSg]; simp only [hgv, if_pos hcl]) r4 (by have := nx_2 (b := b) s3 (tk_lt (RS_s r3) hcl); omega) (SG_congr hS3 (fun j a c => f4 168 j (by omega))) (RFr_trans (RFr_TKF f2) (RFr_trans f3 (RFr_TKF f4) (Nat.le_refl _)) (Nat.le_refl _)))
theorem kp_fo {d : Nat} {G : am_G} {I : Nat → Nat → Int} {P : Nat → Nat → Option Nat} (hS : ST G P) {b : Nat → Int} {n : Nat} (hB : TB b n) {od : Bool} {s l z : Nat} (hR : RS I P b n od s l z) {S : Option (Nat → Nat → Rs)} {br : Int} (hbr : 0 ≤ br ∧ br ≤ 8) {D : Nat} (hD : 1 ≤ D) (h91 : ¬ tk b n s = [91]) (hod : od = true) (hq : (num b n s = -1 ∧ wrd od (tk b n s) = -1) ∨ 1000 < num b n s ∨ 50 ≤ l) : ∃ o, am_call am_B am_M (d + 3) 72 [(.inr (.inr (some 161))), (.inl br)] (G, I, P) = some o ∧ QR G P b n od I z s D (px_part b n od S s l) o := by
  have hn4 := hB.1
  have hs := RS_s hR
  have hzs := RS_z hR
  refine am_doQ (L := [some (.inr (.inr (some 161))), some (.inl br), none, none]) (Nat.le_of_ble_eq_true rfl) rfl ?_
  refine (ex_6_0 (ix_41r (sh_161 hS) (pt_161_1 hS) (ex_3 (ix_46 (S' := [(.inl 0)]) rfl (sh_169 hS) (k_is_5_f hS (RS_K hR) hB (RS_T hR) (RS_s hR) h91) rfl rfl (ex_if0 (fun _ => ?_) (fun hc => by exfalso; revert hc; decide))))))
  refine (ex_6_0 (ix_41r (sh_161 hS) (pt_161_1 hS) (ix_46 (S' := [(.inl (num b n s))]) rfl (sh_169 hS) (k_number hS hB (RS_T hR) (RS_s hR)) rfl rfl (ex_7_2 rfl (ex_6_0 (ix_41r (sh_161 hS) (pt_161_1 hS) (ex_6_0 (ix_41i (v := 1) (sh_161 hS) ((RS_2 hR).trans (by rw [hod]; rfl)) (ex_if0 (fun hc => by exfalso; revert hc; decide) (fun _ => ?_))))))))))
  refine (ex_3 (ex_28 (ix_46 (S' := [(.inl (wrd od (tk b n s)))]) rfl (sh_169 hS) (k_ov_7 hS (RS_K hR) hB (RS_T hR) (RS_s hR) (v := wrd od (tk b n s)) (by rw [hod]; rfl)) rfl rfl (ex_7_3 rfl (ex_4_2 (ex_0 ?_))))))
  refine ex_ic1 (fun hc87 => ?_) (fun hc87 => ?_)
  · refine (ex_4_2 (ex_0 ?_))
    refine ex_ic4 (fun hc99 => ?_) (fun hc99 => ?_)
    · refine (ex_6_0 (ix_46 (S' := [(.inl 0)]) rfl (sh_161 hS) (k_fail hS (RS_T hR).2.2.1) rfl rfl ?_))
      exact ex_57 (by decide) (QR_inl (by unfold px_part; rw [if_neg h91, if_pos hq]) u2_e RFr_fail)
    · refine (ex_6_0 (ix_41i (v := (l : Int)) (sh_161 hS) (RS_3 hR) (ex_0 ?_)))
      refine ex_ic2 (fun hc108 => by exfalso; omega) (fun hc108 => ?_)
      refine (ex_6_0 (ix_46 (S' := [(.inl 0)]) rfl (sh_161 hS) (k_fail hS (RS_T hR).2.2.1) rfl rfl ?_))
      exact ex_57 (by decide) (QR_inl (by unfold px_part; rw [if_neg h91, if_pos hq]) u2_e RFr_fail)
  · refine (ex_4_3 (ex_0 ?_))
    refine ex_ic0 (fun hc92 => ?_) (fun hc92 => ?_)
    · refine (ex_6_0 (ix_46 (S' := [(.inl 0)]) rfl (sh_161 hS) (k_fail hS (RS_T hR).2.2.1) rfl rfl ?_))
      exact ex_57 (by decide) (QR_inl (by unfold px_part; rw [if_neg h91, if_pos hq]) u2_e RFr_fail)
    · refine (ex_4_2 (ex_0 ?_))
      refine ex_ic4 (fun hc99 => ?_) (fun hc99 => ?_)
      · refine (ex_6_0 (ix_46 (S' := [(.inl 0)]) rfl (sh_161 hS) (k_fail hS (RS_T hR).2.2.1) rfl rfl ?_))
        exact ex_57 (by decide) (QR_inl (by unfold px_part; rw [if_neg h91, if_pos hq]) u2_e RFr_fail)
      · refine (ex_6_0 (ix_41i (v := (l : Int)) (sh_161 hS) (RS_3 hR) (ex_0 ?_)))
        refine ex_ic2 (fun hc108 => by exfalso; omega) (fun hc108 => ?_)
        refine (ex_6_0 (ix_46 (S' := [(.inl 0)]) rfl (sh_161 hS) (k_fail hS (RS_T hR).2.2.1) rfl rfl ?_))
        exact ex_57 (by decide) (QR_inl (by unfold px_part; rw [if_neg h91, if_pos hq]) u2_e RFr_fail)
theorem kp_no {d : Nat} {G : am_G} {I : Nat → Nat → Int} {P : Nat → Nat → Option Nat} (hS : ST G P) {b : Nat → Int} {n : Nat} (hB : TB b n) {od : Bool} {s l z : Nat} (hR : RS I P b n od s l z) {S : Option (Nat → Nat → Rs)} {br : Int} (hbr : 0 ≤ br ∧ br ≤ 8) {D : Nat} (hD : 1 ≤ D) (h91 : ¬ tk b n s = [91]) (hod : od = true) (hq : ¬ ((num b n s = -1 ∧ wrd od (tk b n s) = -1) ∨ 1000 < num b n s ∨ 50 ≤ l)) (hnum : ¬ num b n s = -1) : ∃ o, am_call am_B am_M (d + 3) 72 [(.inr (.inr (some 161))), (.inl br)] (G, I, P) = some o ∧ QR G P b n od I z s D (px_part b n od S s l) o := by
  have hn4 := hB.1
  have hs := RS_s hR
  have hzs := RS_z hR
  have hnb := num_b (b := b) hs
  have hR1 : RS (am_u2 I 161 3 ((l : Int) + 1)) P b n od s (l + 1) z := ⟨TK_fr (RS_T hR) (fun q k hq => u2_q (by omega)), hs, by omega, u2_e, (u2_k (by decide)).trans (RS_2 hR), (u2_q (by decide)).trans (RS_7 hR), hzs, fun k hk => by rw [u2_q (by decide)]; exact RS_c hR k hk, KS_fr (RS_K hR) (fun q k hq => u2_q (by omega))⟩
  have hlt := num_lt (b := b) hs hnum
  have hnx := nx_2 (b := b) s hlt
  refine am_doQ (L := [some (.inr (.inr (some 161))), some (.inl br), none, none]) (Nat.le_of_ble_eq_true rfl) rfl ?_
  refine (ex_6_0 (ix_41r (sh_161 hS) (pt_161_1 hS) (ex_3 (ix_46 (S' := [(.inl 0)]) rfl (sh_169 hS) (k_is_5_f hS (RS_K hR) hB (RS_T hR) (RS_s hR) h91) rfl rfl (ex_if0 (fun _ => ?_) (fun hc => by exfalso; revert hc; decide))))))
  refine (ex_6_0 (ix_41r (sh_161 hS) (pt_161_1 hS) (ix_46 (S' := [(.inl (num b n s))]) rfl (sh_169 hS) (k_number hS hB (RS_T hR) (RS_s hR)) rfl rfl (ex_7_2 rfl (ex_6_0 (ix_41r (sh_161 hS) (pt_161_1 hS) (ex_6_0 (ix_41i (v := 1) (sh_161 hS) ((RS_2 hR).trans (by rw [hod]; rfl)) (ex_if0 (fun hc => by exfalso; revert hc; decide) (fun _ => ?_))))))))))
  refine (ex_3 (ex_28 (ix_46 (S' := [(.inl (wrd od (tk b n s)))]) rfl (sh_169 hS) (k_ov_7 hS (RS_K hR) hB (RS_T hR) (RS_s hR) (v := wrd od (tk b n s)) (by rw [hod]; rfl)) rfl rfl (ex_7_3 rfl (ex_4_2 (ex_0 ?_))))))
  refine ex_ic1 (fun hc87 => ?_) (fun hc87 => by exfalso; omega)
  refine (ex_4_2 (ex_0 ?_))
  refine ex_ic4 (fun hc99 => by exfalso; omega) (fun hc99 => ?_)
  refine (ex_6_0 (ix_41i (v := (l : Int)) (sh_161 hS) (RS_3 hR) (ex_0 ?_)))
  refine ex_ic2 (fun hc108 => ?_) (fun hc108 => by exfalso; omega)
  refine (ex_6_0 (ex_22 rfl (ix_41i (v := (l : Int)) (sh_161 hS) (RS_3 hR) (ex_0 (ex_add ⟨by omega, by omega⟩ (ix_42i (sh_161 hS) (ex_6_0 (ix_41r (sh_161 hS) (pt_161_1 hS) ?_))))))))
  obtain ⟨I2, e2, r2, f2⟩ := RS_step (d := d) hS hB hR1 hlt
  refine (ix_46 (S' := []) rfl (sh_169 hS) e2 rfl rfl (ex_4_2 (ex_0 ?_)))
  refine ex_ic0 (fun hc135 => by exfalso; omega) (fun hc135 => ?_)
  refine (ex_6_0 (ix_41r (sh_161 hS) (pt_161_0 hS) (ex_0 (ex_4_2 (ix_46 (S' := []) rfl (sh_162 hS) (by rw [show num b n s = (((num b n s).toNat : Nat) : Int) by omega]; exact k_add hS (z := z) (sg := 1) (tl := (num b n s).toNat) (RS_7 r2) (by omega) (by decide) (by omega)) rfl rfl (ex_0 ?_))))))
  exact ex_57 (by decide) (QR_inr (z2 := z + 1) (by unfold px_part; rw [if_neg h91, if_neg hq, if_pos hnum]) (RS_add r2 (by omega) (by omega)) (by omega) (by have := SG_more (SG_num (od := od) (F := am_u2 (am_u2 I2 168 z (((num b n s).toNat * 16 + 1 : Nat) : Int)) 162 7 ((z : Int) + 1) 168) (a := z) (v := (num b n s).toNat) ((u2_q (by decide)).trans u2_e) (by omega)) hD; rw [show (((num b n s).toNat : Nat) : Int) = num b n s by omega] at this; exact this) (RFr_trans (fun q k _ hb _ _ => u2_o (by omega)) (RFr_trans (RFr_TKF f2) (RFr_add (Nat.le_refl _)) (Nat.le_refl _)) (Nat.le_refl _)))
theorem kp_wo {d : Nat} {G : am_G} {I : Nat → Nat → Int} {P : Nat → Nat → Option Nat} (hS : ST G P) {b : Nat → Int} {n : Nat} (hB : TB b n) {od : Bool} {s l z : Nat} (hR : RS I P b n od s l z) {S : Option (Nat → Nat → Rs)} {br : Int} (hbr : 0 ≤ br ∧ br ≤ 8) {D : Nat} (hD : 1 ≤ D) (h91 : ¬ tk b n s = [91]) (hod : od = true) (hq : ¬ ((num b n s = -1 ∧ wrd od (tk b n s) = -1) ∨ 1000 < num b n s ∨ 50 ≤ l)) (hnum : num b n s = -1) (h5 : ¬ wrd od (tk b n s) = 5) (h6 : ¬ wrd od (tk b n s) = 6) : ∃ o, am_call am_B am_M (d + 4) 72 [(.inr (.inr (some 161))), (.inl br)] (G, I, P) = some o ∧ QR G P b n od I z s D (px_part b n od S s l) o := by
  have hn4 := hB.1
  have hs := RS_s hR
  have hzs := RS_z hR
  have hnb := num_b (b := b) hs
  have hR1 : RS (am_u2 I 161 3 ((l : Int) + 1)) P b n od s (l + 1) z := ⟨TK_fr (RS_T hR) (fun q k hq => u2_q (by omega)), hs, by omega, u2_e, (u2_k (by decide)).trans (RS_2 hR), (u2_q (by decide)).trans (RS_7 hR), hzs, fun k hk => by rw [u2_q (by decide)]; exact RS_c hR k hk, KS_fr (RS_K hR) (fun q k hq => u2_q (by omega))⟩
  have hlt := wrd_lt (b := b) (od := od) hs (fun zz => hq (Or.inl ⟨hnum, zz⟩))
  have hnx := nx_2 (b := b) s hlt
  have hwr := ooI_rng (t := tk b n s) [[110, 105, 103, 104, 116], [100, 111, 110, 101], [108, 97, 116, 101, 115, 116], [108, 101, 97, 114, 110, 116], [115, 111, 97, 107, 101, 100], [97, 116], [98, 117, 115, 121]] 0
  have hwe : wrd od (tk b n s) = ooI [[110, 105, 103, 104, 116], [100, 111, 110, 101], [108, 97, 116, 101, 115, 116], [108, 101, 97, 114, 110, 116], [115, 111, 97, 107, 101, 100], [97, 116], [98, 117, 115, 121]] 0 (tk b n s) := by rw [hod]; rfl
  rw [← hwe] at hwr
  have hwm : ¬ wrd od (tk b n s) = -1 := fun zz => hq (Or.inl ⟨hnum, zz⟩)
  have hwr := hwr.resolve_left hwm
  have hln : ([[110, 105, 103, 104, 116], [100, 111, 110, 101], [108, 97, 116, 101, 115, 116], [108, 101, 97, 114, 110, 116], [115, 111, 97, 107, 101, 100], [97, 116], [98, 117, 115, 121]] : List (List Int)).length = 7 := rfl
  rw [hln] at hwr
  refine am_doQ (L := [some (.inr (.inr (some 161))), some (.inl br), none, none]) (Nat.le_of_ble_eq_true rfl) rfl ?_
  refine (ex_6_0 (ix_41r (sh_161 hS) (pt_161_1 hS) (ex_3 (ix_46 (S' := [(.inl 0)]) rfl (sh_169 hS) (k_is_5_f hS (RS_K hR) hB (RS_T hR) (RS_s hR) h91) rfl rfl (ex_if0 (fun _ => ?_) (fun hc => by exfalso; revert hc; decide))))))
  refine (ex_6_0 (ix_41r (sh_161 hS) (pt_161_1 hS) (ix_46 (S' := [(.inl (num b n s))]) rfl (sh_169 hS) (k_number hS hB (RS_T hR) (RS_s hR)) rfl rfl (ex_7_2 rfl (ex_6_0 (ix_41r (sh_161 hS) (pt_161_1 hS) (ex_6_0 (ix_41i (v := 1) (sh_161 hS) ((RS_2 hR).trans (by rw [hod]; rfl)) (ex_if0 (fun hc => by exfalso; revert hc; decide) (fun _ => ?_))))))))))
  refine (ex_3 (ex_28 (ix_46 (S' := [(.inl (wrd od (tk b n s)))]) rfl (sh_169 hS) (k_ov_7 hS (RS_K hR) hB (RS_T hR) (RS_s hR) (v := wrd od (tk b n s)) (by rw [hod]; rfl)) rfl rfl (ex_7_3 rfl (ex_4_2 (ex_0 ?_))))))
  refine ex_ic1 (fun hc87 => by exfalso; omega) (fun hc87 => ?_)
  refine (ex_4_3 (ex_0 ?_))
  refine ex_ic0 (fun hc92 => by exfalso; omega) (fun hc92 => ?_)
  refine (ex_4_2 (ex_0 ?_))
  refine ex_ic4 (fun hc99 => by exfalso; omega) (fun hc99 => ?_)
  refine (ex_6_0 (ix_41i (v := (l : Int)) (sh_161 hS) (RS_3 hR) (ex_0 ?_)))
  refine ex_ic2 (fun hc108 => ?_) (fun hc108 => by exfalso; omega)
  refine (ex_6_0 (ex_22 rfl (ix_41i (v := (l : Int)) (sh_161 hS) (RS_3 hR) (ex_0 (ex_add ⟨by omega, by omega⟩ (ix_42i (sh_161 hS) (ex_6_0 (ix_41r (sh_161 hS) (pt_161_1 hS) ?_))))))))
  obtain ⟨I2, e2, r2, f2⟩ := RS_step (d := d + 1) hS hB hR1 hlt
  refine (ix_46 (S' := []) rfl (sh_169 hS) e2 rfl rfl (ex_4_2 (ex_0 ?_)))
  refine ex_ic0 (fun hc135 => ?_) (fun hc135 => by exfalso; omega)
  refine (ex_6_0 (ix_41i (v := 1) (sh_161 hS) ((RS_2 r2).trans (by rw [hod]; rfl)) (ex_if0 (fun hc => by exfalso; revert hc; decide) (fun _ => ?_))))
  refine (ex_4_3 (ex_0 ?_))
  refine ex_ic1 (fun hc158 => ?_) (fun hc158 => by exfalso; omega)
  refine (ex_6_0 (ix_41i (v := 1) (sh_161 hS) ((RS_2 r2).trans (by rw [hod]; rfl)) (ex_if0 (fun hc => by exfalso; revert hc; decide) (fun _ => ?_))))
  refine (ex_4_3 (ex_0 ?_))
  refine ex_ic1 (fun hc179 => ?_) (fun hc179 => by exfalso; omega)
  refine (ex_6_0 (ix_41r (sh_161 hS) (pt_161_0 hS) (ex_0 (ex_4_3 (ix_46 (S' := []) rfl (sh_162 hS) (by rw [show wrd od (tk b n s) = (((wrd od (tk b n s)).toNat : Nat) : Int) by omega]; exact k_add hS (z := z) (sg := 2) (tl := (wrd od (tk b n s)).toNat) (RS_7 r2) (by omega) (by decide) (by omega)) rfl rfl (ex_0 ?_))))))
  exact ex_57 (by decide) (QR_inr (z2 := z + 1) (by unfold px_part px_word; rw [if_neg h91, if_neg hq, if_neg (fun zz => zz hnum), if_neg (fun zz => h5 zz.2), if_neg (fun zz => h6 zz.2)]) (RS_add r2 (by omega) (by omega)) (by omega) (SG_more (SG_word ((u2_q (by decide)).trans u2_e) (by have hh : nwo od = 16 := (by rw [hod]; rfl); omega)) hD) (RFr_trans (fun q k _ hb _ _ => u2_o (by omega)) (RFr_trans (RFr_TKF f2) (RFr_add (Nat.le_refl _)) (Nat.le_refl _)) (Nat.le_refl _)))
theorem kp_5x {d : Nat} {G : am_G} {I : Nat → Nat → Int} {P : Nat → Nat → Option Nat} (hS : ST G P) {b : Nat → Int} {n : Nat} (hB : TB b n) {od : Bool} {s l z : Nat} (hR : RS I P b n od s l z) {S : Option (Nat → Nat → Rs)} {br : Int} (hbr : 0 ≤ br ∧ br ≤ 8) {D : Nat} (hD : 1 ≤ D) (h91 : ¬ tk b n s = [91]) (hod : od = true) (hq : ¬ ((num b n s = -1 ∧ wrd od (tk b n s) = -1) ∨ 1000 < num b n s ∨ 50 ≤ l)) (hnum : num b n s = -1) (h5 : wrd od (tk b n s) = 5) {x : Nat} (hpw : px_which b n 5 6 (nx b n s) (l + 1) = .inl x) : ∃ o, am_call am_B am_M (d + 4) 72 [(.inr (.inr (some 161))), (.inl br)] (G, I, P) = some o ∧ QR G P b n od I z s D (px_part b n od S s l) o := by
  have hn4 := hB.1
  have hs := RS_s hR
  have hzs := RS_z hR
  have hnb := num_b (b := b) hs
  have hR1 : RS (am_u2 I 161 3 ((l : Int) + 1)) P b n od s (l + 1) z := ⟨TK_fr (RS_T hR) (fun q k hq => u2_q (by omega)), hs, by omega, u2_e, (u2_k (by decide)).trans (RS_2 hR), (u2_q (by decide)).trans (RS_7 hR), hzs, fun k hk => by rw [u2_q (by decide)]; exact RS_c hR k hk, KS_fr (RS_K hR) (fun q k hq => u2_q (by omega))⟩
  have hlt := wrd_lt (b := b) (od := od) hs (fun zz => hq (Or.inl ⟨hnum, zz⟩))
  have hnx := nx_2 (b := b) s hlt
  have hwr := ooI_rng (t := tk b n s) [[110, 105, 103, 104, 116], [100, 111, 110, 101], [108, 97, 116, 101, 115, 116], [108, 101, 97, 114, 110, 116], [115, 111, 97, 107, 101, 100], [97, 116], [98, 117, 115, 121]] 0
  have hwe : wrd od (tk b n s) = ooI [[110, 105, 103, 104, 116], [100, 111, 110, 101], [108, 97, 116, 101, 115, 116], [108, 101, 97, 114, 110, 116], [115, 111, 97, 107, 101, 100], [97, 116], [98, 117, 115, 121]] 0 (tk b n s) := by rw [hod]; rfl
  rw [← hwe] at hwr
  have hwm : ¬ wrd od (tk b n s) = -1 := fun zz => hq (Or.inl ⟨hnum, zz⟩)
  have hwr := hwr.resolve_left hwm
  have hln : ([[110, 105, 103, 104, 116], [100, 111, 110, 101], [108, 97, 116, 101, 115, 116], [108, 101, 97, 114, 110, 116], [115, 111, 97, 107, 101, 100], [97, 116], [98, 117, 115, 121]] : List (List Int)).length = 7 := rfl
  rw [hln] at hwr
  refine am_doQ (L := [some (.inr (.inr (some 161))), some (.inl br), none, none]) (Nat.le_of_ble_eq_true rfl) rfl ?_
  refine (ex_6_0 (ix_41r (sh_161 hS) (pt_161_1 hS) (ex_3 (ix_46 (S' := [(.inl 0)]) rfl (sh_169 hS) (k_is_5_f hS (RS_K hR) hB (RS_T hR) (RS_s hR) h91) rfl rfl (ex_if0 (fun _ => ?_) (fun hc => by exfalso; revert hc; decide))))))
  refine (ex_6_0 (ix_41r (sh_161 hS) (pt_161_1 hS) (ix_46 (S' := [(.inl (num b n s))]) rfl (sh_169 hS) (k_number hS hB (RS_T hR) (RS_s hR)) rfl rfl (ex_7_2 rfl (ex_6_0 (ix_41r (sh_161 hS) (pt_161_1 hS) (ex_6_0 (ix_41i (v := 1) (sh_161 hS) ((RS_2 hR).trans (by rw [hod]; rfl)) (ex_if0 (fun hc => by exfalso; revert hc; decide) (fun _ => ?_))))))))))
  refine (ex_3 (ex_28 (ix_46 (S' := [(.inl (wrd od (tk b n s)))]) rfl (sh_169 hS) (k_ov_7 hS (RS_K hR) hB (RS_T hR) (RS_s hR) (v := wrd od (tk b n s)) (by rw [hod]; rfl)) rfl rfl (ex_7_3 rfl (ex_4_2 (ex_0 ?_))))))
  refine ex_ic1 (fun hc87 => by exfalso; omega) (fun hc87 => ?_)
  refine (ex_4_3 (ex_0 ?_))
  refine ex_ic0 (fun hc92 => by exfalso; omega) (fun hc92 => ?_)
  refine (ex_4_2 (ex_0 ?_))
  refine ex_ic4 (fun hc99 => by exfalso; omega) (fun hc99 => ?_)
  refine (ex_6_0 (ix_41i (v := (l : Int)) (sh_161 hS) (RS_3 hR) (ex_0 ?_)))
  refine ex_ic2 (fun hc108 => ?_) (fun hc108 => by exfalso; omega)
  refine (ex_6_0 (ex_22 rfl (ix_41i (v := (l : Int)) (sh_161 hS) (RS_3 hR) (ex_0 (ex_add ⟨by omega, by omega⟩ (ix_42i (sh_161 hS) (ex_6_0 (ix_41r (sh_161 hS) (pt_161_1 hS) ?_))))))))
  obtain ⟨I2, e2, r2, f2⟩ := RS_step (d := d + 1) hS hB hR1 hlt
  refine (ix_46 (S' := []) rfl (sh_169 hS) e2 rfl rfl (ex_4_2 (ex_0 ?_)))
  refine ex_ic0 (fun hc135 => ?_) (fun hc135 => by exfalso; omega)
  refine (ex_6_0 (ix_41i (v := 1) (sh_161 hS) ((RS_2 r2).trans (by rw [hod]; rfl)) (ex_if0 (fun hc => by exfalso; revert hc; decide) (fun _ => ?_))))
  refine (ex_4_3 (ex_0 ?_))
  refine ex_ic1 (fun hc158 => by exfalso; omega) (fun hc158 => ?_)
  refine (ex_6_0 (ex_0 (ex_0 ?_)))
  obtain ⟨o_, eo, qo⟩ := k_which (d := d) (fi := 5) (mo := 6) hS hB r2 hod (by decide)
  rw [hpw] at qo
  obtain ⟨I3, rfl, hx3, f3⟩ := qo
  refine (ix_46 (S' := [(.inl 0)]) rfl (sh_161 hS) eo rfl rfl ?_)
  exact ex_57 (by decide) (QR_inl (by unfold px_part px_word; rw [if_neg h91, if_neg hq, if_neg (fun zz => zz hnum), if_pos ⟨hod, h5⟩]; exact hpw) hx3 (RFr_trans (fun q k _ hb _ _ => u2_o (by omega)) (RFr_trans (RFr_TKF f2) f3 (Nat.le_refl _)) (Nat.le_refl _)))
theorem kp_5s {d : Nat} {G : am_G} {I : Nat → Nat → Int} {P : Nat → Nat → Option Nat} (hS : ST G P) {b : Nat → Int} {n : Nat} (hB : TB b n) {od : Bool} {s l z : Nat} (hR : RS I P b n od s l z) {S : Option (Nat → Nat → Rs)} {br : Int} (hbr : 0 ≤ br ∧ br ≤ 8) {D : Nat} (hD : 1 ≤ D) (h91 : ¬ tk b n s = [91]) (hod : od = true) (hq : ¬ ((num b n s = -1 ∧ wrd od (tk b n s) = -1) ∨ 1000 < num b n s ∨ 50 ≤ l)) (hnum : num b n s = -1) (h5 : wrd od (tk b n s) = 5) {s3 l3 : Nat} {f : Fn} (hpw : px_which b n 5 6 (nx b n s) (l + 1) = .inr (s3, l3, f)) : ∃ o, am_call am_B am_M (d + 4) 72 [(.inr (.inr (some 161))), (.inl br)] (G, I, P) = some o ∧ QR G P b n od I z s D (px_part b n od S s l) o := by
  have hn4 := hB.1
  have hs := RS_s hR
  have hzs := RS_z hR
  have hnb := num_b (b := b) hs
  have hR1 : RS (am_u2 I 161 3 ((l : Int) + 1)) P b n od s (l + 1) z := ⟨TK_fr (RS_T hR) (fun q k hq => u2_q (by omega)), hs, by omega, u2_e, (u2_k (by decide)).trans (RS_2 hR), (u2_q (by decide)).trans (RS_7 hR), hzs, fun k hk => by rw [u2_q (by decide)]; exact RS_c hR k hk, KS_fr (RS_K hR) (fun q k hq => u2_q (by omega))⟩
  have hlt := wrd_lt (b := b) (od := od) hs (fun zz => hq (Or.inl ⟨hnum, zz⟩))
  have hnx := nx_2 (b := b) s hlt
  have hwr := ooI_rng (t := tk b n s) [[110, 105, 103, 104, 116], [100, 111, 110, 101], [108, 97, 116, 101, 115, 116], [108, 101, 97, 114, 110, 116], [115, 111, 97, 107, 101, 100], [97, 116], [98, 117, 115, 121]] 0
  have hwe : wrd od (tk b n s) = ooI [[110, 105, 103, 104, 116], [100, 111, 110, 101], [108, 97, 116, 101, 115, 116], [108, 101, 97, 114, 110, 116], [115, 111, 97, 107, 101, 100], [97, 116], [98, 117, 115, 121]] 0 (tk b n s) := by rw [hod]; rfl
  rw [← hwe] at hwr
  have hwm : ¬ wrd od (tk b n s) = -1 := fun zz => hq (Or.inl ⟨hnum, zz⟩)
  have hwr := hwr.resolve_left hwm
  have hln : ([[110, 105, 103, 104, 116], [100, 111, 110, 101], [108, 97, 116, 101, 115, 116], [108, 101, 97, 114, 110, 116], [115, 111, 97, 107, 101, 100], [97, 116], [98, 117, 115, 121]] : List (List Int)).length = 7 := rfl
  rw [hln] at hwr
  refine am_doQ (L := [some (.inr (.inr (some 161))), some (.inl br), none, none]) (Nat.le_of_ble_eq_true rfl) rfl ?_
  refine (ex_6_0 (ix_41r (sh_161 hS) (pt_161_1 hS) (ex_3 (ix_46 (S' := [(.inl 0)]) rfl (sh_169 hS) (k_is_5_f hS (RS_K hR) hB (RS_T hR) (RS_s hR) h91) rfl rfl (ex_if0 (fun _ => ?_) (fun hc => by exfalso; revert hc; decide))))))
  refine (ex_6_0 (ix_41r (sh_161 hS) (pt_161_1 hS) (ix_46 (S' := [(.inl (num b n s))]) rfl (sh_169 hS) (k_number hS hB (RS_T hR) (RS_s hR)) rfl rfl (ex_7_2 rfl (ex_6_0 (ix_41r (sh_161 hS) (pt_161_1 hS) (ex_6_0 (ix_41i (v := 1) (sh_161 hS) ((RS_2 hR).trans (by rw [hod]; rfl)) (ex_if0 (fun hc => by exfalso; revert hc; decide) (fun _ => ?_))))))))))
  refine (ex_3 (ex_28 (ix_46 (S' := [(.inl (wrd od (tk b n s)))]) rfl (sh_169 hS) (k_ov_7 hS (RS_K hR) hB (RS_T hR) (RS_s hR) (v := wrd od (tk b n s)) (by rw [hod]; rfl)) rfl rfl (ex_7_3 rfl (ex_4_2 (ex_0 ?_))))))
  refine ex_ic1 (fun hc87 => by exfalso; omega) (fun hc87 => ?_)
  refine (ex_4_3 (ex_0 ?_))
  refine ex_ic0 (fun hc92 => by exfalso; omega) (fun hc92 => ?_)
  refine (ex_4_2 (ex_0 ?_))
  refine ex_ic4 (fun hc99 => by exfalso; omega) (fun hc99 => ?_)
  refine (ex_6_0 (ix_41i (v := (l : Int)) (sh_161 hS) (RS_3 hR) (ex_0 ?_)))
  refine ex_ic2 (fun hc108 => ?_) (fun hc108 => by exfalso; omega)
  refine (ex_6_0 (ex_22 rfl (ix_41i (v := (l : Int)) (sh_161 hS) (RS_3 hR) (ex_0 (ex_add ⟨by omega, by omega⟩ (ix_42i (sh_161 hS) (ex_6_0 (ix_41r (sh_161 hS) (pt_161_1 hS) ?_))))))))
  obtain ⟨I2, e2, r2, f2⟩ := RS_step (d := d + 1) hS hB hR1 hlt
  refine (ix_46 (S' := []) rfl (sh_169 hS) e2 rfl rfl (ex_4_2 (ex_0 ?_)))
  refine ex_ic0 (fun hc135 => ?_) (fun hc135 => by exfalso; omega)
  refine (ex_6_0 (ix_41i (v := 1) (sh_161 hS) ((RS_2 r2).trans (by rw [hod]; rfl)) (ex_if0 (fun hc => by exfalso; revert hc; decide) (fun _ => ?_))))
  refine (ex_4_3 (ex_0 ?_))
  refine ex_ic1 (fun hc158 => by exfalso; omega) (fun hc158 => ?_)
  refine (ex_6_0 (ex_0 (ex_0 ?_)))
  obtain ⟨o_, eo, qo⟩ := k_which (d := d) (fi := 5) (mo := 6) hS hB r2 hod (by decide)
  rw [hpw] at qo
  obtain ⟨I3, z3, rfl, r3, hz3, hS3, f3⟩ := qo
  refine (ix_46 (S' := [(.inl 1)]) rfl (sh_161 hS) eo rfl rfl ?_)
  exact ex_57 (by decide) (QR_inr (by unfold px_part px_word; rw [if_neg h91, if_neg hq, if_neg (fun zz => zz hnum), if_pos ⟨hod, h5⟩]; exact hpw) r3 (by omega) (SG_more hS3 hD) (RFr_trans (fun q k _ hb _ _ => u2_o (by omega)) (RFr_trans (RFr_TKF f2) f3 (Nat.le_refl _)) (Nat.le_refl _)))
theorem kp_6x {d : Nat} {G : am_G} {I : Nat → Nat → Int} {P : Nat → Nat → Option Nat} (hS : ST G P) {b : Nat → Int} {n : Nat} (hB : TB b n) {od : Bool} {s l z : Nat} (hR : RS I P b n od s l z) {S : Option (Nat → Nat → Rs)} {br : Int} (hbr : 0 ≤ br ∧ br ≤ 8) {D : Nat} (hD : 1 ≤ D) (h91 : ¬ tk b n s = [91]) (hod : od = true) (hq : ¬ ((num b n s = -1 ∧ wrd od (tk b n s) = -1) ∨ 1000 < num b n s ∨ 50 ≤ l)) (hnum : num b n s = -1) (h5 : ¬ wrd od (tk b n s) = 5) (h6 : wrd od (tk b n s) = 6) {x : Nat} (hpw : px_which b n 11 5 (nx b n s) (l + 1) = .inl x) : ∃ o, am_call am_B am_M (d + 4) 72 [(.inr (.inr (some 161))), (.inl br)] (G, I, P) = some o ∧ QR G P b n od I z s D (px_part b n od S s l) o := by
  have hn4 := hB.1
  have hs := RS_s hR
  have hzs := RS_z hR
  have hnb := num_b (b := b) hs
  have hR1 : RS (am_u2 I 161 3 ((l : Int) + 1)) P b n od s (l + 1) z := ⟨TK_fr (RS_T hR) (fun q k hq => u2_q (by omega)), hs, by omega, u2_e, (u2_k (by decide)).trans (RS_2 hR), (u2_q (by decide)).trans (RS_7 hR), hzs, fun k hk => by rw [u2_q (by decide)]; exact RS_c hR k hk, KS_fr (RS_K hR) (fun q k hq => u2_q (by omega))⟩
  have hlt := wrd_lt (b := b) (od := od) hs (fun zz => hq (Or.inl ⟨hnum, zz⟩))
  have hnx := nx_2 (b := b) s hlt
  have hwr := ooI_rng (t := tk b n s) [[110, 105, 103, 104, 116], [100, 111, 110, 101], [108, 97, 116, 101, 115, 116], [108, 101, 97, 114, 110, 116], [115, 111, 97, 107, 101, 100], [97, 116], [98, 117, 115, 121]] 0
  have hwe : wrd od (tk b n s) = ooI [[110, 105, 103, 104, 116], [100, 111, 110, 101], [108, 97, 116, 101, 115, 116], [108, 101, 97, 114, 110, 116], [115, 111, 97, 107, 101, 100], [97, 116], [98, 117, 115, 121]] 0 (tk b n s) := by rw [hod]; rfl
  rw [← hwe] at hwr
  have hwm : ¬ wrd od (tk b n s) = -1 := fun zz => hq (Or.inl ⟨hnum, zz⟩)
  have hwr := hwr.resolve_left hwm
  have hln : ([[110, 105, 103, 104, 116], [100, 111, 110, 101], [108, 97, 116, 101, 115, 116], [108, 101, 97, 114, 110, 116], [115, 111, 97, 107, 101, 100], [97, 116], [98, 117, 115, 121]] : List (List Int)).length = 7 := rfl
  rw [hln] at hwr
  refine am_doQ (L := [some (.inr (.inr (some 161))), some (.inl br), none, none]) (Nat.le_of_ble_eq_true rfl) rfl ?_
  refine (ex_6_0 (ix_41r (sh_161 hS) (pt_161_1 hS) (ex_3 (ix_46 (S' := [(.inl 0)]) rfl (sh_169 hS) (k_is_5_f hS (RS_K hR) hB (RS_T hR) (RS_s hR) h91) rfl rfl (ex_if0 (fun _ => ?_) (fun hc => by exfalso; revert hc; decide))))))
  refine (ex_6_0 (ix_41r (sh_161 hS) (pt_161_1 hS) (ix_46 (S' := [(.inl (num b n s))]) rfl (sh_169 hS) (k_number hS hB (RS_T hR) (RS_s hR)) rfl rfl (ex_7_2 rfl (ex_6_0 (ix_41r (sh_161 hS) (pt_161_1 hS) (ex_6_0 (ix_41i (v := 1) (sh_161 hS) ((RS_2 hR).trans (by rw [hod]; rfl)) (ex_if0 (fun hc => by exfalso; revert hc; decide) (fun _ => ?_))))))))))
  refine (ex_3 (ex_28 (ix_46 (S' := [(.inl (wrd od (tk b n s)))]) rfl (sh_169 hS) (k_ov_7 hS (RS_K hR) hB (RS_T hR) (RS_s hR) (v := wrd od (tk b n s)) (by rw [hod]; rfl)) rfl rfl (ex_7_3 rfl (ex_4_2 (ex_0 ?_))))))
  refine ex_ic1 (fun hc87 => by exfalso; omega) (fun hc87 => ?_)
  refine (ex_4_3 (ex_0 ?_))
  refine ex_ic0 (fun hc92 => by exfalso; omega) (fun hc92 => ?_)
  refine (ex_4_2 (ex_0 ?_))
  refine ex_ic4 (fun hc99 => by exfalso; omega) (fun hc99 => ?_)
  refine (ex_6_0 (ix_41i (v := (l : Int)) (sh_161 hS) (RS_3 hR) (ex_0 ?_)))
  refine ex_ic2 (fun hc108 => ?_) (fun hc108 => by exfalso; omega)
  refine (ex_6_0 (ex_22 rfl (ix_41i (v := (l : Int)) (sh_161 hS) (RS_3 hR) (ex_0 (ex_add ⟨by omega, by omega⟩ (ix_42i (sh_161 hS) (ex_6_0 (ix_41r (sh_161 hS) (pt_161_1 hS) ?_))))))))
  obtain ⟨I2, e2, r2, f2⟩ := RS_step (d := d + 1) hS hB hR1 hlt
  refine (ix_46 (S' := []) rfl (sh_169 hS) e2 rfl rfl (ex_4_2 (ex_0 ?_)))
  refine ex_ic0 (fun hc135 => ?_) (fun hc135 => by exfalso; omega)
  refine (ex_6_0 (ix_41i (v := 1) (sh_161 hS) ((RS_2 r2).trans (by rw [hod]; rfl)) (ex_if0 (fun hc => by exfalso; revert hc; decide) (fun _ => ?_))))
  refine (ex_4_3 (ex_0 ?_))
  refine ex_ic1 (fun hc158 => ?_) (fun hc158 => by exfalso; omega)
  refine (ex_6_0 (ix_41i (v := 1) (sh_161 hS) ((RS_2 r2).trans (by rw [hod]; rfl)) (ex_if0 (fun hc => by exfalso; revert hc; decide) (fun _ => ?_))))
  refine (ex_4_3 (ex_0 ?_))
  refine ex_ic1 (fun hc179 => by exfalso; omega) (fun hc179 => ?_)
  refine (ex_6_0 (ex_0 (ex_0 ?_)))
  obtain ⟨o_, eo, qo⟩ := k_which (d := d) (fi := 11) (mo := 5) hS hB r2 hod (by decide)
  rw [hpw] at qo
  obtain ⟨I3, rfl, hx3, f3⟩ := qo
  refine (ix_46 (S' := [(.inl 0)]) rfl (sh_161 hS) eo rfl rfl ?_)
  exact ex_57 (by decide) (QR_inl (by unfold px_part px_word; rw [if_neg h91, if_neg hq, if_neg (fun zz => zz hnum), if_neg (fun zz => h5 zz.2), if_pos ⟨hod, h6⟩]; exact hpw) hx3 (RFr_trans (fun q k _ hb _ _ => u2_o (by omega)) (RFr_trans (RFr_TKF f2) f3 (Nat.le_refl _)) (Nat.le_refl _)))
theorem kp_6s {d : Nat} {G : am_G} {I : Nat → Nat → Int} {P : Nat → Nat → Option Nat} (hS : ST G P) {b : Nat → Int} {n : Nat} (hB : TB b n) {od : Bool} {s l z : Nat} (hR : RS I P b n od s l z) {S : Option (Nat → Nat → Rs)} {br : Int} (hbr : 0 ≤ br ∧ br ≤ 8) {D : Nat} (hD : 1 ≤ D) (h91 : ¬ tk b n s = [91]) (hod : od = true) (hq : ¬ ((num b n s = -1 ∧ wrd od (tk b n s) = -1) ∨ 1000 < num b n s ∨ 50 ≤ l)) (hnum : num b n s = -1) (h5 : ¬ wrd od (tk b n s) = 5) (h6 : wrd od (tk b n s) = 6) {s3 l3 : Nat} {f : Fn} (hpw : px_which b n 11 5 (nx b n s) (l + 1) = .inr (s3, l3, f)) : ∃ o, am_call am_B am_M (d + 4) 72 [(.inr (.inr (some 161))), (.inl br)] (G, I, P) = some o ∧ QR G P b n od I z s D (px_part b n od S s l) o := by
  have hn4 := hB.1
  have hs := RS_s hR
  have hzs := RS_z hR
  have hnb := num_b (b := b) hs
  have hR1 : RS (am_u2 I 161 3 ((l : Int) + 1)) P b n od s (l + 1) z := ⟨TK_fr (RS_T hR) (fun q k hq => u2_q (by omega)), hs, by omega, u2_e, (u2_k (by decide)).trans (RS_2 hR), (u2_q (by decide)).trans (RS_7 hR), hzs, fun k hk => by rw [u2_q (by decide)]; exact RS_c hR k hk, KS_fr (RS_K hR) (fun q k hq => u2_q (by omega))⟩
  have hlt := wrd_lt (b := b) (od := od) hs (fun zz => hq (Or.inl ⟨hnum, zz⟩))
  have hnx := nx_2 (b := b) s hlt
  have hwr := ooI_rng (t := tk b n s) [[110, 105, 103, 104, 116], [100, 111, 110, 101], [108, 97, 116, 101, 115, 116], [108, 101, 97, 114, 110, 116], [115, 111, 97, 107, 101, 100], [97, 116], [98, 117, 115, 121]] 0
  have hwe : wrd od (tk b n s) = ooI [[110, 105, 103, 104, 116], [100, 111, 110, 101], [108, 97, 116, 101, 115, 116], [108, 101, 97, 114, 110, 116], [115, 111, 97, 107, 101, 100], [97, 116], [98, 117, 115, 121]] 0 (tk b n s) := by rw [hod]; rfl
  rw [← hwe] at hwr
  have hwm : ¬ wrd od (tk b n s) = -1 := fun zz => hq (Or.inl ⟨hnum, zz⟩)
  have hwr := hwr.resolve_left hwm
  have hln : ([[110, 105, 103, 104, 116], [100, 111, 110, 101], [108, 97, 116, 101, 115, 116], [108, 101, 97, 114, 110, 116], [115, 111, 97, 107, 101, 100], [97, 116], [98, 117, 115, 121]] : List (List Int)).length = 7 := rfl
  rw [hln] at hwr
  refine am_doQ (L := [some (.inr (.inr (some 161))), some (.inl br), none, none]) (Nat.le_of_ble_eq_true rfl) rfl ?_
  refine (ex_6_0 (ix_41r (sh_161 hS) (pt_161_1 hS) (ex_3 (ix_46 (S' := [(.inl 0)]) rfl (sh_169 hS) (k_is_5_f hS (RS_K hR) hB (RS_T hR) (RS_s hR) h91) rfl rfl (ex_if0 (fun _ => ?_) (fun hc => by exfalso; revert hc; decide))))))
  refine (ex_6_0 (ix_41r (sh_161 hS) (pt_161_1 hS) (ix_46 (S' := [(.inl (num b n s))]) rfl (sh_169 hS) (k_number hS hB (RS_T hR) (RS_s hR)) rfl rfl (ex_7_2 rfl (ex_6_0 (ix_41r (sh_161 hS) (pt_161_1 hS) (ex_6_0 (ix_41i (v := 1) (sh_161 hS) ((RS_2 hR).trans (by rw [hod]; rfl)) (ex_if0 (fun hc => by exfalso; revert hc; decide) (fun _ => ?_))))))))))
  refine (ex_3 (ex_28 (ix_46 (S' := [(.inl (wrd od (tk b n s)))]) rfl (sh_169 hS) (k_ov_7 hS (RS_K hR) hB (RS_T hR) (RS_s hR) (v := wrd od (tk b n s)) (by rw [hod]; rfl)) rfl rfl (ex_7_3 rfl (ex_4_2 (ex_0 ?_))))))
  refine ex_ic1 (fun hc87 => by exfalso; omega) (fun hc87 => ?_)
  refine (ex_4_3 (ex_0 ?_))
  refine ex_ic0 (fun hc92 => by exfalso; omega) (fun hc92 => ?_)
  refine (ex_4_2 (ex_0 ?_))
  refine ex_ic4 (fun hc99 => by exfalso; omega) (fun hc99 => ?_)
  refine (ex_6_0 (ix_41i (v := (l : Int)) (sh_161 hS) (RS_3 hR) (ex_0 ?_)))
  refine ex_ic2 (fun hc108 => ?_) (fun hc108 => by exfalso; omega)
  refine (ex_6_0 (ex_22 rfl (ix_41i (v := (l : Int)) (sh_161 hS) (RS_3 hR) (ex_0 (ex_add ⟨by omega, by omega⟩ (ix_42i (sh_161 hS) (ex_6_0 (ix_41r (sh_161 hS) (pt_161_1 hS) ?_))))))))
  obtain ⟨I2, e2, r2, f2⟩ := RS_step (d := d + 1) hS hB hR1 hlt
  refine (ix_46 (S' := []) rfl (sh_169 hS) e2 rfl rfl (ex_4_2 (ex_0 ?_)))
  refine ex_ic0 (fun hc135 => ?_) (fun hc135 => by exfalso; omega)
  refine (ex_6_0 (ix_41i (v := 1) (sh_161 hS) ((RS_2 r2).trans (by rw [hod]; rfl)) (ex_if0 (fun hc => by exfalso; revert hc; decide) (fun _ => ?_))))
  refine (ex_4_3 (ex_0 ?_))
  refine ex_ic1 (fun hc158 => ?_) (fun hc158 => by exfalso; omega)
  refine (ex_6_0 (ix_41i (v := 1) (sh_161 hS) ((RS_2 r2).trans (by rw [hod]; rfl)) (ex_if0 (fun hc => by exfalso; revert hc; decide) (fun _ => ?_))))
  refine (ex_4_3 (ex_0 ?_))
  refine ex_ic1 (fun hc179 => by exfalso; omega) (fun hc179 => ?_)
  refine (ex_6_0 (ex_0 (ex_0 ?_)))
  obtain ⟨o_, eo, qo⟩ := k_which (d := d) (fi := 11) (mo := 5) hS hB r2 hod (by decide)
  rw [hpw] at qo
  obtain ⟨I3, z3, rfl, r3, hz3, hS3, f3⟩ := qo
  refine (ix_46 (S' := [(.inl 1)]) rfl (sh_161 hS) eo rfl rfl ?_)
  exact ex_57 (by decide) (QR_inr (by unfold px_part px_word; rw [if_neg h91, if_neg hq, if_neg (fun zz => zz hnum), if_neg (fun zz => h5 zz.2), if_pos ⟨hod, h6⟩]; exact hpw) r3 (by omega) (SG_more hS3 hD) (RFr_trans (fun q k _ hb _ _ => u2_o (by omega)) (RFr_trans (RFr_TKF f2) f3 (Nat.le_refl _)) (Nat.le_refl _)))
theorem kp_fl {d : Nat} {G : am_G} {I : Nat → Nat → Int} {P : Nat → Nat → Option Nat} (hS : ST G P) {b : Nat → Int} {n : Nat} (hB : TB b n) {od : Bool} {s l z : Nat} (hR : RS I P b n od s l z) {S : Option (Nat → Nat → Rs)} {br : Int} (hbr : 0 ≤ br ∧ br ≤ 8) {D : Nat} (hD : 1 ≤ D) (h91 : ¬ tk b n s = [91]) (hod : od = false) (hq : (num b n s = -1 ∧ wrd od (tk b n s) = -1) ∨ 1000 < num b n s ∨ 50 ≤ l) : ∃ o, am_call am_B am_M (d + 3) 72 [(.inr (.inr (some 161))), (.inl br)] (G, I, P) = some o ∧ QR G P b n od I z s D (px_part b n od S s l) o := by
  have hn4 := hB.1
  have hs := RS_s hR
  have hzs := RS_z hR
  refine am_doQ (L := [some (.inr (.inr (some 161))), some (.inl br), none, none]) (Nat.le_of_ble_eq_true rfl) rfl ?_
  refine (ex_6_0 (ix_41r (sh_161 hS) (pt_161_1 hS) (ex_3 (ix_46 (S' := [(.inl 0)]) rfl (sh_169 hS) (k_is_5_f hS (RS_K hR) hB (RS_T hR) (RS_s hR) h91) rfl rfl (ex_if0 (fun _ => ?_) (fun hc => by exfalso; revert hc; decide))))))
  refine (ex_6_0 (ix_41r (sh_161 hS) (pt_161_1 hS) (ix_46 (S' := [(.inl (num b n s))]) rfl (sh_169 hS) (k_number hS hB (RS_T hR) (RS_s hR)) rfl rfl (ex_7_2 rfl (ex_6_0 (ix_41r (sh_161 hS) (pt_161_1 hS) (ex_6_0 (ix_41i (v := 0) (sh_161 hS) ((RS_2 hR).trans (by rw [hod]; rfl)) (ex_if0 (fun _ => ?_) (fun hc => by exfalso; revert hc; decide))))))))))
  refine (ex_3 (ex_58 (ix_46 (S' := [(.inl (wrd od (tk b n s)))]) rfl (sh_169 hS) (k_ov_8 hS (RS_K hR) hB (RS_T hR) (RS_s hR) (v := wrd od (tk b n s)) (by rw [hod]; rfl)) rfl rfl (ex_7_3 rfl (ex_4_2 (ex_0 ?_))))))
  refine ex_ic1 (fun hc87 => ?_) (fun hc87 => ?_)
  · refine (ex_4_2 (ex_0 ?_))
    refine ex_ic4 (fun hc99 => ?_) (fun hc99 => ?_)
    · refine (ex_6_0 (ix_46 (S' := [(.inl 0)]) rfl (sh_161 hS) (k_fail hS (RS_T hR).2.2.1) rfl rfl ?_))
      exact ex_57 (by decide) (QR_inl (by unfold px_part; rw [if_neg h91, if_pos hq]) u2_e RFr_fail)
    · refine (ex_6_0 (ix_41i (v := (l : Int)) (sh_161 hS) (RS_3 hR) (ex_0 ?_)))
      refine ex_ic2 (fun hc108 => by exfalso; omega) (fun hc108 => ?_)
      refine (ex_6_0 (ix_46 (S' := [(.inl 0)]) rfl (sh_161 hS) (k_fail hS (RS_T hR).2.2.1) rfl rfl ?_))
      exact ex_57 (by decide) (QR_inl (by unfold px_part; rw [if_neg h91, if_pos hq]) u2_e RFr_fail)
  · refine (ex_4_3 (ex_0 ?_))
    refine ex_ic0 (fun hc92 => ?_) (fun hc92 => ?_)
    · refine (ex_6_0 (ix_46 (S' := [(.inl 0)]) rfl (sh_161 hS) (k_fail hS (RS_T hR).2.2.1) rfl rfl ?_))
      exact ex_57 (by decide) (QR_inl (by unfold px_part; rw [if_neg h91, if_pos hq]) u2_e RFr_fail)
    · refine (ex_4_2 (ex_0 ?_))
      refine ex_ic4 (fun hc99 => ?_) (fun hc99 => ?_)
      · refine (ex_6_0 (ix_46 (S' := [(.inl 0)]) rfl (sh_161 hS) (k_fail hS (RS_T hR).2.2.1) rfl rfl ?_))
        exact ex_57 (by decide) (QR_inl (by unfold px_part; rw [if_neg h91, if_pos hq]) u2_e RFr_fail)
      · refine (ex_6_0 (ix_41i (v := (l : Int)) (sh_161 hS) (RS_3 hR) (ex_0 ?_)))
        refine ex_ic2 (fun hc108 => by exfalso; omega) (fun hc108 => ?_)
        refine (ex_6_0 (ix_46 (S' := [(.inl 0)]) rfl (sh_161 hS) (k_fail hS (RS_T hR).2.2.1) rfl rfl ?_))
        exact ex_57 (by decide) (QR_inl (by unfold px_part; rw [if_neg h91, if_pos hq]) u2_e RFr_fail)
theorem kp_nl {d : Nat} {G : am_G} {I : Nat → Nat → Int} {P : Nat → Nat → Option Nat} (hS : ST G P) {b : Nat → Int} {n : Nat} (hB : TB b n) {od : Bool} {s l z : Nat} (hR : RS I P b n od s l z) {S : Option (Nat → Nat → Rs)} {br : Int} (hbr : 0 ≤ br ∧ br ≤ 8) {D : Nat} (hD : 1 ≤ D) (h91 : ¬ tk b n s = [91]) (hod : od = false) (hq : ¬ ((num b n s = -1 ∧ wrd od (tk b n s) = -1) ∨ 1000 < num b n s ∨ 50 ≤ l)) (hnum : ¬ num b n s = -1) : ∃ o, am_call am_B am_M (d + 3) 72 [(.inr (.inr (some 161))), (.inl br)] (G, I, P) = some o ∧ QR G P b n od I z s D (px_part b n od S s l) o := by
  have hn4 := hB.1
  have hs := RS_s hR
  have hzs := RS_z hR
  have hnb := num_b (b := b) hs
  have hR1 : RS (am_u2 I 161 3 ((l : Int) + 1)) P b n od s (l + 1) z := ⟨TK_fr (RS_T hR) (fun q k hq => u2_q (by omega)), hs, by omega, u2_e, (u2_k (by decide)).trans (RS_2 hR), (u2_q (by decide)).trans (RS_7 hR), hzs, fun k hk => by rw [u2_q (by decide)]; exact RS_c hR k hk, KS_fr (RS_K hR) (fun q k hq => u2_q (by omega))⟩
  have hlt := num_lt (b := b) hs hnum
  have hnx := nx_2 (b := b) s hlt
  refine am_doQ (L := [some (.inr (.inr (some 161))), some (.inl br), none, none]) (Nat.le_of_ble_eq_true rfl) rfl ?_
  refine (ex_6_0 (ix_41r (sh_161 hS) (pt_161_1 hS) (ex_3 (ix_46 (S' := [(.inl 0)]) rfl (sh_169 hS) (k_is_5_f hS (RS_K hR) hB (RS_T hR) (RS_s hR) h91) rfl rfl (ex_if0 (fun _ => ?_) (fun hc => by exfalso; revert hc; decide))))))
  refine (ex_6_0 (ix_41r (sh_161 hS) (pt_161_1 hS) (ix_46 (S' := [(.inl (num b n s))]) rfl (sh_169 hS) (k_number hS hB (RS_T hR) (RS_s hR)) rfl rfl (ex_7_2 rfl (ex_6_0 (ix_41r (sh_161 hS) (pt_161_1 hS) (ex_6_0 (ix_41i (v := 0) (sh_161 hS) ((RS_2 hR).trans (by rw [hod]; rfl)) (ex_if0 (fun _ => ?_) (fun hc => by exfalso; revert hc; decide))))))))))
  refine (ex_3 (ex_58 (ix_46 (S' := [(.inl (wrd od (tk b n s)))]) rfl (sh_169 hS) (k_ov_8 hS (RS_K hR) hB (RS_T hR) (RS_s hR) (v := wrd od (tk b n s)) (by rw [hod]; rfl)) rfl rfl (ex_7_3 rfl (ex_4_2 (ex_0 ?_))))))
  refine ex_ic1 (fun hc87 => ?_) (fun hc87 => by exfalso; omega)
  refine (ex_4_2 (ex_0 ?_))
  refine ex_ic4 (fun hc99 => by exfalso; omega) (fun hc99 => ?_)
  refine (ex_6_0 (ix_41i (v := (l : Int)) (sh_161 hS) (RS_3 hR) (ex_0 ?_)))
  refine ex_ic2 (fun hc108 => ?_) (fun hc108 => by exfalso; omega)
  refine (ex_6_0 (ex_22 rfl (ix_41i (v := (l : Int)) (sh_161 hS) (RS_3 hR) (ex_0 (ex_add ⟨by omega, by omega⟩ (ix_42i (sh_161 hS) (ex_6_0 (ix_41r (sh_161 hS) (pt_161_1 hS) ?_))))))))
  obtain ⟨I2, e2, r2, f2⟩ := RS_step (d := d) hS hB hR1 hlt
  refine (ix_46 (S' := []) rfl (sh_169 hS) e2 rfl rfl (ex_4_2 (ex_0 ?_)))
  refine ex_ic0 (fun hc135 => by exfalso; omega) (fun hc135 => ?_)
  refine (ex_6_0 (ix_41r (sh_161 hS) (pt_161_0 hS) (ex_0 (ex_4_2 (ix_46 (S' := []) rfl (sh_162 hS) (by rw [show num b n s = (((num b n s).toNat : Nat) : Int) by omega]; exact k_add hS (z := z) (sg := 1) (tl := (num b n s).toNat) (RS_7 r2) (by omega) (by decide) (by omega)) rfl rfl (ex_0 ?_))))))
  exact ex_57 (by decide) (QR_inr (z2 := z + 1) (by unfold px_part; rw [if_neg h91, if_neg hq, if_pos hnum]) (RS_add r2 (by omega) (by omega)) (by omega) (by have := SG_more (SG_num (od := od) (F := am_u2 (am_u2 I2 168 z (((num b n s).toNat * 16 + 1 : Nat) : Int)) 162 7 ((z : Int) + 1) 168) (a := z) (v := (num b n s).toNat) ((u2_q (by decide)).trans u2_e) (by omega)) hD; rw [show (((num b n s).toNat : Nat) : Int) = num b n s by omega] at this; exact this) (RFr_trans (fun q k _ hb _ _ => u2_o (by omega)) (RFr_trans (RFr_TKF f2) (RFr_add (Nat.le_refl _)) (Nat.le_refl _)) (Nat.le_refl _)))
theorem kp_wl {d : Nat} {G : am_G} {I : Nat → Nat → Int} {P : Nat → Nat → Option Nat} (hS : ST G P) {b : Nat → Int} {n : Nat} (hB : TB b n) {od : Bool} {s l z : Nat} (hR : RS I P b n od s l z) {S : Option (Nat → Nat → Rs)} {br : Int} (hbr : 0 ≤ br ∧ br ≤ 8) {D : Nat} (hD : 1 ≤ D) (h91 : ¬ tk b n s = [91]) (hod : od = false) (hq : ¬ ((num b n s = -1 ∧ wrd od (tk b n s) = -1) ∨ 1000 < num b n s ∨ 50 ≤ l)) (hnum : num b n s = -1) : ∃ o, am_call am_B am_M (d + 4) 72 [(.inr (.inr (some 161))), (.inl br)] (G, I, P) = some o ∧ QR G P b n od I z s D (px_part b n od S s l) o := by
  have hn4 := hB.1
  have hs := RS_s hR
  have hzs := RS_z hR
  have hnb := num_b (b := b) hs
  have hR1 : RS (am_u2 I 161 3 ((l : Int) + 1)) P b n od s (l + 1) z := ⟨TK_fr (RS_T hR) (fun q k hq => u2_q (by omega)), hs, by omega, u2_e, (u2_k (by decide)).trans (RS_2 hR), (u2_q (by decide)).trans (RS_7 hR), hzs, fun k hk => by rw [u2_q (by decide)]; exact RS_c hR k hk, KS_fr (RS_K hR) (fun q k hq => u2_q (by omega))⟩
  have hlt := wrd_lt (b := b) (od := od) hs (fun zz => hq (Or.inl ⟨hnum, zz⟩))
  have hnx := nx_2 (b := b) s hlt
  have hwr := ooI_rng (t := tk b n s) [[99, 108, 111, 117, 100], [107, 105, 110, 100], [114, 97, 103, 101], [98, 111, 120], [102, 111, 108, 107], [107, 110, 111, 119, 115], [119, 101, 116], [110, 105, 103, 104, 116], [109, 111, 111, 100]] 0
  have hwe : wrd od (tk b n s) = ooI [[99, 108, 111, 117, 100], [107, 105, 110, 100], [114, 97, 103, 101], [98, 111, 120], [102, 111, 108, 107], [107, 110, 111, 119, 115], [119, 101, 116], [110, 105, 103, 104, 116], [109, 111, 111, 100]] 0 (tk b n s) := by rw [hod]; rfl
  rw [← hwe] at hwr
  have hwm : ¬ wrd od (tk b n s) = -1 := fun zz => hq (Or.inl ⟨hnum, zz⟩)
  have hwr := hwr.resolve_left hwm
  have hln : ([[99, 108, 111, 117, 100], [107, 105, 110, 100], [114, 97, 103, 101], [98, 111, 120], [102, 111, 108, 107], [107, 110, 111, 119, 115], [119, 101, 116], [110, 105, 103, 104, 116], [109, 111, 111, 100]] : List (List Int)).length = 9 := rfl
  rw [hln] at hwr
  refine am_doQ (L := [some (.inr (.inr (some 161))), some (.inl br), none, none]) (Nat.le_of_ble_eq_true rfl) rfl ?_
  refine (ex_6_0 (ix_41r (sh_161 hS) (pt_161_1 hS) (ex_3 (ix_46 (S' := [(.inl 0)]) rfl (sh_169 hS) (k_is_5_f hS (RS_K hR) hB (RS_T hR) (RS_s hR) h91) rfl rfl (ex_if0 (fun _ => ?_) (fun hc => by exfalso; revert hc; decide))))))
  refine (ex_6_0 (ix_41r (sh_161 hS) (pt_161_1 hS) (ix_46 (S' := [(.inl (num b n s))]) rfl (sh_169 hS) (k_number hS hB (RS_T hR) (RS_s hR)) rfl rfl (ex_7_2 rfl (ex_6_0 (ix_41r (sh_161 hS) (pt_161_1 hS) (ex_6_0 (ix_41i (v := 0) (sh_161 hS) ((RS_2 hR).trans (by rw [hod]; rfl)) (ex_if0 (fun _ => ?_) (fun hc => by exfalso; revert hc; decide))))))))))
  refine (ex_3 (ex_58 (ix_46 (S' := [(.inl (wrd od (tk b n s)))]) rfl (sh_169 hS) (k_ov_8 hS (RS_K hR) hB (RS_T hR) (RS_s hR) (v := wrd od (tk b n s)) (by rw [hod]; rfl)) rfl rfl (ex_7_3 rfl (ex_4_2 (ex_0 ?_))))))
  refine ex_ic1 (fun hc87 => by exfalso; omega) (fun hc87 => ?_)
  refine (ex_4_3 (ex_0 ?_))
  refine ex_ic0 (fun hc92 => by exfalso; omega) (fun hc92 => ?_)
  refine (ex_4_2 (ex_0 ?_))
  refine ex_ic4 (fun hc99 => by exfalso; omega) (fun hc99 => ?_)
  refine (ex_6_0 (ix_41i (v := (l : Int)) (sh_161 hS) (RS_3 hR) (ex_0 ?_)))
  refine ex_ic2 (fun hc108 => ?_) (fun hc108 => by exfalso; omega)
  refine (ex_6_0 (ex_22 rfl (ix_41i (v := (l : Int)) (sh_161 hS) (RS_3 hR) (ex_0 (ex_add ⟨by omega, by omega⟩ (ix_42i (sh_161 hS) (ex_6_0 (ix_41r (sh_161 hS) (pt_161_1 hS) ?_))))))))
  obtain ⟨I2, e2, r2, f2⟩ := RS_step (d := d + 1) hS hB hR1 hlt
  refine (ix_46 (S' := []) rfl (sh_169 hS) e2 rfl rfl (ex_4_2 (ex_0 ?_)))
  refine ex_ic0 (fun hc135 => ?_) (fun hc135 => by exfalso; omega)
  refine (ex_6_0 (ix_41i (v := 0) (sh_161 hS) ((RS_2 r2).trans (by rw [hod]; rfl)) (ex_if0 (fun _ => ?_) (fun hc => by exfalso; revert hc; decide))))
  refine (ex_6_0 (ix_41i (v := 0) (sh_161 hS) ((RS_2 r2).trans (by rw [hod]; rfl)) (ex_if0 (fun _ => ?_) (fun hc => by exfalso; revert hc; decide))))
  refine (ex_6_0 (ix_41r (sh_161 hS) (pt_161_0 hS) (ex_0 (ex_4_3 (ix_46 (S' := []) rfl (sh_162 hS) (by rw [show wrd od (tk b n s) = (((wrd od (tk b n s)).toNat : Nat) : Int) by omega]; exact k_add hS (z := z) (sg := 2) (tl := (wrd od (tk b n s)).toNat) (RS_7 r2) (by omega) (by decide) (by omega)) rfl rfl (ex_0 ?_))))))
  exact ex_57 (by decide) (QR_inr (z2 := z + 1) (by unfold px_part px_word; rw [if_neg h91, if_neg hq, if_neg (fun zz => zz hnum), if_neg (by rw [hod]; exact fun zz => absurd zz.1 (by decide)), if_neg (by rw [hod]; exact fun zz => absurd zz.1 (by decide))]) (RS_add r2 (by omega) (by omega)) (by omega) (SG_more (SG_word ((u2_q (by decide)).trans u2_e) (by have hh : nwo od = 9 := (by rw [hod]; rfl); omega)) hD) (RFr_trans (fun q k _ hb _ _ => u2_o (by omega)) (RFr_trans (RFr_TKF f2) (RFr_add (Nat.le_refl _)) (Nat.le_refl _)) (Nat.le_refl _)))
theorem kr_part {d : Nat} {G : am_G} {P : Nat → Nat → Option Nat} (hS : ST G P) {b : Nat → Int} {n : Nat} (hB : TB b n) {od : Bool} {S : Option (Nat → Nat → Rs)} {br : Int} (hbr : 0 ≤ br ∧ br ≤ 8) {D : Nat} (hD : 1 ≤ D) (h0 : S = none → br = 8) (h1 : ∀ g, S = some g → br < 8 ∧ KItd G P b n od (d + 6) 70 (br + 1) D g) : KItd G P b n od (d + 7) 72 br D (px_part b n od S) := by
  intro I s l z hR
  by_cases h91 : tk b n s = [91]
  · cases hSe : S with
    | none => exact kp_bn (d := d + 4) hS hB hR hbr hD h91 (h0 hSe) rfl
    | some g =>
      obtain ⟨hb8, hg⟩ := h1 g hSe
      cases hgv : g (nx b n s) l with
      | inl x => exact kp_bx (d := d) hS hB hR hbr hD h91 hb8 rfl hg hgv
      | inr q =>
        obtain ⟨s3, l3, f⟩ := q
        by_cases hcl : tk b n s3 = [93]
        · exact kp_bs (d := d) hS hB hR hbr hD h91 hb8 rfl hg hgv hcl
        · exact kp_bc (d := d) hS hB hR hbr hD h91 hb8 rfl hg hgv hcl
  · by_cases hq : (num b n s = -1 ∧ wrd od (tk b n s) = -1) ∨ 1000 < num b n s ∨ 50 ≤ l
    · cases hod : od with
      | true => subst hod; exact kp_fo (d := d + 4) hS hB hR hbr hD h91 rfl hq
      | false => subst hod; exact kp_fl (d := d + 4) hS hB hR hbr hD h91 rfl hq
    · by_cases hnum : num b n s = -1
      · cases hod : od with
        | true =>
          subst hod
          by_cases h5 : wrd true (tk b n s) = 5
          · cases hpw : px_which b n 5 6 (nx b n s) (l + 1) with
            | inl x => exact kp_5x (d := d + 3) hS hB hR hbr hD h91 rfl hq hnum h5 hpw
            | inr q => obtain ⟨s3, l3, f⟩ := q; exact kp_5s (d := d + 3) hS hB hR hbr hD h91 rfl hq hnum h5 hpw
          · by_cases h6 : wrd true (tk b n s) = 6
            · cases hpw : px_which b n 11 5 (nx b n s) (l + 1) with
              | inl x => exact kp_6x (d := d + 3) hS hB hR hbr hD h91 rfl hq hnum h5 h6 hpw
              | inr q => obtain ⟨s3, l3, f⟩ := q; exact kp_6s (d := d + 3) hS hB hR hbr hD h91 rfl hq hnum h5 h6 hpw
            · exact kp_wo (d := d + 3) hS hB hR hbr hD h91 rfl hq hnum h5 h6
        | false => subst hod; exact kp_wl (d := d + 3) hS hB hR hbr hD h91 rfl hq hnum
      · cases hod : od with
        | true => subst hod; exact kp_no (d := d + 4) hS hB hR hbr hD h91 rfl hq hnum
        | false => subst hod; exact kp_nl (d := d + 4) hS hB hR hbr hD h91 rfl hq hnum
theorem kr_sums {G : am_G} {P : Nat → Nat → Option Nat} (hS : ST G P) {b : Nat → Int} {n : Nat} (hB : TB b n) {od : Bool} : ∀ (r d : Nat), r ≤ 8 → KItd G P b n od (d + 3 * r + 9) 70 (8 - (r : Int)) (2 * r + 3) (px_sum b n od r)
  | 0, d, _ => by
    have hp := kr_part (d := d) (D := 1) (br := 8) hS hB (od := od) (S := none) (by omega) (Nat.le_refl _) (fun _ => rfl) (fun g e => by cases e)
    exact kr_sum (d := d + 2) hS hB (by omega) (kr_term (d := d + 1) (D := 2) hS hB (by omega) hp)
  | r + 1, d, h => by
    have ih := kr_sums hS hB (od := od) r d (by omega)
    have hp := kr_part (d := d + 3 * r + 3) (D := 2 * r + 3) (br := 8 - ((r + 1 : Nat) : Int)) hS hB (od := od) (S := some (px_sum b n od r)) (by omega) (by omega) (fun e => by cases e) (fun g e => by
      cases e
      refine ⟨by omega, ?_⟩
      rw [show (8 - ((r + 1 : Nat) : Int)) + 1 = 8 - (r : Int) by omega]
      exact ih)
    have := kr_sum (d := d + 3 * r + 5) (D := 2 * (r + 1) + 3) hS hB (by omega) (kr_term (d := d + 3 * r + 4) (D := 2 * r + 4) hS hB (by omega) hp)
    rw [show d + 3 * (r + 1) + 9 = d + 3 * r + 5 + 7 by omega]
    exact this
