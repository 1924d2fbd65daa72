/-! ===== the class reads a clause, a text ===== -/
theorem kc9_l {d : Nat} {G : am_G} {I J : Nat → Nat → Int} {P : Nat → Nat → Option Nat} (hS : ST G P) {b : Nat → Int} {n : Nat} (hB : TB b n) {od : Bool} {z i s l y : Nat} {v : Nat} {o1 : Option Fn} (hC : CL I J P b n od z i s l y (v, o1, none, 1, none)) (hod : od = false) : am_ex (am_call am_B am_M (d + 36)) (am_B 65) (am_B 65 9) [some (.inr (.inr (some 161))), some (.inl (i : Int)), some (.inl (v : Int))] [] (G, J, P) (QC G P b n od I z i (stOK b n od v o1 s l)) := by
  obtain ⟨hR, hzy, hi, h5, hD0, hF⟩ := id hC
  have hs := RS_s hR
  refine (ex_6_0 (ix_41i (v := 0) (sh_161 hS) ((RS_2 hR).trans (by rw [hod]; rfl)) (ex_if0 (fun _ => ?_) (fun hc => by exfalso; revert hc; decide))))
  have := kc4 (d := d) hS hB hC
  rw [show stOK b n od v o1 s l = st4K b n od v o1 none 1 s l from by unfold stOK stO; rw [hod]; rfl]
  exact this
theorem kc9_x {d : Nat} {G : am_G} {I J : Nat → Nat → Int} {P : Nat → Nat → Option Nat} (hS : ST G P) {b : Nat → Int} {n : Nat} (hB : TB b n) {od : Bool} {z i s l y : Nat} {v : Nat} {o1 : Option Fn} (hC : CL I J P b n od z i s l y (v, o1, none, 1, none)) (hod : od = true) {x : Nat} (hpv : st23 b n od v s l = .inl x) : am_ex (am_call am_B am_M (d + 36)) (am_B 65) (am_B 65 9) [some (.inr (.inr (some 161))), some (.inl (i : Int)), some (.inl (v : Int))] [] (G, J, P) (QC G P b n od I z i (stOK b n od v o1 s l)) := by
  obtain ⟨hR, hzy, hi, h5, hD0, hF⟩ := id hC
  have hs := RS_s hR
  refine (ex_6_0 (ix_41i (v := 1) (sh_161 hS) ((RS_2 hR).trans (by rw [hod]; rfl)) (ex_if0 (fun hc => by exfalso; revert hc; decide) (fun _ => ?_))))
  refine (ex_6_0 (ex_4_1 (ex_4_2 ?_)))
  obtain ⟨o_, eo, qo⟩ := ko (d := d) hS hB hC
  rw [hpv] at qo
  obtain ⟨J3, rfl, hx3, f3⟩ := qo
  refine (ix_46 (S' := [(.inl 0)]) rfl (sh_161 hS) eo rfl rfl (ex_if1 (fun hc => by exfalso; revert hc; decide) (fun _ => ?_)))
  refine (ex_0 ?_)
  exact ex_57 (by decide) (QC_inl (by unfold stOK stO; rw [if_pos hod, hpv]; rfl) hx3 f3)
theorem kc9_s {d : Nat} {G : am_G} {I J : Nat → Nat → Int} {P : Nat → Nat → Option Nat} (hS : ST G P) {b : Nat → Int} {n : Nat} (hB : TB b n) {od : Bool} {z i s l y : Nat} {v : Nat} {o1 : Option Fn} (hC : CL I J P b n od z i s l y (v, o1, none, 1, none)) (hod : od = true) {s3 l3 t : Nat} {o2 : Option Fn} (hpv : st23 b n od v s l = .inr (s3, l3, o2, t)) : am_ex (am_call am_B am_M (d + 36)) (am_B 65) (am_B 65 9) [some (.inr (.inr (some 161))), some (.inl (i : Int)), some (.inl (v : Int))] [] (G, J, P) (QC G P b n od I z i (stOK b n od v o1 s l)) := by
  obtain ⟨hR, hzy, hi, h5, hD0, hF⟩ := id hC
  have hs := RS_s hR
  refine (ex_6_0 (ix_41i (v := 1) (sh_161 hS) ((RS_2 hR).trans (by rw [hod]; rfl)) (ex_if0 (fun hc => by exfalso; revert hc; decide) (fun _ => ?_))))
  refine (ex_6_0 (ex_4_1 (ex_4_2 ?_)))
  obtain ⟨o_, eo, qo⟩ := ko (d := d) hS hB hC
  rw [hpv] at qo
  obtain ⟨J3, y3, rfl, g1, g2, g4, g5, g6⟩ := qo
  refine (ix_46 (S' := [(.inl 1)]) rfl (sh_161 hS) eo rfl rfl (ex_if1 (fun _ => ?_) (fun hc => by exfalso; revert hc; decide)))
  have := kc4 (d := d) hS hB (I := I) ⟨g1, g2, hi, g4, g5, g6⟩
  rw [show stOK b n od v o1 s l = st4K b n od v o1 o2 t s3 l3 from by unfold stOK stO; rw [if_pos hod, hpv]; rfl]
  exact this
theorem kc9 {d : Nat} {G : am_G} {I J : Nat → Nat → Int} {P : Nat → Nat → Option Nat} (hS : ST G P) {b : Nat → Int} {n : Nat} (hB : TB b n) {od : Bool} {z i s l y : Nat} {v : Nat} {o1 : Option Fn} (hC : CL I J P b n od z i s l y (v, o1, none, 1, none)) : am_ex (am_call am_B am_M (d + 36)) (am_B 65) (am_B 65 9) [some (.inr (.inr (some 161))), some (.inl (i : Int)), some (.inl (v : Int))] [] (G, J, P) (QC G P b n od I z i (stOK b n od v o1 s l)) := by
  cases hod : od with
  | false => subst hod; exact kc9_l hS hB hC rfl
  | true =>
    subst hod
    cases hpv : st23 b n true v s l with
    | inl x => exact kc9_x hS hB hC rfl hpv
    | inr q => obtain ⟨s3, l3, o2, t⟩ := q; exact kc9_s hS hB hC rfl hpv
theorem kc6_x {d : Nat} {G : am_G} {I J : Nat → Nat → Int} {P : Nat → Nat → Option Nat} (hS : ST G P) {b : Nat → Int} {n : Nat} (hB : TB b n) {od : Bool} {z i s l y : Nat} {v : Nat} (hv3 : ¬ v = 3) (hC : CL I J P b n od z i s l y (v, none, none, 1, none)) (hys : y < s) {x : Nat} (hpv : px_sum b n od 8 s l = .inl x) : am_ex (am_call am_B am_M (d + 36)) (am_B 65) (am_B 65 6) [some (.inr (.inr (some 161))), some (.inl (i : Int)), some (.inl (v : Int))] [] (G, J, P) (QC G P b n od I z i (st1K b n od v s l)) := by
  obtain ⟨hR, hzy, hi, h5, hD0, hF⟩ := id hC
  have hs := RS_s hR
  have hsum := kr_sums hS hB (od := od) 8 (d + 3) (by decide)
  refine (ex_6_0 (ix_41r (sh_161 hS) (pt_161_0 hS) (ix_41r (sh_162 hS) (pt_162_1 hS) (ex_4_1 (ex_6_0 (ix_41r (sh_161 hS) (pt_161_0 hS) (ix_46 (S' := [(.inl (y : Int)), (.inl (i : Int)), (.inr (.inr (some 164)))]) rfl (sh_162 hS) (k_textNext hS (RS_7 hR)) rfl rfl (ix_34 (j := i) (sh_164 hS) (by omega) (by omega) (by omega) (ex_6_0 (ex_0 ?_))))))))))
  have r2w : RS (am_u2 J 164 i (y : Int)) P b n od s l y := RS_w hR (by decide)
  obtain ⟨o_, eo, qo⟩ := hsum _ _ _ _ r2w
  rw [hpv] at qo
  obtain ⟨J3, rfl, hx3, f3⟩ := qo
  refine (ix_46 (S' := [(.inl 0)]) rfl (sh_161 hS) eo rfl rfl (ex_if1 (fun hc => by exfalso; revert hc; decide) (fun _ => ?_)))
  refine (ex_0 ?_)
  exact ex_57 (by decide) (QC_inl (by unfold st1K st1; rw [if_neg hv3, hpv]; rfl) hx3 (CF_R (CF_w hF (by decide)) f3 hzy))
theorem kc6_s {d : Nat} {G : am_G} {I J : Nat → Nat → Int} {P : Nat → Nat → Option Nat} (hS : ST G P) {b : Nat → Int} {n : Nat} (hB : TB b n) {od : Bool} {z i s l y : Nat} {v : Nat} (hv3 : ¬ v = 3) (hC : CL I J P b n od z i s l y (v, none, none, 1, none)) (hys : y < s) {s3 l3 : Nat} {f : Fn} (hpv : px_sum b n od 8 s l = .inr (s3, l3, f)) (hV : Vs f) : am_ex (am_call am_B am_M (d + 36)) (am_B 65) (am_B 65 6) [some (.inr (.inr (some 161))), some (.inl (i : Int)), some (.inl (v : Int))] [] (G, J, P) (QC G P b n od I z i (st1K b n od v s l)) := by
  obtain ⟨hR, hzy, hi, h5, hD0, hF⟩ := id hC
  have hs := RS_s hR
  have hsum := kr_sums hS hB (od := od) 8 (d + 3) (by decide)
  refine (ex_6_0 (ix_41r (sh_161 hS) (pt_161_0 hS) (ix_41r (sh_162 hS) (pt_162_1 hS) (ex_4_1 (ex_6_0 (ix_41r (sh_161 hS) (pt_161_0 hS) (ix_46 (S' := [(.inl (y : Int)), (.inl (i : Int)), (.inr (.inr (some 164)))]) rfl (sh_162 hS) (k_textNext hS (RS_7 hR)) rfl rfl (ix_34 (j := i) (sh_164 hS) (by omega) (by omega) (by omega) (ex_6_0 (ex_0 ?_))))))))))
  have r2w : RS (am_u2 J 164 i (y : Int)) P b n od s l y := RS_w hR (by decide)
  obtain ⟨o_, eo, qo⟩ := hsum _ _ _ _ r2w
  rw [hpv] at qo
  obtain ⟨J3, y3, rfl, r3, hz3, hS3, f3⟩ := qo
  refine (ix_46 (S' := [(.inl 1)]) rfl (sh_161 hS) eo rfl rfl (ex_if1 (fun _ => ?_) (fun hc => by exfalso; revert hc; decide)))
  refine (ex_6_0 (ix_41r (sh_161 hS) (pt_161_0 hS) (ex_0 (ex_0 (ix_46 (S' := []) rfl (sh_162 hS) (k_add hS (z := y3) (sg := 0) (tl := 0) (RS_7 r3) (by have := RS_s r3; have := RS_z r3; have := hB.1; omega) (by decide) (by decide)) rfl rfl (ex_58 ?_))))))
  have := kc9 (d := d) hS hB (CL_end (c' := (v, some f, none, 1, none)) hB hC hys (Or.inl rfl) r3 hz3 hS3 (by decide) hV f3 ⟨rfl, rfl, rfl, rfl, rfl⟩)
  rw [show st1K b n od v s l = stOK b n od v (some f) s3 l3 from by unfold st1K st1; rw [if_neg hv3, hpv]; rfl]
  exact this
theorem CL_new {I I2 : Nat → Nat → Int} {P : Nat → Nat → Option Nat} {b : Nat → Int} {n : Nat} {od : Bool} {z i s l v : Nat} (r : RS I2 P b n od s l z) (hi : i < 12) (hv : v < 4) (f2 : TKF I I2) : CL I (am_u2 (am_u2 (am_u2 (am_u2 (am_u2 (am_u2 I2 163 i (v : Int)) 164 i (-1)) 165 i (-1)) 166 i 1) 167 i (-1)) 162 5 ((i : Int) + 1)) P b n od z i s l z (v, none, none, 1, none) := by
  obtain ⟨hT, hs, h50, h3, h2, h7, hz0, hc, hK⟩ := r
  refine ⟨⟨TK_fr hT (fun q k hq => ?_), hs, h50, ?_, ?_, ?_, hz0, fun k hk => ?_, KS_fr hK (fun q k hq => ?_)⟩, Nat.le_refl _, hi, u2_e, ⟨?_, hv, ?_, ?_, ?_, ?_⟩, fun q k a b c d e => ?_⟩
  · rw [u2_q (by omega), u2_q (by omega), u2_q (by omega), u2_q (by omega), u2_q (by omega), u2_q (by omega)]
  · rw [u2_q (by omega), u2_q (by omega), u2_q (by omega), u2_q (by omega), u2_q (by omega), u2_q (by omega)]; exact h3
  · rw [u2_q (by omega), u2_q (by omega), u2_q (by omega), u2_q (by omega), u2_q (by omega), u2_q (by omega)]; exact h2
  · rw [u2_k (by omega), u2_q (by omega), u2_q (by omega), u2_q (by omega), u2_q (by omega), u2_q (by omega)]; exact h7
  · rw [u2_q (by omega), u2_q (by omega), u2_q (by omega), u2_q (by omega), u2_q (by omega), u2_q (by omega)]; exact hc k hk
  · rw [u2_q (by omega), u2_q (by omega), u2_q (by omega), u2_q (by omega), u2_q (by omega), u2_q (by omega)]
  · rw [u2_q (by decide), u2_q (by decide), u2_q (by decide), u2_q (by decide), u2_q (by decide), u2_e]
  · show _ = _
    rw [u2_q (by decide), u2_q (by decide), u2_q (by decide), u2_q (by decide), u2_e]
  · show _ = _
    rw [u2_q (by decide), u2_q (by decide), u2_q (by decide), u2_e]
  · rw [u2_q (by decide), u2_q (by decide), u2_e]; rfl
  · show _ = _
    rw [u2_q (by decide), u2_e]
  · rw [u2_o (by omega), u2_o (by omega), u2_o (by omega), u2_o (by omega), u2_o (by omega), u2_o (by omega)]
    exact f2 q k a
theorem kc_fo {d : Nat} {G : am_G} {I : Nat → Nat → Int} {P : Nat → Nat → Option Nat} (hS : ST G P) {b : Nat → Int} {n : Nat} (hB : TB b n) {od : Bool} {s l z i : Nat} (hR : RS I P b n od s l z) (hi : i < 12) (h5 : I 162 5 = (i : Int)) (hod : od = true) (hv : vrb od (tk b n s) = -1) : ∃ o, am_call am_B am_M (d + 37) 65 [(.inr (.inr (some 161))), (.inl (i : Int))] (G, I, P) = some o ∧ QC G P b n od I z i (px_cl b n od s l) o := by
  refine am_doQ (L := [some (.inr (.inr (some 161))), some (.inl (i : Int)), none]) (Nat.le_of_ble_eq_true rfl) rfl ?_
  refine (ex_6_0 (ix_41r (sh_161 hS) (pt_161_1 hS) (ex_6_0 (ix_41i (v := 1) (sh_161 hS) ((RS_2 hR).trans (by rw [hod]; rfl)) (ex_if0 (fun hc => by exfalso; revert hc; decide) (fun _ => ?_))))))
  refine (ex_3 (ex_28 (ix_46 (S' := [(.inl (vrb od (tk b n s)))]) rfl (sh_169 hS) (k_ov_3 hS (RS_K hR) hB (RS_T hR) (RS_s hR) (v := vrb od (tk b n s)) (by rw [hod]; rfl)) rfl rfl (ex_7_2 rfl (ex_4_2 (ex_0 ?_))))))
  refine ex_ic1 (fun hc24 => by exfalso; omega) (fun hc24 => ?_)
  refine (ex_6_0 (ix_46 (S' := [(.inl 0)]) rfl (sh_161 hS) (k_fail hS (RS_T hR).2.2.1) rfl rfl ?_))
  exact ex_57 (by decide) (QC_inl (by unfold px_cl; rw [if_pos hv]) u2_e (fun q k _ b _ _ _ => u2_o (by omega)))
theorem kc_go {d : Nat} {G : am_G} {I : Nat → Nat → Int} {P : Nat → Nat → Option Nat} (hS : ST G P) {b : Nat → Int} {n : Nat} (hB : TB b n) {od : Bool} {s l z i : Nat} (hR : RS I P b n od s l z) (hi : i < 12) (h5 : I 162 5 = (i : Int)) (hod : od = true) (hv : ¬ vrb od (tk b n s) = -1) {v : Nat} (hvn : vrb od (tk b n s) = (v : Int)) : ∃ o, am_call am_B am_M (d + 37) 65 [(.inr (.inr (some 161))), (.inl (i : Int))] (G, I, P) = some o ∧ QC G P b n od I z i (px_cl b n od s l) o := by
  have hs := RS_s hR
  have hzs := RS_z hR
  have hlt : s < n := by
    have : ∀ (ws : List (List Int)), (∀ w, w ∈ ws → ¬ w = []) → ¬ ooI ws 0 (tk b n s) = -1 → s < n := by
      intro ws hw hh
      have h9 := hw _ (ooI_some ws 0 hh)
      cases e : tk b n s with
      | nil => exact absurd e h9
      | cons c kw => exact tk_lt hs e
    refine this [[114, 105, 110, 103], [101, 110, 103, 97, 103, 101], [115, 109, 97, 115, 104], [112, 97, 115, 115]] (by decide) (fun zz => hv ?_)
    rw [hod]; exact zz
  have hnx := nx_2 (b := b) s hlt
  have hwr := ooI_rng (t := tk b n s) [[114, 105, 110, 103], [101, 110, 103, 97, 103, 101], [115, 109, 97, 115, 104], [112, 97, 115, 115]] 0
  have hwe : vrb od (tk b n s) = ooI [[114, 105, 110, 103], [101, 110, 103, 97, 103, 101], [115, 109, 97, 115, 104], [112, 97, 115, 115]] 0 (tk b n s) := by rw [hod]; rfl
  rw [← hwe] at hwr
  have hwr := hwr.resolve_left hv
  have hln : ([[114, 105, 110, 103], [101, 110, 103, 97, 103, 101], [115, 109, 97, 115, 104], [112, 97, 115, 115]] : List (List Int)).length = 4 := rfl
  rw [hln] at hwr
  have hv4 : v < 4 := by omega
  have hpx : px_cl b n od s l = st1K b n od v (nx b n s) l := by unfold px_cl; rw [if_neg hv, hvn, Int.toNat_natCast]
  refine am_doQ (L := [some (.inr (.inr (some 161))), some (.inl (i : Int)), none]) (Nat.le_of_ble_eq_true rfl) rfl ?_
  refine (ex_6_0 (ix_41r (sh_161 hS) (pt_161_1 hS) (ex_6_0 (ix_41i (v := 1) (sh_161 hS) ((RS_2 hR).trans (by rw [hod]; rfl)) (ex_if0 (fun hc => by exfalso; revert hc; decide) (fun _ => ?_))))))
  refine (ex_3 (ex_28 (ix_46 (S' := [(.inl (vrb od (tk b n s)))]) rfl (sh_169 hS) (k_ov_3 hS (RS_K hR) hB (RS_T hR) (RS_s hR) (v := vrb od (tk b n s)) (by rw [hod]; rfl)) rfl rfl (ex_7_2 rfl (ex_4_2 (ex_0 ?_))))))
  refine ex_ic1 (fun hc24 => ?_) (fun hc24 => by exfalso; omega)
  refine (ex_6_0 (ix_41r (sh_161 hS) (pt_161_1 hS) ?_))
  obtain ⟨I2, e2, r2, f2⟩ := RS_step (d := d + 34) hS hB hR hlt
  refine (ix_46 (S' := []) rfl (sh_169 hS) e2 rfl rfl (ex_6_0 (ix_41r (sh_161 hS) (pt_161_0 hS) (ex_4_2 ?_))))
  have h5b : I2 162 5 = (i : Int) := (f2 _ _ (by decide)).trans h5
  refine (ix_46 (S' := []) rfl (sh_162 hS) (by rw [hvn]; exact k_addClause hS (i := i) (v := v) h5b hi) rfl rfl (ex_4_2 (ex_0 ?_)))
  refine ex_ic0 (fun hc49 => ?_) (fun hc49 => ?_)
  · have hC := CL_new (I := I) (v := v) r2 hi hv4 f2
    rw [hpx, hvn]
    have := kc9 (d := d) hS hB hC
    rw [show st1K b n od v (nx b n s) l = stOK b n od v none (nx b n s) l from by unfold st1K st1; rw [if_pos (by omega)]; rfl]
    exact this
  · have hC := CL_new (I := I) (v := v) r2 hi hv4 f2
    have hg := px_sum_ok (b := b) (n := n) (od := od) 8 (nx b n s) l hnx.2 (RS_l hR)
    rw [hpx, hvn]
    cases hpv : px_sum b n od 8 (nx b n s) l with
    | inl x => exact kc6_x (d := d) hS hB (by omega) hC (by omega) hpv
    | inr q => obtain ⟨s3, l3, f⟩ := q; rw [hpv] at hg; exact kc6_s (d := d) hS hB (by omega) hC (by omega) hpv hg.2.2.2.2
theorem kc_fl {d : Nat} {G : am_G} {I : Nat → Nat → Int} {P : Nat → Nat → Option Nat} (hS : ST G P) {b : Nat → Int} {n : Nat} (hB : TB b n) {od : Bool} {s l z i : Nat} (hR : RS I P b n od s l z) (hi : i < 12) (h5 : I 162 5 = (i : Int)) (hod : od = false) (hv : vrb od (tk b n s) = -1) : ∃ o, am_call am_B am_M (d + 37) 65 [(.inr (.inr (some 161))), (.inl (i : Int))] (G, I, P) = some o ∧ QC G P b n od I z i (px_cl b n od s l) o := by
  refine am_doQ (L := [some (.inr (.inr (some 161))), some (.inl (i : Int)), none]) (Nat.le_of_ble_eq_true rfl) rfl ?_
  refine (ex_6_0 (ix_41r (sh_161 hS) (pt_161_1 hS) (ex_6_0 (ix_41i (v := 0) (sh_161 hS) ((RS_2 hR).trans (by rw [hod]; rfl)) (ex_if0 (fun _ => ?_) (fun hc => by exfalso; revert hc; decide))))))
  refine (ex_3 (ex_58 (ix_46 (S' := [(.inl (vrb od (tk b n s)))]) rfl (sh_169 hS) (k_ov_4 hS (RS_K hR) hB (RS_T hR) (RS_s hR) (v := vrb od (tk b n s)) (by rw [hod]; rfl)) rfl rfl (ex_7_2 rfl (ex_4_2 (ex_0 ?_))))))
  refine ex_ic1 (fun hc24 => by exfalso; omega) (fun hc24 => ?_)
  refine (ex_6_0 (ix_46 (S' := [(.inl 0)]) rfl (sh_161 hS) (k_fail hS (RS_T hR).2.2.1) rfl rfl ?_))
  exact ex_57 (by decide) (QC_inl (by unfold px_cl; rw [if_pos hv]) u2_e (fun q k _ b _ _ _ => u2_o (by omega)))
theorem kc_gl {d : Nat} {G : am_G} {I : Nat → Nat → Int} {P : Nat → Nat → Option Nat} (hS : ST G P) {b : Nat → Int} {n : Nat} (hB : TB b n) {od : Bool} {s l z i : Nat} (hR : RS I P b n od s l z) (hi : i < 12) (h5 : I 162 5 = (i : Int)) (hod : od = false) (hv : ¬ vrb od (tk b n s) = -1) {v : Nat} (hvn : vrb od (tk b n s) = (v : Int)) : ∃ o, am_call am_B am_M (d + 37) 65 [(.inr (.inr (some 161))), (.inl (i : Int))] (G, I, P) = some o ∧ QC G P b n od I z i (px_cl b n od s l) o := by
  have hs := RS_s hR
  have hzs := RS_z hR
  have hlt : s < n := by
    have : ∀ (ws : List (List Int)), (∀ w, w ∈ ws → ¬ w = []) → ¬ ooI ws 0 (tk b n s) = -1 → s < n := by
      intro ws hw hh
      have h9 := hw _ (ooI_some ws 0 hh)
      cases e : tk b n s with
      | nil => exact absurd e h9
      | cons c kw => exact tk_lt hs e
    refine this [[116, 101, 108, 108, 115], [115, 111, 97, 107, 115], [103, 111, 101, 115], [98, 97, 114, 115]] (by decide) (fun zz => hv ?_)
    rw [hod]; exact zz
  have hnx := nx_2 (b := b) s hlt
  have hwr := ooI_rng (t := tk b n s) [[116, 101, 108, 108, 115], [115, 111, 97, 107, 115], [103, 111, 101, 115], [98, 97, 114, 115]] 0
  have hwe : vrb od (tk b n s) = ooI [[116, 101, 108, 108, 115], [115, 111, 97, 107, 115], [103, 111, 101, 115], [98, 97, 114, 115]] 0 (tk b n s) := by rw [hod]; rfl
  rw [← hwe] at hwr
  have hwr := hwr.resolve_left hv
  have hln : ([[116, 101, 108, 108, 115], [115, 111, 97, 107, 115], [103, 111, 101, 115], [98, 97, 114, 115]] : List (List Int)).length = 4 := rfl
  rw [hln] at hwr
  have hv4 : v < 4 := by omega
  have hpx : px_cl b n od s l = st1K b n od v (nx b n s) l := by unfold px_cl; rw [if_neg hv, hvn, Int.toNat_natCast]
  refine am_doQ (L := [some (.inr (.inr (some 161))), some (.inl (i : Int)), none]) (Nat.le_of_ble_eq_true rfl) rfl ?_
  refine (ex_6_0 (ix_41r (sh_161 hS) (pt_161_1 hS) (ex_6_0 (ix_41i (v := 0) (sh_161 hS) ((RS_2 hR).trans (by rw [hod]; rfl)) (ex_if0 (fun _ => ?_) (fun hc => by exfalso; revert hc; decide))))))
  refine (ex_3 (ex_58 (ix_46 (S' := [(.inl (vrb od (tk b n s)))]) rfl (sh_169 hS) (k_ov_4 hS (RS_K hR) hB (RS_T hR) (RS_s hR) (v := vrb od (tk b n s)) (by rw [hod]; rfl)) rfl rfl (ex_7_2 rfl (ex_4_2 (ex_0 ?_))))))
  refine ex_ic1 (fun hc24 => ?_) (fun hc24 => by exfalso; omega)
  refine (ex_6_0 (ix_41r (sh_161 hS) (pt_161_1 hS) ?_))
  obtain ⟨I2, e2, r2, f2⟩ := RS_step (d := d + 34) hS hB hR hlt
  refine (ix_46 (S' := []) rfl (sh_169 hS) e2 rfl rfl (ex_6_0 (ix_41r (sh_161 hS) (pt_161_0 hS) (ex_4_2 ?_))))
  have h5b : I2 162 5 = (i : Int) := (f2 _ _ (by decide)).trans h5
  refine (ix_46 (S' := []) rfl (sh_162 hS) (by rw [hvn]; exact k_addClause hS (i := i) (v := v) h5b hi) rfl rfl (ex_4_2 (ex_0 ?_)))
  refine ex_ic0 (fun hc49 => ?_) (fun hc49 => ?_)
  · have hC := CL_new (I := I) (v := v) r2 hi hv4 f2
    rw [hpx, hvn]
    have := kc9 (d := d) hS hB hC
    rw [show st1K b n od v (nx b n s) l = stOK b n od v none (nx b n s) l from by unfold st1K st1; rw [if_pos (by omega)]; rfl]
    exact this
  · have hC := CL_new (I := I) (v := v) r2 hi hv4 f2
    have hg := px_sum_ok (b := b) (n := n) (od := od) 8 (nx b n s) l hnx.2 (RS_l hR)
    rw [hpx, hvn]
    cases hpv : px_sum b n od 8 (nx b n s) l with
    | inl x => exact kc6_x (d := d) hS hB (by omega) hC (by omega) hpv
    | inr q => obtain ⟨s3, l3, f⟩ := q; rw [hpv] at hg; exact kc6_s (d := d) hS hB (by omega) hC (by omega) hpv hg.2.2.2.2
theorem kc {d : Nat} {G : am_G} {I : Nat → Nat → Int} {P : Nat → Nat → Option Nat} (hS : ST G P) {b : Nat → Int} {n : Nat} (hB : TB b n) {od : Bool} {s l z i : Nat} (hR : RS I P b n od s l z) (hi : i < 12) (h5 : I 162 5 = (i : Int)) : ∃ o, am_call am_B am_M (d + 37) 65 [.inr (.inr (some 161)), .inl (i : Int)] (G, I, P) = some o ∧ QC G P b n od I z i (px_cl b n od s l) o := by
  by_cases hv : vrb od (tk b n s) = -1
  · cases hod : od with
    | true => subst hod; exact kc_fo hS hB hR hi h5 rfl hv
    | false => subst hod; exact kc_fl hS hB hR hi h5 rfl hv
  · cases hod : od with
    | true =>
      subst hod
      have h0 := ooI_rng (t := tk b n s) [[114, 105, 110, 103], [101, 110, 103, 97, 103, 101], [115, 109, 97, 115, 104], [112, 97, 115, 115]] 0
      have hvn : vrb true (tk b n s) = (((vrb true (tk b n s)).toNat : Nat) : Int) := by
        have : vrb true (tk b n s) = ooI [[114, 105, 110, 103], [101, 110, 103, 97, 103, 101], [115, 109, 97, 115, 104], [112, 97, 115, 115]] 0 (tk b n s) := rfl
        omega
      exact kc_go hS hB hR hi h5 rfl hv hvn
    | false =>
      subst hod
      have h0 := ooI_rng (t := tk b n s) [[116, 101, 108, 108, 115], [115, 111, 97, 107, 115], [103, 111, 101, 115], [98, 97, 114, 115]] 0
      have hvn : vrb false (tk b n s) = (((vrb false (tk b n s)).toNat : Nat) : Int) := by
        have : vrb false (tk b n s) = ooI [[116, 101, 108, 108, 115], [115, 111, 97, 107, 115], [103, 111, 101, 115], [98, 97, 114, 115]] 0 (tk b n s) := rfl
        omega
      exact kc_gl hS hB hR hi h5 rfl hv hvn
