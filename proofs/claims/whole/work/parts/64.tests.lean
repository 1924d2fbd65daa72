/-! ===== the class reads tests ===== -/
theorem lr_both {d : Nat} {G : am_G} {I : Nat → Nat → Int} {P : Nat → Nat → Option Nat} (hS : ST G P) {b : Nat → Int} {n : Nat} (hB : TB b n) {od : Bool} {it : Nat → Nat → Rs} {br : Int} {D : Nat} (hit : KItd G P b n od (d + 6) 69 br D it) (hG : IG n Vt it) {z s0 : Nat} : ∀ (k i : Nat) (I1 : Nat → Nat → Int) (s l z1 : Nat) (f : Fn) (e3 : Option am_V), i + k = 400 → RS I1 P b n od s l z1 → z1 + s0 ≤ z + s → SG od (I1 168) z z1 D f → Vt f → RFr z I I1 → am_ex (am_call am_B am_M (d + 6)) (am_B 68) (am_B 68 3) [some (.inr (.inr (some 161))), some (.inl br), some (.inl (i : Int)), e3] [] (G, I1, P) (QR G P b n od I z s0 D (px_loop (opAnd b n) it (nx b n) k s l f)) := by
  have hn4 := hB.1
  intro k
  induction k with
  | zero =>
    intro i I1 s l z1 f e3 hi hR hzs hSG hV hF
    refine (ex_4_2 (ex_0 ?_))
    refine ex_ic3 (fun hc16 => ?_) (fun hc16 => by exfalso; omega)
    refine (ex_0 ?_)
    exact ex_57 (by decide) (QR_inr (by simp only [px_loop]) hR hzs hSG hF)
  | succ k ih =>
    intro i I1 s l z1 f e3 hi hR hzs hSG hV hF
    have hs := RS_s hR
    have hz1 := RS_z hR
    by_cases hkw : tk b n s = [97, 110, 100]
    · have ht : opAnd b n s = some 29 := by unfold opAnd; rw [if_pos hkw]
      have hlt := tk_lt hs hkw
      have hnx := nx_2 (b := b) s hlt
      have hGi := hG (nx b n s) l hnx.2 (RS_l hR)
      cases hii : it (nx b n s) l with
      | inl x =>
        refine (ex_4_2 (ex_0 ?_))
        refine ex_ic3 (fun hc16 => by exfalso; omega) (fun hc16 => ?_)
        refine (ex_6_0 (ix_41r (sh_161 hS) (pt_161_1 hS) (ex_3 (ix_46 (S' := [(.inl 1)]) rfl (sh_169 hS) (k_is_18_t hS (RS_K hR) hB (RS_T hR) (RS_s hR) hkw) rfl rfl (ex_if0 (fun hc => by exfalso; revert hc; decide) (fun _ => ?_))))))
        refine (ex_6_0 (ix_41r (sh_161 hS) (pt_161_1 hS) ?_))
        obtain ⟨I2, e2, r2, f2⟩ := RS_step (d := d + 4) hS hB hR hlt
        refine (ix_46 (S' := []) rfl (sh_169 hS) e2 rfl rfl (ex_6_0 (ix_41r (sh_161 hS) (pt_161_0 hS) (ix_46 (S' := [(.inl (z1 : Int))]) rfl (sh_162 hS) (k_textNext hS (RS_7 r2)) rfl rfl (ex_7_3 rfl (ex_6_0 (ix_41r (sh_161 hS) (pt_161_0 hS) (ex_0 (ex_0 (ix_46 (S' := []) rfl (sh_162 hS) (k_add hS (z := z1) (sg := 4) (tl := 0) (RS_7 r2) (by omega) (by decide) (by decide)) rfl rfl (ex_6_0 (ex_4_1 ?_))))))))))))
        have ra : RS (am_u2 (am_u2 I2 168 z1 ((0 * 16 + 4 : Nat) : Int)) 162 7 ((z1 : Int) + 1)) P b n od (nx b n s) l (z1 + 1) := RS_add r2 (by omega) (by decide)
        obtain ⟨o_, eo, qo⟩ := hit (am_u2 (am_u2 I2 168 z1 ((0 * 16 + 4 : Nat) : Int)) 162 7 ((z1 : Int) + 1)) (nx b n s) l (z1 + 1) ra
        rw [hii] at qo
        obtain ⟨I3, rfl, hx3, f3⟩ := qo
        refine (ix_46 (S' := [(.inl 0)]) rfl (sh_161 hS) eo rfl rfl (ex_if1 (fun hc => by exfalso; revert hc; decide) (fun _ => ?_)))
        refine (ex_0 ?_)
        exact ex_57 (by decide) (QR_inl (by simp only [px_loop, ht, hii]) hx3 (RFr_trans hF (RFr_trans (RFr_TKF f2) (RFr_trans (RFr_add (Nat.le_refl _)) f3 (by omega)) (Nat.le_refl _)) (by have := hSG.1; omega)))
      | inr q =>
        obtain ⟨s3, l3, g⟩ := q
        rw [hii] at hGi
        have hVg : Vt g := hGi.2.2.2.2
        refine (ex_4_2 (ex_0 ?_))
        refine ex_ic3 (fun hc16 => by exfalso; omega) (fun hc16 => ?_)
        refine (ex_6_0 (ix_41r (sh_161 hS) (pt_161_1 hS) (ex_3 (ix_46 (S' := [(.inl 1)]) rfl (sh_169 hS) (k_is_18_t hS (RS_K hR) hB (RS_T hR) (RS_s hR) hkw) rfl rfl (ex_if0 (fun hc => by exfalso; revert hc; decide) (fun _ => ?_))))))
        refine (ex_6_0 (ix_41r (sh_161 hS) (pt_161_1 hS) ?_))
        obtain ⟨I2, e2, r2, f2⟩ := RS_step (d := d + 4) hS hB hR hlt
        refine (ix_46 (S' := []) rfl (sh_169 hS) e2 rfl rfl (ex_6_0 (ix_41r (sh_161 hS) (pt_161_0 hS) (ix_46 (S' := [(.inl (z1 : Int))]) rfl (sh_162 hS) (k_textNext hS (RS_7 r2)) rfl rfl (ex_7_3 rfl (ex_6_0 (ix_41r (sh_161 hS) (pt_161_0 hS) (ex_0 (ex_0 (ix_46 (S' := []) rfl (sh_162 hS) (k_add hS (z := z1) (sg := 4) (tl := 0) (RS_7 r2) (by omega) (by decide) (by decide)) rfl rfl (ex_6_0 (ex_4_1 ?_))))))))))))
        have ra : RS (am_u2 (am_u2 I2 168 z1 ((0 * 16 + 4 : Nat) : Int)) 162 7 ((z1 : Int) + 1)) P b n od (nx b n s) l (z1 + 1) := RS_add r2 (by omega) (by decide)
        obtain ⟨o_, eo, qo⟩ := hit (am_u2 (am_u2 I2 168 z1 ((0 * 16 + 4 : Nat) : Int)) 162 7 ((z1 : Int) + 1)) (nx b n s) l (z1 + 1) ra
        rw [hii] at qo
        obtain ⟨I3, z3, rfl, r3, hz3, hS3, f3⟩ := qo
        refine (ix_46 (S' := [(.inl 1)]) rfl (sh_161 hS) eo rfl rfl (ex_if1 (fun _ => ?_) (fun hc => by exfalso; revert hc; decide)))
        refine (ex_6_0 (ix_41r (sh_161 hS) (pt_161_0 hS) (ex_4_3 ?_)))
        have hF1 : I3 168 z1 = ((4 : Nat) : Int) := (f3 168 z1 (by omega) (by omega) (by omega) (by omega)).trans ((u2_q (by decide)).trans u2_e)
        have h33 := hS3.1
        have hs3 := RS_s r3
        have hz3s := RS_z r3
        refine (ix_46 (S' := []) rfl (sh_162 hS) (k_lead hS (z := z3) (p := z1) (F := 4) (s := 4) (RS_7 r3) (by omega) (by omega) hF1 (by decide) (by decide)) rfl rfl (ex_10_2 ⟨by omega, by omega⟩ rfl (ex_28 ?_)))
        rw [show px_loop (opAnd b n) it (nx b n) (k + 1) s l f = px_loop (opAnd b n) it (nx b n) k s3 l3 (cmb 29 f g) from by simp only [px_loop, ht, hii]]
        have h13 := hSG.1
        have hr1 : ∀ j, j < z1 → (am_u2 I3 168 z1 ((z3 * 16 + 4 : Nat) : Int)) 168 j = I1 168 j := fun j hj => (u2_k (by omega)).trans ((f3 168 j (by omega) (by omega) (by omega) (by omega)).trans ((u2_q (by decide)).trans ((u2_k (by omega)).trans (f2 168 j (by omega)))))
        have hb := SG_ao (s := 4) (SG_congr hSG (F1 := (am_u2 I3 168 z1 ((z3 * 16 + 4 : Nat) : Int)) 168) (fun j a c => hr1 j c)) (SG_congr hS3 (F1 := (am_u2 I3 168 z1 ((z3 * 16 + 4 : Nat) : Int)) 168) (fun j a c => u2_k (by omega))) hV u2_e (by decide)
        rw [show (((4 : Nat) : Int) + 25) = 29 by decide] at hb
        exact ih (i + 1) (am_u2 I3 168 z1 ((z3 * 16 + 4 : Nat) : Int)) s3 l3 z3 (cmb 29 f g) _ (by omega) (RS_lead r3 (by omega)) (by omega) (SG_more hb (by omega)) (Vt_cmb _ _ _ (by decide) hV hVg) (RFr_trans hF (RFr_trans (RFr_TKF f2) (RFr_trans (RFr_add (Nat.le_refl _)) (RFr_trans (RFr_trans (z := z1) RFr_refl f3 (by omega)) (RFr_lead (Nat.le_refl _)) (Nat.le_refl _)) (Nat.le_refl _)) (Nat.le_refl _)) (by omega))
    · have ht : opAnd b n s = none := by unfold opAnd; rw [if_neg hkw]
      refine (ex_4_2 (ex_0 ?_))
      refine ex_ic3 (fun hc16 => by exfalso; omega) (fun hc16 => ?_)
      refine (ex_6_0 (ix_41r (sh_161 hS) (pt_161_1 hS) (ex_3 (ix_46 (S' := [(.inl 0)]) rfl (sh_169 hS) (k_is_18_f hS (RS_K hR) hB (RS_T hR) (RS_s hR) hkw) rfl rfl (ex_if0 (fun _ => ?_) (fun hc => by exfalso; revert hc; decide))))))
      refine (ex_0 ?_)
      exact ex_57 (by decide) (QR_inr (by simp only [px_loop, ht]) hR hzs hSG hF)
theorem kr_both {d : Nat} {G : am_G} {P : Nat → Nat → Option Nat} (hS : ST G P) {b : Nat → Int} {n : Nat} (hB : TB b n) {od : Bool} {it : Nat → Nat → Rs} {br : Int} {D : Nat} (hit : KItd G P b n od (d + 6) 69 br D it) (hG : IG n Vt it) : KItd G P b n od (d + 7) 68 br D (px_seq (opAnd b n) it (nx b n)) := by
  intro I s l z hR
  have hGi := hG s l (RS_s hR) (RS_l hR)
  refine am_doQ (L := [some (.inr (.inr (some 161))), some (.inl br), none, none]) (Nat.le_of_ble_eq_true rfl) rfl ?_
  cases hii : it s l with
  | inl x =>
    refine (ex_6_0 (ex_4_1 ?_))
    obtain ⟨o_, eo, qo⟩ := hit I s l z hR
    rw [hii] at qo
    obtain ⟨I3, rfl, hx3, f3⟩ := qo
    refine (ix_46 (S' := [(.inl 0)]) rfl (sh_161 hS) eo rfl rfl (ex_if1 (fun hc => by exfalso; revert hc; decide) (fun _ => ?_)))
    refine (ex_0 ?_)
    exact ex_57 (by decide) (QR_inl (by simp only [px_seq, hii]) hx3 f3)
  | inr q =>
    obtain ⟨s3, l3, g⟩ := q
    rw [hii] at hGi
    have hVg : Vt g := hGi.2.2.2.2
    refine (ex_6_0 (ex_4_1 ?_))
    obtain ⟨o_, eo, qo⟩ := hit I s l z hR
    rw [hii] at qo
    obtain ⟨I3, z3, rfl, r3, hz3, hS3, f3⟩ := qo
    refine (ix_46 (S' := [(.inl 1)]) rfl (sh_161 hS) eo rfl rfl (ex_if1 (fun _ => ?_) (fun hc => by exfalso; revert hc; decide)))
    refine (ex_0 (ex_7_2 rfl (ex_58 ?_)))
    rw [show px_seq (opAnd b n) it (nx b n) s l = px_loop (opAnd b n) it (nx b n) 400 s3 l3 g from by simp only [px_seq, hii]]
    exact lr_both hS hB hit hG 400 0 I3 s3 l3 z3 g none rfl r3 hz3 hS3 hVg f3
theorem lr_test {d : Nat} {G : am_G} {I : Nat → Nat → Int} {P : Nat → Nat → Option Nat} (hS : ST G P) {b : Nat → Int} {n : Nat} (hB : TB b n) {od : Bool} {it : Nat → Nat → Rs} {br : Int} {D : Nat} (hit : KItd G P b n od (d + 6) 68 br D it) (hG : IG n Vt it) {z s0 : Nat} : ∀ (k i : Nat) (I1 : Nat → Nat → Int) (s l z1 : Nat) (f : Fn) (e3 : Option am_V), i + k = 400 → RS I1 P b n od s l z1 → z1 + s0 ≤ z + s → SG od (I1 168) z z1 D f → Vt f → RFr z I I1 → am_ex (am_call am_B am_M (d + 6)) (am_B 67) (am_B 67 3) [some (.inr (.inr (some 161))), some (.inl br), some (.inl (i : Int)), e3] [] (G, I1, P) (QR G P b n od I z s0 D (px_loop (opOr b n) it (nx b n) k s l f)) := by
  have hn4 := hB.1
  intro k
  induction k with
  | zero =>
    intro i I1 s l z1 f e3 hi hR hzs hSG hV hF
    refine (ex_4_2 (ex_0 ?_))
    refine ex_ic3 (fun hc16 => ?_) (fun hc16 => by exfalso; omega)
    refine (ex_0 ?_)
    exact ex_57 (by decide) (QR_inr (by simp only [px_loop]) hR hzs hSG hF)
  | succ k ih =>
    intro i I1 s l z1 f e3 hi hR hzs hSG hV hF
    have hs := RS_s hR
    have hz1 := RS_z hR
    by_cases hkw : tk b n s = [111, 114]
    · have ht : opOr b n s = some 30 := by unfold opOr; rw [if_pos hkw]
      have hlt := tk_lt hs hkw
      have hnx := nx_2 (b := b) s hlt
      have hGi := hG (nx b n s) l hnx.2 (RS_l hR)
      cases hii : it (nx b n s) l with
      | inl x =>
        refine (ex_4_2 (ex_0 ?_))
        refine ex_ic3 (fun hc16 => by exfalso; omega) (fun hc16 => ?_)
        refine (ex_6_0 (ix_41r (sh_161 hS) (pt_161_1 hS) (ex_3 (ix_46 (S' := [(.inl 1)]) rfl (sh_169 hS) (k_is_19_t hS (RS_K hR) hB (RS_T hR) (RS_s hR) hkw) rfl rfl (ex_if0 (fun hc => by exfalso; revert hc; decide) (fun _ => ?_))))))
        refine (ex_6_0 (ix_41r (sh_161 hS) (pt_161_1 hS) ?_))
        obtain ⟨I2, e2, r2, f2⟩ := RS_step (d := d + 4) hS hB hR hlt
        refine (ix_46 (S' := []) rfl (sh_169 hS) e2 rfl rfl (ex_6_0 (ix_41r (sh_161 hS) (pt_161_0 hS) (ix_46 (S' := [(.inl (z1 : Int))]) rfl (sh_162 hS) (k_textNext hS (RS_7 r2)) rfl rfl (ex_7_3 rfl (ex_6_0 (ix_41r (sh_161 hS) (pt_161_0 hS) (ex_0 (ex_0 (ix_46 (S' := []) rfl (sh_162 hS) (k_add hS (z := z1) (sg := 5) (tl := 0) (RS_7 r2) (by omega) (by decide) (by decide)) rfl rfl (ex_6_0 (ex_4_1 ?_))))))))))))
        have ra : RS (am_u2 (am_u2 I2 168 z1 ((0 * 16 + 5 : Nat) : Int)) 162 7 ((z1 : Int) + 1)) P b n od (nx b n s) l (z1 + 1) := RS_add r2 (by omega) (by decide)
        obtain ⟨o_, eo, qo⟩ := hit (am_u2 (am_u2 I2 168 z1 ((0 * 16 + 5 : Nat) : Int)) 162 7 ((z1 : Int) + 1)) (nx b n s) l (z1 + 1) ra
        rw [hii] at qo
        obtain ⟨I3, rfl, hx3, f3⟩ := qo
        refine (ix_46 (S' := [(.inl 0)]) rfl (sh_161 hS) eo rfl rfl (ex_if1 (fun hc => by exfalso; revert hc; decide) (fun _ => ?_)))
        refine (ex_0 ?_)
        exact ex_57 (by decide) (QR_inl (by simp only [px_loop, ht, hii]) hx3 (RFr_trans hF (RFr_trans (RFr_TKF f2) (RFr_trans (RFr_add (Nat.le_refl _)) f3 (by omega)) (Nat.le_refl _)) (by have := hSG.1; omega)))
      | inr q =>
        obtain ⟨s3, l3, g⟩ := q
        rw [hii] at hGi
        have hVg : Vt g := hGi.2.2.2.2
        refine (ex_4_2 (ex_0 ?_))
        refine ex_ic3 (fun hc16 => by exfalso; omega) (fun hc16 => ?_)
        refine (ex_6_0 (ix_41r (sh_161 hS) (pt_161_1 hS) (ex_3 (ix_46 (S' := [(.inl 1)]) rfl (sh_169 hS) (k_is_19_t hS (RS_K hR) hB (RS_T hR) (RS_s hR) hkw) rfl rfl (ex_if0 (fun hc => by exfalso; revert hc; decide) (fun _ => ?_))))))
        refine (ex_6_0 (ix_41r (sh_161 hS) (pt_161_1 hS) ?_))
        obtain ⟨I2, e2, r2, f2⟩ := RS_step (d := d + 4) hS hB hR hlt
        refine (ix_46 (S' := []) rfl (sh_169 hS) e2 rfl rfl (ex_6_0 (ix_41r (sh_161 hS) (pt_161_0 hS) (ix_46 (S' := [(.inl (z1 : Int))]) rfl (sh_162 hS) (k_textNext hS (RS_7 r2)) rfl rfl (ex_7_3 rfl (ex_6_0 (ix_41r (sh_161 hS) (pt_161_0 hS) (ex_0 (ex_0 (ix_46 (S' := []) rfl (sh_162 hS) (k_add hS (z := z1) (sg := 5) (tl := 0) (RS_7 r2) (by omega) (by decide) (by decide)) rfl rfl (ex_6_0 (ex_4_1 ?_))))))))))))
        have ra : RS (am_u2 (am_u2 I2 168 z1 ((0 * 16 + 5 : Nat) : Int)) 162 7 ((z1 : Int) + 1)) P b n od (nx b n s) l (z1 + 1) := RS_add r2 (by omega) (by decide)
        obtain ⟨o_, eo, qo⟩ := hit (am_u2 (am_u2 I2 168 z1 ((0 * 16 + 5 : Nat) : Int)) 162 7 ((z1 : Int) + 1)) (nx b n s) l (z1 + 1) ra
        rw [hii] at qo
        obtain ⟨I3, z3, rfl, r3, hz3, hS3, f3⟩ := qo
        refine (ix_46 (S' := [(.inl 1)]) rfl (sh_161 hS) eo rfl rfl (ex_if1 (fun _ => ?_) (fun hc => by exfalso; revert hc; decide)))
        refine (ex_6_0 (ix_41r (sh_161 hS) (pt_161_0 hS) (ex_4_3 ?_)))
        have hF1 : I3 168 z1 = ((5 : Nat) : Int) := (f3 168 z1 (by omega) (by omega) (by omega) (by omega)).trans ((u2_q (by decide)).trans u2_e)
        have h33 := hS3.1
        have hs3 := RS_s r3
        have hz3s := RS_z r3
        refine (ix_46 (S' := []) rfl (sh_162 hS) (k_lead hS (z := z3) (p := z1) (F := 5) (s := 5) (RS_7 r3) (by omega) (by omega) hF1 (by decide) (by decide)) rfl rfl (ex_10_2 ⟨by omega, by omega⟩ rfl (ex_28 ?_)))
        rw [show px_loop (opOr b n) it (nx b n) (k + 1) s l f = px_loop (opOr b n) it (nx b n) k s3 l3 (cmb 30 f g) from by simp only [px_loop, ht, hii]]
        have h13 := hSG.1
        have hr1 : ∀ j, j < z1 → (am_u2 I3 168 z1 ((z3 * 16 + 5 : Nat) : Int)) 168 j = I1 168 j := fun j hj => (u2_k (by omega)).trans ((f3 168 j (by omega) (by omega) (by omega) (by omega)).trans ((u2_q (by decide)).trans ((u2_k (by omega)).trans (f2 168 j (by omega)))))
        have hb := SG_ao (s := 5) (SG_congr hSG (F1 := (am_u2 I3 168 z1 ((z3 * 16 + 5 : Nat) : Int)) 168) (fun j a c => hr1 j c)) (SG_congr hS3 (F1 := (am_u2 I3 168 z1 ((z3 * 16 + 5 : Nat) : Int)) 168) (fun j a c => u2_k (by omega))) hV u2_e (by decide)
        rw [show (((5 : Nat) : Int) + 25) = 30 by decide] at hb
        exact ih (i + 1) (am_u2 I3 168 z1 ((z3 * 16 + 5 : Nat) : Int)) s3 l3 z3 (cmb 30 f g) _ (by omega) (RS_lead r3 (by omega)) (by omega) (SG_more hb (by omega)) (Vt_cmb _ _ _ (by decide) hV hVg) (RFr_trans hF (RFr_trans (RFr_TKF f2) (RFr_trans (RFr_add (Nat.le_refl _)) (RFr_trans (RFr_trans (z := z1) RFr_refl f3 (by omega)) (RFr_lead (Nat.le_refl _)) (Nat.le_refl _)) (Nat.le_refl _)) (Nat.le_refl _)) (by omega))
    · have ht : opOr b n s = none := by unfold opOr; rw [if_neg hkw]
      refine (ex_4_2 (ex_0 ?_))
      refine ex_ic3 (fun hc16 => by exfalso; omega) (fun hc16 => ?_)
      refine (ex_6_0 (ix_41r (sh_161 hS) (pt_161_1 hS) (ex_3 (ix_46 (S' := [(.inl 0)]) rfl (sh_169 hS) (k_is_19_f hS (RS_K hR) hB (RS_T hR) (RS_s hR) hkw) rfl rfl (ex_if0 (fun _ => ?_) (fun hc => by exfalso; revert hc; decide))))))
      refine (ex_0 ?_)
      exact ex_57 (by decide) (QR_inr (by simp only [px_loop, ht]) hR hzs hSG hF)
theorem kr_test {d : Nat} {G : am_G} {P : Nat → Nat → Option Nat} (hS : ST G P) {b : Nat → Int} {n : Nat} (hB : TB b n) {od : Bool} {it : Nat → Nat → Rs} {br : Int} {D : Nat} (hit : KItd G P b n od (d + 6) 68 br D it) (hG : IG n Vt it) : KItd G P b n od (d + 7) 67 br D (px_seq (opOr b n) it (nx b n)) := by
  intro I s l z hR
  have hGi := hG s l (RS_s hR) (RS_l hR)
  refine am_doQ (L := [some (.inr (.inr (some 161))), some (.inl br), none, none]) (Nat.le_of_ble_eq_true rfl) rfl ?_
  cases hii : it s l with
  | inl x =>
    refine (ex_6_0 (ex_4_1 ?_))
    obtain ⟨o_, eo, qo⟩ := hit I s l z hR
    rw [hii] at qo
    obtain ⟨I3, rfl, hx3, f3⟩ := qo
    refine (ix_46 (S' := [(.inl 0)]) rfl (sh_161 hS) eo rfl rfl (ex_if1 (fun hc => by exfalso; revert hc; decide) (fun _ => ?_)))
    refine (ex_0 ?_)
    exact ex_57 (by decide) (QR_inl (by simp only [px_seq, hii]) hx3 f3)
  | inr q =>
    obtain ⟨s3, l3, g⟩ := q
    rw [hii] at hGi
    have hVg : Vt g := hGi.2.2.2.2
    refine (ex_6_0 (ex_4_1 ?_))
    obtain ⟨o_, eo, qo⟩ := hit I s l z hR
    rw [hii] at qo
    obtain ⟨I3, z3, rfl, r3, hz3, hS3, f3⟩ := qo
    refine (ix_46 (S' := [(.inl 1)]) rfl (sh_161 hS) eo rfl rfl (ex_if1 (fun _ => ?_) (fun hc => by exfalso; revert hc; decide)))
    refine (ex_0 (ex_7_2 rfl (ex_58 ?_)))
    rw [show px_seq (opOr b n) it (nx b n) s l = px_loop (opOr b n) it (nx b n) 400 s3 l3 g from by simp only [px_seq, hii]]
    exact lr_test hS hB hit hG 400 0 I3 s3 l3 z3 g none rfl r3 hz3 hS3 hVg f3
def tn (c : Nat) (t : Int) : Int := if c % 2 = 1 then 1 - t else t
theorem tn_s {c : Nat} {t : Int} (h : t = 0 ∨ t = 1) : tn (c + 1) t = tn c (1 - t) := by
  unfold tn
  by_cases h2 : c % 2 = 1
  · rw [if_neg (by omega), if_pos h2]; omega
  · rw [if_pos (by omega), if_neg h2]
theorem lr_not {d : Nat} {G : am_G} {I : Nat → Nat → Int} {P : Nat → Nat → Option Nat} {Q : am_O → Prop} (hS : ST G P) {b : Nat → Int} {n : Nat} (hB : TB b n) {od : Bool} {br : Int} {l z : Nat} : ∀ (k i : Nat) (I1 : Nat → Nat → Int) (s : Nat) (t : Int), i + k = 400 → (t = 0 ∨ t = 1) → RS I1 P b n od s l z → TKF I I1 → (∀ I2 (j : Int), RS I2 P b n od (nts b n k s).1 l z → TKF I I2 → am_ex (am_call am_B am_M (d + 6)) (am_B 69) (am_B 69 7) [some (.inr (.inr (some 161))), some (.inl br), some (.inl (tn (nts b n k s).2 t)), some (.inl j)] [] (G, I2, P) Q) → am_ex (am_call am_B am_M (d + 6)) (am_B 69) (am_B 69 1) [some (.inr (.inr (some 161))), some (.inl br), some (.inl t), some (.inl (i : Int))] [] (G, I1, P) Q := by
  intro k
  induction k with
  | zero =>
    intro i I1 s t hi ht hR hF hk
    refine (ex_4_3 (ex_0 ?_))
    refine ex_ic3 (fun hc8 => ?_) (fun hc8 => by exfalso; omega)
    exact hk I1 _ hR hF
  | succ k ih =>
    intro i I1 s t hi ht hR hF hk
    have hs := RS_s hR
    by_cases hkw : tk b n s = [110, 111, 116]
    · have hlt := tk_lt hs hkw
      have h1 : (nts b n (k + 1) s).1 = (nts b n k (nx b n s)).1 := by unfold nts; rw [if_pos hkw]; cases k <;> rfl
      have h2 : (nts b n (k + 1) s).2 = (nts b n k (nx b n s)).2 + 1 := by unfold nts; rw [if_pos hkw]; cases k <;> rfl
      rw [h1, h2, tn_s ht] at hk
      refine (ex_4_3 (ex_0 ?_))
      refine ex_ic3 (fun hc8 => by exfalso; omega) (fun hc8 => ?_)
      refine (ex_6_0 (ix_41r (sh_161 hS) (pt_161_1 hS) (ex_3 (ix_46 (S' := [(.inl 1)]) rfl (sh_169 hS) (k_is_14_t hS (RS_K hR) hB (RS_T hR) (RS_s hR) hkw) rfl rfl (ex_if0 (fun hc => by exfalso; revert hc; decide) (fun _ => ?_))))))
      refine (ex_6_0 (ix_41r (sh_161 hS) (pt_161_1 hS) ?_))
      obtain ⟨I2, e2, r2, f2⟩ := RS_step (d := d + 4) hS hB hR hlt
      refine (ix_46 (S' := []) rfl (sh_169 hS) e2 rfl rfl (ex_4_2 ?_))
      refine ex_if1 (fun hc31 => ?_) (fun hc31 => ?_)
      · refine (ex_0 (ex_58 (ex_7_2 rfl (ex_10_3 ⟨by omega, by omega⟩ rfl (ex_28 ?_)))))
        exact ih (i + 1) I2 (nx b n s) 0 (by omega) (by omega) r2 (fun q k h => (f2 q k h).trans (hF q k h)) (by rw [show (1 : Int) - t = 0 by omega] at hk; exact hk)
      · refine (ex_0 (ex_28 (ex_7_2 rfl (ex_10_3 ⟨by omega, by omega⟩ rfl (ex_28 ?_)))))
        exact ih (i + 1) I2 (nx b n s) 1 (by omega) (by omega) r2 (fun q k h => (f2 q k h).trans (hF q k h)) (by rw [show (1 : Int) - t = 1 by omega] at hk; exact hk)
    · have h1 : nts b n (k + 1) s = (s, 0) := by unfold nts; rw [if_neg hkw]
      rw [h1] at hk
      refine (ex_4_3 (ex_0 ?_))
      refine ex_ic3 (fun hc8 => by exfalso; omega) (fun hc8 => ?_)
      refine (ex_6_0 (ix_41r (sh_161 hS) (pt_161_1 hS) (ex_3 (ix_46 (S' := [(.inl 0)]) rfl (sh_169 hS) (k_is_14_f hS (RS_K hR) hB (RS_T hR) (RS_s hR) hkw) rfl rfl (ex_if0 (fun _ => ?_) (fun hc => by exfalso; revert hc; decide))))))
      exact hk I1 _ hR hF
theorem TKF_RFr {z y : Nat} {I J K : Nat → Nat → Int} (h : TKF I J) (h2 : RFr y J K) (hz : z ≤ y) : RFr z I K := RFr_trans (RFr_TKF h) h2 hz
/-- the end of a plain test: one sign more if it is turned -/
theorem lr_turn {d : Nat} {G : am_G} {I I3 : Nat → Nat → Int} {P : Nat → Nat → Option Nat} (hS : ST G P) {b : Nat → Int} {n : Nat} (hB : TB b n) {od : Bool} {s3 l3 z3 z c s0 D : Nat} {br j : Int} {f : Fn} {r : Rs} (r3 : RS I3 P b n od s3 l3 z3) (hz3 : z3 + s0 + (if 0 < c then 1 else 0) ≤ z + s3) (hlt3 : 0 < c → z3 < s3) (hS3 : SG od (I3 168) z z3 D f) (hV : Vt f) (hF : RFr z I I3) (hr : r = .inr (s3, l3, f)) : am_ex (am_call am_B am_M (d + 6)) (am_B 69) (am_B 69 20) [some (.inr (.inr (some 161))), some (.inl br), some (.inl (tn c 0)), some (.inl j)] [] (G, I3, P) (QR G P b n od I z s0 D (px_not c r)) := by
  subst hr
  have hn4 := hB.1
  have hs3 := RS_s r3
  have h13 := hS3.1
  by_cases hc : c % 2 = 1
  · have ht : tn c 0 = 1 := by unfold tn; rw [if_pos hc]; rfl
    rw [ht]
    rw [if_pos (by omega)] at hz3
    have hl := hlt3 (by omega)
    refine (ex_4_2 (ex_if0 (fun hc => by exfalso; revert hc; decide) (fun _ => ?_)))
    refine (ex_6_0 (ix_41r (sh_161 hS) (pt_161_0 hS) (ex_0 (ex_0 (ix_46 (S' := []) rfl (sh_162 hS) (k_add hS (z := z3) (sg := 3) (tl := 0) (RS_7 r3) (by omega) (by decide) (by decide)) rfl rfl (ex_58 (ex_0 ?_)))))))
    exact ex_57 (by decide) (QR_inr (z2 := z3 + 1) (by simp only [px_not, if_pos hc]) (RS_add r3 hl (by decide)) (by omega) (SG_not (SG_congr hS3 (fun k a e => (u2_q (by decide)).trans (u2_k (by omega)))) hV ((u2_q (by decide)).trans u2_e)) (RFr_trans hF (RFr_add (by omega)) (Nat.le_refl _)))
  · have ht : tn c 0 = 0 := by unfold tn; rw [if_neg hc]
    rw [ht]
    refine (ex_4_2 (ex_if0 (fun _ => ?_) (fun hc => by exfalso; revert hc; decide)))
    refine (ex_0 ?_)
    exact ex_57 (by decide) (QR_inr (by simp only [px_not, if_neg hc]) r3 (by omega) hS3 hF)
theorem kq_bn {d : Nat} {G : am_G} {I I1 : Nat → Nat → Int} {P : Nat → Nat → Option Nat} (hS : ST G P) {b : Nat → Int} {n : Nat} (hB : TB b n) {od : Bool} {s l z c s0 : Nat} (hR : RS I1 P b n od s l z) (hF : TKF I I1) (h0 : s0 ≤ s) (hc0 : 0 < c → s0 < s) (hz0 : z ≤ s0) {T : Option (Nat → Nat → Rs)} {S : Nat → Nat → Rs} {br j : Int} (hbr : 0 ≤ br ∧ br ≤ 8) {D E : Nat} (hDE : E + 1 ≤ D)  (h40 : tk b n s = [40]) (hb8 : br = 8) (hTn : T = none) : am_ex (am_call am_B am_M (d + 6)) (am_B 69) (am_B 69 7) [some (.inr (.inr (some 161))), some (.inl br), some (.inl (tn c 0)), some (.inl j)] [] (G, I1, P) (QR G P b n od I z s0 D (px_not c (px_plain0 b n T S s l))) := by
  have hn4 := hB.1
  have hs := RS_s hR
  have hzs := RS_z hR
  refine (ex_6_0 (ix_41r (sh_161 hS) (pt_161_1 hS) (ex_3 (ix_46 (S' := [(.inl 1)]) rfl (sh_169 hS) (k_is_15_t hS (RS_K hR) hB (RS_T hR) (RS_s hR) h40) rfl rfl (ex_if0 (fun hc => by exfalso; revert hc; decide) (fun _ => ?_))))))
  refine (ex_4_1 (ex_0 ?_))
  refine ex_ic2 (fun hc61 => by exfalso; omega) (fun hc61 => ?_)
  refine (ex_6_0 (ix_46 (S' := [(.inl 0)]) rfl (sh_161 hS) (k_fail hS (RS_T hR).2.2.1) rfl rfl ?_))
  exact ex_57 (by decide) (QR_inl (by unfold px_plain0; rw [if_pos h40, hTn]; rfl) u2_e (TKF_RFr hF RFr_fail (Nat.le_refl _)))
theorem kq_bx {d : Nat} {G : am_G} {I I1 : Nat → Nat → Int} {P : Nat → Nat → Option Nat} (hS : ST G P) {b : Nat → Int} {n : Nat} (hB : TB b n) {od : Bool} {s l z c s0 : Nat} (hR : RS I1 P b n od s l z) (hF : TKF I I1) (h0 : s0 ≤ s) (hc0 : 0 < c → s0 < s) (hz0 : z ≤ s0) {T : Option (Nat → Nat → Rs)} {S : Nat → Nat → Rs} {br j : Int} (hbr : 0 ≤ br ∧ br ≤ 8) {D E : Nat} (hDE : E + 1 ≤ D)  (h40 : tk b n s = [40]) (hb8 : br < 8) {g : Nat → Nat → Rs} (hTg : T = some g) (hg : KItd G P b n od (d + 6) 67 (br + 1) D g) {x : Nat} (hgv : g (nx b n s) l = .inl x) : am_ex (am_call am_B am_M (d + 6)) (am_B 69) (am_B 69 7) [some (.inr (.inr (some 161))), some (.inl br), some (.inl (tn c 0)), some (.inl j)] [] (G, I1, P) (QR G P b n od I z s0 D (px_not c (px_plain0 b n T S s l))) := by
  have hn4 := hB.1
  have hs := RS_s hR
  have hzs := RS_z hR
  have hlt := tk_lt hs h40
  have hnx := nx_2 (b := b) s hlt
  refine (ex_6_0 (ix_41r (sh_161 hS) (pt_161_1 hS) (ex_3 (ix_46 (S' := [(.inl 1)]) rfl (sh_169 hS) (k_is_15_t hS (RS_K hR) hB (RS_T hR) (RS_s hR) h40) rfl rfl (ex_if0 (fun hc => by exfalso; revert hc; decide) (fun _ => ?_))))))
  refine (ex_4_1 (ex_0 ?_))
  refine ex_ic2 (fun hc61 => ?_) (fun hc61 => by exfalso; omega)
  refine (ex_6_0 (ix_41r (sh_161 hS) (pt_161_1 hS) ?_))
  obtain ⟨I2, e2, r2, f2⟩ := RS_step (d := d + 4) hS hB hR hlt
  refine (ix_46 (S' := []) rfl (sh_169 hS) e2 rfl rfl (ex_6_0 (ex_4_1 (ex_0 (ex_add ⟨by omega, by omega⟩ ?_)))))
  obtain ⟨o_, eo, qo⟩ := hg I2 (nx b n s) l z r2
  rw [hgv] at qo
  obtain ⟨I3, rfl, hx3, f3⟩ := qo
  refine (ix_46 (S' := [(.inl 0)]) rfl (sh_161 hS) eo rfl rfl (ex_if0 (fun _ => ?_) (fun hc => by exfalso; revert hc; decide)))
  refine (ex_0 ?_)
  exact ex_57 (by decide) (QR_inl (by unfold px_plain0; rw [if_pos h40, hTg]; simp only [hgv]; rfl) hx3 (TKF_RFr hF (RFr_trans (RFr_TKF f2) f3 (Nat.le_refl _)) (Nat.le_refl _)))
theorem kq_bc {d : Nat} {G : am_G} {I I1 : Nat → Nat → Int} {P : Nat → Nat → Option Nat} (hS : ST G P) {b : Nat → Int} {n : Nat} (hB : TB b n) {od : Bool} {s l z c s0 : Nat} (hR : RS I1 P b n od s l z) (hF : TKF I I1) (h0 : s0 ≤ s) (hc0 : 0 < c → s0 < s) (hz0 : z ≤ s0) {T : Option (Nat → Nat → Rs)} {S : Nat → Nat → Rs} {br j : Int} (hbr : 0 ≤ br ∧ br ≤ 8) {D E : Nat} (hDE : E + 1 ≤ D)  (h40 : tk b n s = [40]) (hb8 : br < 8) {g : Nat → Nat → Rs} (hTg : T = some g) (hg : KItd G P b n od (d + 6) 67 (br + 1) D g) {s3 l3 : Nat} {f : Fn} (hgv : g (nx b n s) l = .inr (s3, l3, f)) (hcl : ¬ tk b n s3 = [41]) : am_ex (am_call am_B am_M (d + 6)) (am_B 69) (am_B 69 7) [some (.inr (.inr (some 161))), some (.inl br), some (.inl (tn c 0)), some (.inl j)] [] (G, I1, P) (QR G P b n od I z s0 D (px_not c (px_plain0 b n T S s l))) := by
  have hn4 := hB.1
  have hs := RS_s hR
  have hzs := RS_z hR
  have hlt := tk_lt hs h40
  have hnx := nx_2 (b := b) s hlt
  refine (ex_6_0 (ix_41r (sh_161 hS) (pt_161_1 hS) (ex_3 (ix_46 (S' := [(.inl 1)]) rfl (sh_169 hS) (k_is_15_t hS (RS_K hR) hB (RS_T hR) (RS_s hR) h40) rfl rfl (ex_if0 (fun hc => by exfalso; revert hc; decide) (fun _ => ?_))))))
  refine (ex_4_1 (ex_0 ?_))
  refine ex_ic2 (fun hc61 => ?_) (fun hc61 => by exfalso; omega)
  refine (ex_6_0 (ix_41r (sh_161 hS) (pt_161_1 hS) ?_))
  obtain ⟨I2, e2, r2, f2⟩ := RS_step (d := d + 4) hS hB hR hlt
  refine (ix_46 (S' := []) rfl (sh_169 hS) e2 rfl rfl (ex_6_0 (ex_4_1 (ex_0 (ex_add ⟨by omega, by omega⟩ ?_)))))
  obtain ⟨o_, eo, qo⟩ := hg I2 (nx b n s) l z r2
  rw [hgv] at qo
  obtain ⟨I3, z3, rfl, r3, hz3, hS3, f3⟩ := qo
  refine (ix_46 (S' := [(.inl 1)]) rfl (sh_161 hS) eo rfl rfl (ex_if0 (fun hc => by exfalso; revert hc; decide) (fun _ => ?_)))
  refine (ex_6_0 (ex_3 (ix_46 (S' := [(.inl 0)]) rfl (sh_161 hS) (k_exp_16_f (d := d + 3) hS hB r3 hcl) rfl rfl (ex_if1 (fun hc => by exfalso; revert hc; decide) (fun _ => ?_)))))
  refine (ex_0 ?_)
  exact ex_57 (by decide) (QR_inl (by unfold px_plain0; rw [if_pos h40, hTg]; simp only [hgv, if_neg hcl]; rfl) u2_e (TKF_RFr hF (RFr_trans (RFr_TKF f2) (RFr_trans f3 RFr_fail (Nat.le_refl _)) (Nat.le_refl _)) (Nat.le_refl _)))
theorem kq_bs {d : Nat} {G : am_G} {I I1 : Nat → Nat → Int} {P : Nat → Nat → Option Nat} (hS : ST G P) {b : Nat → Int} {n : Nat} (hB : TB b n) {od : Bool} {s l z c s0 : Nat} (hR : RS I1 P b n od s l z) (hF : TKF I I1) (h0 : s0 ≤ s) (hc0 : 0 < c → s0 < s) (hz0 : z ≤ s0) {T : Option (Nat → Nat → Rs)} {S : Nat → Nat → Rs} {br j : Int} (hbr : 0 ≤ br ∧ br ≤ 8) {D E : Nat} (hDE : E + 1 ≤ D)  (h40 : tk b n s = [40]) (hb8 : br < 8) {g : Nat → Nat → Rs} (hTg : T = some g) (hg : KItd G P b n od (d + 6) 67 (br + 1) D g) {s3 l3 : Nat} {f : Fn} (hgv : g (nx b n s) l = .inr (s3, l3, f)) (hcl : tk b n s3 = [41]) (hV : Vt f) : am_ex (am_call am_B am_M (d + 6)) (am_B 69) (am_B 69 7) [some (.inr (.inr (some 161))), some (.inl br), some (.inl (tn c 0)), some (.inl j)] [] (G, I1, P) (QR G P b n od I z s0 D (px_not c (px_plain0 b n T S s l))) := by
  have hn4 := hB.1
  have hs := RS_s hR
  have hzs := RS_z hR
  have hlt := tk_lt hs h40
  have hnx := nx_2 (b := b) s hlt
  refine (ex_6_0 (ix_41r (sh_161 hS) (pt_161_1 hS) (ex_3 (ix_46 (S' := [(.inl 1)]) rfl (sh_169 hS) (k_is_15_t hS (RS_K hR) hB (RS_T hR) (RS_s hR) h40) rfl rfl (ex_if0 (fun hc => by exfalso; revert hc; decide) (fun _ => ?_))))))
  refine (ex_4_1 (ex_0 ?_))
  refine ex_ic2 (fun hc61 => ?_) (fun hc61 => by exfalso; omega)
  refine (ex_6_0 (ix_41r (sh_161 hS) (pt_161_1 hS) ?_))
  obtain ⟨I2, e2, r2, f2⟩ := RS_step (d := d + 4) hS hB hR hlt
  refine (ix_46 (S' := []) rfl (sh_169 hS) e2 rfl rfl (ex_6_0 (ex_4_1 (ex_0 (ex_add ⟨by omega, by omega⟩ ?_)))))
  obtain ⟨o_, eo, qo⟩ := hg I2 (nx b n s) l z r2
  rw [hgv] at qo
  obtain ⟨I3, z3, rfl, r3, hz3, hS3, f3⟩ := qo
  refine (ix_46 (S' := [(.inl 1)]) rfl (sh_161 hS) eo rfl rfl (ex_if0 (fun hc => by exfalso; revert hc; decide) (fun _ => ?_)))
  refine (ex_6_0 (ex_3 ?_))
  obtain ⟨I4, e4, r4, f4⟩ := k_exp_16_t (d := d + 3) hS hB r3 hcl
  refine (ix_46 (S' := [(.inl 1)]) rfl (sh_161 hS) e4 rfl rfl (ex_if1 (fun _ => ?_) (fun hc => by exfalso; revert hc; decide)))
  have hn3 := nx_2 (b := b) s3 (tk_lt (RS_s r3) hcl)
  have hzz := RS_z r3
  exact lr_turn hS hB r4 (by split <;> omega) (fun _ => by omega) (SG_congr hS3 (fun j a c => f4 168 j (by omega))) hV (TKF_RFr hF (RFr_trans (RFr_TKF f2) (RFr_trans f3 (RFr_TKF f4) (Nat.le_refl _)) (Nat.le_refl _)) (Nat.le_refl _)) (by unfold px_plain0; rw [if_pos h40, hTg]; simp only [hgv, if_pos hcl])
theorem kq_s1x {d : Nat} {G : am_G} {I I1 : Nat → Nat → Int} {P : Nat → Nat → Option Nat} (hS : ST G P) {b : Nat → Int} {n : Nat} (hB : TB b n) {od : Bool} {s l z c s0 : Nat} (hR : RS I1 P b n od s l z) (hF : TKF I I1) (h0 : s0 ≤ s) (hc0 : 0 < c → s0 < s) (hz0 : z ≤ s0) {T : Option (Nat → Nat → Rs)} {S : Nat → Nat → Rs} {br j : Int} (hbr : 0 ≤ br ∧ br ≤ 8) {D E : Nat} (hDE : E + 1 ≤ D)  (h40 : ¬ tk b n s = [40]) (hS1 : KItd G P b n od (d + 6) 70 br E S) {x : Nat} (hv1 : S s l = .inl x) : am_ex (am_call am_B am_M (d + 6)) (am_B 69) (am_B 69 7) [some (.inr (.inr (some 161))), some (.inl br), some (.inl (tn c 0)), some (.inl j)] [] (G, I1, P) (QR G P b n od I z s0 D (px_not c (px_plain0 b n T S s l))) := by
  have hn4 := hB.1
  have hs := RS_s hR
  have hzs := RS_z hR
  refine (ex_6_0 (ix_41r (sh_161 hS) (pt_161_1 hS) (ex_3 (ix_46 (S' := [(.inl 0)]) rfl (sh_169 hS) (k_is_15_f hS (RS_K hR) hB (RS_T hR) (RS_s hR) h40) rfl rfl (ex_if0 (fun _ => ?_) (fun hc => by exfalso; revert hc; decide))))))
  refine (ex_6_0 (ex_4_1 ?_))
  obtain ⟨o_, eo, qo⟩ := hS1 I1 s l z hR
  rw [hv1] at qo
  obtain ⟨I2, rfl, hx2, f2⟩ := qo
  refine (ix_46 (S' := [(.inl 0)]) rfl (sh_161 hS) eo rfl rfl (ex_if1 (fun hc => by exfalso; revert hc; decide) (fun _ => ?_)))
  refine (ex_0 ?_)
  exact ex_57 (by decide) (QR_inl (by unfold px_plain0; rw [if_neg h40]; unfold px_cmp; simp only [hv1]; rfl) hx2 (TKF_RFr hF f2 (Nat.le_refl _)))
theorem kq_cn {d : Nat} {G : am_G} {I I1 : Nat → Nat → Int} {P : Nat → Nat → Option Nat} (hS : ST G P) {b : Nat → Int} {n : Nat} (hB : TB b n) {od : Bool} {s l z c s0 : Nat} (hR : RS I1 P b n od s l z) (hF : TKF I I1) (h0 : s0 ≤ s) (hc0 : 0 < c → s0 < s) (hz0 : z ≤ s0) {T : Option (Nat → Nat → Rs)} {S : Nat → Nat → Rs} {br j : Int} (hbr : 0 ≤ br ∧ br ≤ 8) {D E : Nat} (hDE : E + 1 ≤ D)  (h40 : ¬ tk b n s = [40]) (hS1 : KItd G P b n od (d + 6) 70 br E S) {s2 l2 : Nat} {f : Fn} (hv1 : S s l = .inr (s2, l2, f)) (hv : opC b n s2 = none) : am_ex (am_call am_B am_M (d + 6)) (am_B 69) (am_B 69 7) [some (.inr (.inr (some 161))), some (.inl br), some (.inl (tn c 0)), some (.inl j)] [] (G, I1, P) (QR G P b n od I z s0 D (px_not c (px_plain0 b n T S s l))) := by
  have hn4 := hB.1
  have hs := RS_s hR
  have hzs := RS_z hR
  refine (ex_6_0 (ix_41r (sh_161 hS) (pt_161_1 hS) (ex_3 (ix_46 (S' := [(.inl 0)]) rfl (sh_169 hS) (k_is_15_f hS (RS_K hR) hB (RS_T hR) (RS_s hR) h40) rfl rfl (ex_if0 (fun _ => ?_) (fun hc => by exfalso; revert hc; decide))))))
  refine (ex_6_0 (ex_4_1 ?_))
  obtain ⟨o_, eo, qo⟩ := hS1 I1 s l z hR
  rw [hv1] at qo
  obtain ⟨I2, z2, rfl, r2, hz2, hS2, f2⟩ := qo
  refine (ix_46 (S' := [(.inl 1)]) rfl (sh_161 hS) eo rfl rfl (ex_if1 (fun _ => ?_) (fun hc => by exfalso; revert hc; decide)))
  refine (ex_6_0 (ix_41r (sh_161 hS) (pt_161_1 hS) (ex_3 (ix_46 (S' := [(.inl (-1))]) rfl (sh_169 hS) (k_ov_17 hS (RS_K r2) hB (RS_T r2) (RS_s r2) (v := (-1)) (oo_Cn hv)) rfl rfl (ex_7_3 rfl (ex_4_3 (ex_0 (ex_ic1 (fun hc => by exfalso; revert hc; decide) (fun _ => ?_)))))))))
  refine (ex_6_0 (ix_46 (S' := [(.inl 0)]) rfl (sh_161 hS) (k_fail hS (RS_T r2).2.2.1) rfl rfl ?_))
  exact ex_57 (by decide) (QR_inl (by unfold px_plain0; rw [if_neg h40]; unfold px_cmp; simp only [hv1, hv]; rfl) u2_e (TKF_RFr hF (RFr_trans f2 RFr_fail (Nat.le_refl _)) (Nat.le_refl _)))
theorem kq_s2x {d : Nat} {G : am_G} {I I1 : Nat → Nat → Int} {P : Nat → Nat → Option Nat} (hS : ST G P) {b : Nat → Int} {n : Nat} (hB : TB b n) {od : Bool} {s l z c s0 : Nat} (hR : RS I1 P b n od s l z) (hF : TKF I I1) (h0 : s0 ≤ s) (hc0 : 0 < c → s0 < s) (hz0 : z ≤ s0) {T : Option (Nat → Nat → Rs)} {S : Nat → Nat → Rs} {br j : Int} (hbr : 0 ≤ br ∧ br ≤ 8) {D E : Nat} (hDE : E + 1 ≤ D)  (h40 : ¬ tk b n s = [40]) (hS1 : KItd G P b n od (d + 6) 70 br E S) {s2 l2 : Nat} {f : Fn} (hv1 : S s l = .inr (s2, l2, f)) {o : Int} (hv : opC b n s2 = some o) {x : Nat} (hv2 : S (nx b n s2) l2 = .inl x) : am_ex (am_call am_B am_M (d + 6)) (am_B 69) (am_B 69 7) [some (.inr (.inr (some 161))), some (.inl br), some (.inl (tn c 0)), some (.inl j)] [] (G, I1, P) (QR G P b n od I z s0 D (px_not c (px_plain0 b n T S s l))) := by
  have hn4 := hB.1
  have hs := RS_s hR
  have hzs := RS_z hR
  have hoo := oo_C hv
  refine (ex_6_0 (ix_41r (sh_161 hS) (pt_161_1 hS) (ex_3 (ix_46 (S' := [(.inl 0)]) rfl (sh_169 hS) (k_is_15_f hS (RS_K hR) hB (RS_T hR) (RS_s hR) h40) rfl rfl (ex_if0 (fun _ => ?_) (fun hc => by exfalso; revert hc; decide))))))
  refine (ex_6_0 (ex_4_1 ?_))
  have hlt2 : s2 < n := by
    obtain ⟨o_, eo, qo⟩ := hS1 I1 s l z hR
    rw [hv1] at qo
    obtain ⟨I2, z2, rfl, r2, -, -, -⟩ := qo
    exact (opC_ok s2 o (RS_s r2) hv).1
  have hnx2 := nx_2 (b := b) s2 hlt2
  obtain ⟨o_, eo, qo⟩ := hS1 I1 s l z hR
  rw [hv1] at qo
  obtain ⟨I2, z2, rfl, r2, hz2, hS2, f2⟩ := qo
  refine (ix_46 (S' := [(.inl 1)]) rfl (sh_161 hS) eo rfl rfl (ex_if1 (fun _ => ?_) (fun hc => by exfalso; revert hc; decide)))
  refine (ex_6_0 (ix_41r (sh_161 hS) (pt_161_1 hS) (ex_3 (ix_46 (S' := [(.inl (o - 25))]) rfl (sh_169 hS) (k_ov_17 hS (RS_K r2) hB (RS_T r2) (RS_s r2) (v := (o - 25)) hoo.1) rfl rfl (ex_7_3 rfl (ex_4_3 (ex_0 ?_)))))))
  refine ex_ic1 (fun hc119 => ?_) (fun hc119 => by exfalso; omega)
  refine (ex_6_0 (ix_41r (sh_161 hS) (pt_161_1 hS) ?_))
  obtain ⟨I3, e3, r3, f3⟩ := RS_step (d := d + 4) hS hB r2 hlt2
  refine (ix_46 (S' := []) rfl (sh_169 hS) e3 rfl rfl (ex_6_0 (ex_4_1 ?_)))
  obtain ⟨o4, eo4, qo4⟩ := hS1 I3 (nx b n s2) l2 z2 r3
  rw [hv2] at qo4
  obtain ⟨I4, rfl, hx4, f4⟩ := qo4
  refine (ix_46 (S' := [(.inl 0)]) rfl (sh_161 hS) eo4 rfl rfl (ex_if1 (fun hc => by exfalso; revert hc; decide) (fun _ => ?_)))
  refine (ex_0 ?_)
  exact ex_57 (by decide) (QR_inl (by unfold px_plain0; rw [if_neg h40]; unfold px_cmp; simp only [hv1, hv, hv2]; rfl) hx4 (TKF_RFr hF (RFr_trans f2 (RFr_trans (RFr_TKF f3) f4 (by have := hS2.1; omega)) (Nat.le_refl _)) (Nat.le_refl _)))
theorem kq_s2s {d : Nat} {G : am_G} {I I1 : Nat → Nat → Int} {P : Nat → Nat → Option Nat} (hS : ST G P) {b : Nat → Int} {n : Nat} (hB : TB b n) {od : Bool} {s l z c s0 : Nat} (hR : RS I1 P b n od s l z) (hF : TKF I I1) (h0 : s0 ≤ s) (hc0 : 0 < c → s0 < s) (hz0 : z ≤ s0) {T : Option (Nat → Nat → Rs)} {S : Nat → Nat → Rs} {br j : Int} (hbr : 0 ≤ br ∧ br ≤ 8) {D E : Nat} (hDE : E + 1 ≤ D)  (h40 : ¬ tk b n s = [40]) (hS1 : KItd G P b n od (d + 6) 70 br E S) {s2 l2 : Nat} {f : Fn} (hv1 : S s l = .inr (s2, l2, f)) {o : Int} (hv : opC b n s2 = some o) {s4 l4 : Nat} {g : Fn} (hv2 : S (nx b n s2) l2 = .inr (s4, l4, g)) : am_ex (am_call am_B am_M (d + 6)) (am_B 69) (am_B 69 7) [some (.inr (.inr (some 161))), some (.inl br), some (.inl (tn c 0)), some (.inl j)] [] (G, I1, P) (QR G P b n od I z s0 D (px_not c (px_plain0 b n T S s l))) := by
  have hn4 := hB.1
  have hs := RS_s hR
  have hzs := RS_z hR
  have hoo := oo_C hv
  refine (ex_6_0 (ix_41r (sh_161 hS) (pt_161_1 hS) (ex_3 (ix_46 (S' := [(.inl 0)]) rfl (sh_169 hS) (k_is_15_f hS (RS_K hR) hB (RS_T hR) (RS_s hR) h40) rfl rfl (ex_if0 (fun _ => ?_) (fun hc => by exfalso; revert hc; decide))))))
  refine (ex_6_0 (ex_4_1 ?_))
  have hlt2 : s2 < n := by
    obtain ⟨o_, eo, qo⟩ := hS1 I1 s l z hR
    rw [hv1] at qo
    obtain ⟨I2, z2, rfl, r2, -, -, -⟩ := qo
    exact (opC_ok s2 o (RS_s r2) hv).1
  have hnx2 := nx_2 (b := b) s2 hlt2
  obtain ⟨o_, eo, qo⟩ := hS1 I1 s l z hR
  rw [hv1] at qo
  obtain ⟨I2, z2, rfl, r2, hz2, hS2, f2⟩ := qo
  refine (ix_46 (S' := [(.inl 1)]) rfl (sh_161 hS) eo rfl rfl (ex_if1 (fun _ => ?_) (fun hc => by exfalso; revert hc; decide)))
  refine (ex_6_0 (ix_41r (sh_161 hS) (pt_161_1 hS) (ex_3 (ix_46 (S' := [(.inl (o - 25))]) rfl (sh_169 hS) (k_ov_17 hS (RS_K r2) hB (RS_T r2) (RS_s r2) (v := (o - 25)) hoo.1) rfl rfl (ex_7_3 rfl (ex_4_3 (ex_0 ?_)))))))
  refine ex_ic1 (fun hc119 => ?_) (fun hc119 => by exfalso; omega)
  refine (ex_6_0 (ix_41r (sh_161 hS) (pt_161_1 hS) ?_))
  obtain ⟨I3, e3, r3, f3⟩ := RS_step (d := d + 4) hS hB r2 hlt2
  refine (ix_46 (S' := []) rfl (sh_169 hS) e3 rfl rfl (ex_6_0 (ex_4_1 ?_)))
  obtain ⟨o4, eo4, qo4⟩ := hS1 I3 (nx b n s2) l2 z2 r3
  rw [hv2] at qo4
  obtain ⟨I4, z4, rfl, r4, hz4, hS4, f4⟩ := qo4
  refine (ix_46 (S' := [(.inl 1)]) rfl (sh_161 hS) eo4 rfl rfl (ex_if1 (fun _ => ?_) (fun hc => by exfalso; revert hc; decide)))
  refine (ex_6_0 (ix_41r (sh_161 hS) (pt_161_0 hS) (ex_0 (ex_4_3 (ex_11e (v := (((o - 14).toNat : Nat) : Int)) ((am_add ⟨by omega, by omega⟩).trans (by omega)) (ex_0 (ix_46 (S' := []) rfl (sh_162 hS) (k_add hS (z := z4) (sg := (o - 14).toNat) (tl := 0) (RS_7 r4) (by have := RS_s r4; have := RS_z r4; omega) (by omega) (by decide)) rfl rfl (ex_58 ?_))))))))
  have h12 := hS2.1
  have h14 := hS4.1
  have hz4s := RS_z r4
  have hz2s := RS_z r2
  have hrow : ∀ j, j < z4 → (am_u2 (am_u2 I4 168 z4 ((0 * 16 + (o - 14).toNat : Nat) : Int)) 162 7 ((z4 : Int) + 1)) 168 j = I4 168 j := fun j hj => (u2_q (by decide)).trans (u2_k (by omega))
  have hb := SG_bin (s := (o - 14).toNat) (SG_congr hS2 (F1 := (am_u2 (am_u2 I4 168 z4 ((0 * 16 + (o - 14).toNat : Nat) : Int)) 162 7 ((z4 : Int) + 1)) 168) (fun j a c => (hrow j (by omega)).trans ((f4 168 j (by omega) (by omega) (by omega) (by omega)).trans (f3 168 j (by omega))))) (SG_congr hS4 (F1 := (am_u2 (am_u2 I4 168 z4 ((0 * 16 + (o - 14).toNat : Nat) : Int)) 162 7 ((z4 : Int) + 1)) 168) (fun j a c => hrow j c)) ((u2_q (by decide)).trans u2_e) ⟨by omega, by omega⟩
  rw [show (((o - 14).toNat : Nat) : Int) + 14 = o by omega] at hb
  exact lr_turn hS hB (RS_add r4 (by omega) (by omega)) (by split <;> omega) (fun _ => by omega) (SG_more hb (by omega)) (cmp_01 (by omega)) (TKF_RFr hF (RFr_trans f2 (RFr_trans (RFr_TKF f3) (RFr_trans f4 (RFr_add (by omega)) (Nat.le_refl _)) (Nat.le_refl _)) (by omega)) (Nat.le_refl _)) (by unfold px_plain0; rw [if_neg h40]; unfold px_cmp; simp only [hv1, hv, hv2])
theorem nts_c {b : Nat → Int} {n : Nat} : ∀ k s, s ≤ n → 0 < (nts b n k s).2 → s < (nts b n k s).1
  | 0, s, h, h2 => absurd h2 (by show ¬ 0 < 0; decide)
  | k + 1, s, h, h2 => by
    unfold nts at h2 ⊢
    split
    · rename_i e
      have h3 := nx_2 (b := b) s (tk_lt h e)
      have h4 := nts_ok (b := b) k (nx b n s) h3.2
      show s < (nts b n k (nx b n s)).1
      omega
    · rename_i e
      rw [if_neg e] at h2
      exact absurd h2 (by show ¬ 0 < 0; decide)
theorem kr_plain {d : Nat} {G : am_G} {P : Nat → Nat → Option Nat} (hS : ST G P) {b : Nat → Int} {n : Nat} (hB : TB b n) {od : Bool} {T : Option (Nat → Nat → Rs)} {S : Nat → Nat → Rs} {br : Int} (hbr : 0 ≤ br ∧ br ≤ 8) {D E : Nat} (hDE : E + 1 ≤ D) (hS1 : KItd G P b n od (d + 6) 70 br E S) (h0 : T = none → br = 8) (h1 : ∀ g, T = some g → br < 8 ∧ KItd G P b n od (d + 6) 67 (br + 1) D g ∧ IG n Vt g) : KItd G P b n od (d + 7) 69 br D (px_plain b n T S) := by
  intro I s l z hR
  refine am_doQ (L := [some (.inr (.inr (some 161))), some (.inl br), none, none]) (Nat.le_of_ble_eq_true rfl) rfl ?_
  refine ex_0 (ex_7_2 rfl (ex_0 (ex_7_3 rfl (ex_58 ?_))))
  refine lr_not (I := I) hS hB 400 0 I s 0 rfl (Or.inl rfl) hR (fun _ _ _ => rfl) (fun I1 j hR1 hF => ?_)
  have hok := nts_ok (b := b) (n := n) 400 s (RS_s hR)
  have hnc := nts_c (b := b) (n := n) 400 s (RS_s hR)
  show am_ex _ _ _ _ _ _ (QR G P b n od I z s D (px_not (nts b n 400 s).2 (px_plain0 b n T S (nts b n 400 s).1 l)))
  generalize (nts b n 400 s).1 = s1 at *
  generalize (nts b n 400 s).2 = c at *
  by_cases h40 : tk b n s1 = [40]
  · cases hTe : T with
    | none => exact kq_bn hS hB hR1 hF hok.1 hnc (RS_z hR) hbr hDE h40 (h0 hTe) rfl
    | some g =>
      obtain ⟨hb8, hg, hGg⟩ := h1 g hTe
      have hnx := nx_2 (b := b) s1 (tk_lt hok.2 h40)
      have hgi := hGg (nx b n s1) l hnx.2 (RS_l hR)
      cases hgv : g (nx b n s1) l with
      | inl x => exact kq_bx hS hB hR1 hF hok.1 hnc (RS_z hR) hbr hDE h40 hb8 rfl hg hgv
      | inr q =>
        obtain ⟨s3, l3, f⟩ := q
        rw [hgv] at hgi
        by_cases hcl : tk b n s3 = [41]
        · exact kq_bs hS hB hR1 hF hok.1 hnc (RS_z hR) hbr hDE h40 hb8 rfl hg hgv hcl hgi.2.2.2.2
        · exact kq_bc hS hB hR1 hF hok.1 hnc (RS_z hR) hbr hDE h40 hb8 rfl hg hgv hcl
  · cases hv1 : S s1 l with
    | inl x => exact kq_s1x hS hB hR1 hF hok.1 hnc (RS_z hR) hbr hDE h40 hS1 hv1
    | inr q =>
      obtain ⟨s2, l2, f⟩ := q
      cases hv : opC b n s2 with
      | none => exact kq_cn hS hB hR1 hF hok.1 hnc (RS_z hR) hbr hDE h40 hS1 hv1 hv
      | some o =>
        cases hv2 : S (nx b n s2) l2 with
        | inl x => exact kq_s2x hS hB hR1 hF hok.1 hnc (RS_z hR) hbr hDE h40 hS1 hv1 hv hv2
        | inr q => obtain ⟨s4, l4, g⟩ := q; exact kq_s2s hS hB hR1 hF hok.1 hnc (RS_z hR) hbr hDE h40 hS1 hv1 hv hv2
theorem kr_tests {G : am_G} {P : Nat → Nat → Option Nat} (hS : ST G P) {b : Nat → Int} {n : Nat} (hB : TB b n) {od : Bool} : ∀ (r d : Nat), r ≤ 8 → KItd G P b n od (d + 3 * r + 12) 67 (8 - (r : Int)) (2 * r + 4) (px_test b n od r)
  | 0, d, _ => by
    have hs := kr_sums hS hB (od := od) 0 d (by omega)
    have hp := kr_plain (d := d + 3) (D := 4) (E := 3) (br := 8) hS hB (od := od) (T := none) (by omega) (by omega) hs (fun _ => rfl) (fun g e => by cases e)
    exact kr_test (d := d + 5) hS hB (kr_both (d := d + 4) hS hB hp (px_plain_ok (fun g e => by cases e) (px_sum_ok 0))) (px_both_ok (fun g e => by cases e) (px_sum_ok 0))
  | r + 1, d, h => by
    have ih := kr_tests hS hB (od := od) r d (by omega)
    have hs := kr_sums hS hB (od := od) (r + 1) d h
    have hp := kr_plain (d := d + 3 * r + 6) (D := 2 * (r + 1) + 4) (E := 2 * (r + 1) + 3) (br := 8 - ((r + 1 : Nat) : Int)) hS hB (od := od) (T := some (px_test b n od r)) (S := px_sum b n od (r + 1)) (by omega) (by omega) (by rw [show d + 3 * r + 6 + 6 = d + 3 * (r + 1) + 9 by omega]; exact hs) (fun e => by cases e) (fun g e => by
      cases e
      refine ⟨by omega, ?_, px_test_ok r⟩
      rw [show (8 - ((r + 1 : Nat) : Int)) + 1 = 8 - (r : Int) by omega]
      intro I s l z hR
      obtain ⟨o, eo, qo⟩ := ih I s l z hR
      refine ⟨o, eo, ?_⟩
      cases hv : px_test b n od r s l with
      | inl x => rw [hv] at qo; exact qo
      | inr q =>
        obtain ⟨s3, l3, f⟩ := q
        rw [hv] at qo
        obtain ⟨I3, z3, e3, r3, hz3, hS3, f3⟩ := qo
        exact ⟨I3, z3, e3, r3, hz3, SG_more hS3 (by omega), f3⟩)
    have hT : ∀ g, (some (px_test b n od r)) = some g → IG n Vt g := fun g e => by cases e; exact px_test_ok r
    have := kr_test (d := d + 3 * r + 8) hS hB (kr_both (d := d + 3 * r + 7) hS hB hp (px_plain_ok hT (px_sum_ok (r + 1)))) (px_both_ok hT (px_sum_ok (r + 1)))
    rw [show d + 3 * (r + 1) + 12 = d + 3 * r + 8 + 7 by omega]
    exact this
