/-! ===== the class reads sums ===== -/
section
variable {G : am_G} {P : Nat → Nat → Option Nat} {b : Nat → Int} {n : Nat} {od : Bool} {I : Nat → Nat → Int} {z s0 D : Nat} {r : Rs}
theorem QR_inr {s' l' z2 : Nat} {g : Fn} {I2 : Nat → Nat → Int} (h : r = .inr (s', l', g)) (h1 : RS I2 P b n od s' l' z2) (h2 : z2 + s0 ≤ z + s') (h3 : SG od (I2 168) z z2 D g) (h4 : RFr z I I2) : QR G P b n od I z s0 D r (some (.inl 1), (G, I2, P)) := by
  subst h
  exact ⟨I2, z2, rfl, h1, h2, h3, h4⟩
theorem QR_inl {x : Nat} {I2 : Nat → Nat → Int} (h : r = .inl x) (h1 : I2 161 4 = (x : Int)) (h2 : RFr z I I2) : QR G P b n od I z s0 D r (some (.inl 0), (G, I2, P)) := by
  subst h
  exact ⟨I2, rfl, h1, h2⟩
end
def KItd (G : am_G) (P : Nat → Nat → Option Nat) (b : Nat → Int) (n : Nat) (od : Bool) (dd y : Nat) (br : Int) (D : Nat) (p : Nat → Nat → Rs) : Prop := ∀ (I : Nat → Nat → Int) (s l z : Nat), RS I P b n od s l z → ∃ o, am_call am_B am_M dd y [.inr (.inr (some 161)), .inl br] (G, I, P) = some o ∧ QR G P b n od I z s D (p s l) o
theorem oo_M {b : Nat → Int} {n s : Nat} {o : Int} (h : opM b n s = some o) : ooI [[42], [47], [37]] 0 (tk b n s) = o - 22 ∧ 22 ≤ o ∧ o ≤ 24 := by
  unfold opM at h
  simp only [ooI]
  split at h
  · rename_i e; cases h; rw [if_pos e]; decide
  · rename_i e1
    rw [if_neg e1]
    split at h
    · rename_i e; cases h; rw [if_pos e]; decide
    · rename_i e2
      rw [if_neg e2]
      split at h
      · rename_i e; cases h; rw [if_pos e]; decide
      · cases h
theorem oo_Mn {b : Nat → Int} {n s : Nat} (h : opM b n s = none) : ooI [[42], [47], [37]] 0 (tk b n s) = -1 := by
  unfold opM at h
  simp only [ooI]
  split at h
  · cases h
  · rename_i e1
    rw [if_neg e1]
    split at h
    · cases h
    · rename_i e2
      rw [if_neg e2]
      split at h
      · cases h
      · rename_i e3
        rw [if_neg e3]
theorem oo_A {b : Nat → Int} {n s : Nat} {o : Int} (h : opA b n s = some o) : ooI [[43], [45]] 0 (tk b n s) = o - 20 ∧ 20 ≤ o ∧ o ≤ 21 := by
  unfold opA at h
  simp only [ooI]
  split at h
  · rename_i e; cases h; rw [if_pos e]; decide
  · rename_i e1
    rw [if_neg e1]
    split at h
    · rename_i e; cases h; rw [if_pos e]; decide
    · cases h
theorem oo_An {b : Nat → Int} {n s : Nat} (h : opA b n s = none) : ooI [[43], [45]] 0 (tk b n s) = -1 := by
  unfold opA at h
  simp only [ooI]
  split at h
  · cases h
  · rename_i e1
    rw [if_neg e1]
    split at h
    · cases h
    · rename_i e2
      rw [if_neg e2]
theorem oo_C {b : Nat → Int} {n s : Nat} {o : Int} (h : opC b n s = some o) : ooI [[60], [62], [61]] 0 (tk b n s) = o - 25 ∧ 25 ≤ o ∧ o ≤ 27 := by
  unfold opC at h
  simp only [ooI]
  split at h
  · rename_i e; cases h; rw [if_pos e]; decide
  · rename_i e1
    rw [if_neg e1]
    split at h
    · rename_i e; cases h; rw [if_pos e]; decide
    · rename_i e2
      rw [if_neg e2]
      split at h
      · rename_i e; cases h; rw [if_pos e]; decide
      · cases h
theorem oo_Cn {b : Nat → Int} {n s : Nat} (h : opC b n s = none) : ooI [[60], [62], [61]] 0 (tk b n s) = -1 := by
  unfold opC at h
  simp only [ooI]
  split at h
  · cases h
  · rename_i e1
    rw [if_neg e1]
    split at h
    · cases h
    · rename_i e2
      rw [if_neg e2]
      split at h
      · cases h
      · rename_i e3
        rw [if_neg e3]
theorem k_which_t {d : Nat} {G : am_G} {I : Nat → Nat → Int} {P : Nat → Nat → Option Nat} (hS : ST G P) {b : Nat → Int} {n : Nat} (hB : TB b n) {od : Bool} {s l z : Nat} (hR : RS I P b n od s l z) {fi mo : Nat} (hod : od = true) (hfm : fi + mo ≤ 16) (h : 0 ≤ num b n s ∧ num b n s < (mo : Int)) : ∃ o, am_call am_B am_M (d + 3) 73 [(.inr (.inr (some 161))), (.inl (fi : Int)), (.inl (mo : Int))] (G, I, P) = some o ∧ QR G P b n od I z s 1 (px_which b n fi mo s l) o := by
  have hn4 := hB.1
  have hs := RS_s hR
  have hzs := RS_z hR
  have hlt := num_lt (b := b) hs (by omega)
  have hnx := nx_2 (b := b) s hlt
  refine am_doQ (L := [some (.inr (.inr (some 161))), some (.inl (fi : Int)), some (.inl (mo : Int)), none]) (Nat.le_of_ble_eq_true rfl) rfl ?_
  refine (ex_6_0 (ix_41r (sh_161 hS) (pt_161_1 hS) (ix_46 (S' := [(.inl (num b n s))]) rfl (sh_169 hS) (k_number hS hB (RS_T hR) (RS_s hR)) rfl rfl (ex_7_3 rfl (ex_4_3 ?_)))))
  refine ex_if2 (fun hc9 => by exfalso; omega) (fun hc9 => ?_)
  refine (ex_4_3 (ex_4_2 ?_))
  refine ex_ic2 (fun hc14 => ?_) (fun hc14 => by exfalso; omega)
  refine (ex_6_0 (ix_41r (sh_161 hS) (pt_161_1 hS) ?_))
  obtain ⟨I2, e2, r2, f2⟩ := RS_step (d := d) hS hB hR hlt
  refine (ix_46 (S' := []) rfl (sh_169 hS) e2 rfl rfl (ex_6_0 (ix_41r (sh_161 hS) (pt_161_0 hS) (ex_0 (ex_4_1 (ex_4_3 (ex_11e (v := ((fi + (num b n s).toNat : Nat) : Int)) ((am_add ⟨by omega, by omega⟩).trans (by omega)) (ix_46 (S' := []) rfl (sh_162 hS) (k_add hS (z := z) (sg := 2) (tl := (fi + (num b n s).toNat)) (RS_7 r2) (by omega) (by omega) (by omega)) rfl rfl (ex_0 ?_)))))))))
  exact ex_57 (by decide) (QR_inr (z2 := z + 1) (by unfold px_which; rw [if_pos h]) (RS_add r2 (by omega) (by omega)) (by omega) (SG_word (u2_q (by decide) |>.trans u2_e) (by unfold nwo; rw [if_pos hod]; omega)) (RFr_trans (RFr_TKF f2) (RFr_add (Nat.le_refl _)) (Nat.le_refl _)))
theorem k_which_f {d : Nat} {G : am_G} {I : Nat → Nat → Int} {P : Nat → Nat → Option Nat} (hS : ST G P) {b : Nat → Int} {n : Nat} (hB : TB b n) {od : Bool} {s l z : Nat} (hR : RS I P b n od s l z) {fi mo : Nat} (hod : od = true) (hfm : fi + mo ≤ 16) (h : ¬ (0 ≤ num b n s ∧ num b n s < (mo : Int))) : ∃ o, am_call am_B am_M (d + 3) 73 [(.inr (.inr (some 161))), (.inl (fi : Int)), (.inl (mo : Int))] (G, I, P) = some o ∧ QR G P b n od I z s 1 (px_which b n fi mo s l) o := by
  refine am_doQ (L := [some (.inr (.inr (some 161))), some (.inl (fi : Int)), some (.inl (mo : Int)), none]) (Nat.le_of_ble_eq_true rfl) rfl ?_
  refine (ex_6_0 (ix_41r (sh_161 hS) (pt_161_1 hS) (ix_46 (S' := [(.inl (num b n s))]) rfl (sh_169 hS) (k_number hS hB (RS_T hR) (RS_s hR)) rfl rfl (ex_7_3 rfl (ex_4_3 ?_)))))
  refine ex_if2 (fun hc9 => ?_) (fun hc9 => ?_)
  · refine (ex_6_0 (ix_46 (S' := [(.inl 0)]) rfl (sh_161 hS) (k_fail hS (RS_T hR).2.2.1) rfl rfl ?_))
    exact ex_57 (by decide) (QR_inl (by unfold px_which; rw [if_neg h]) u2_e RFr_fail)
  · refine (ex_4_3 (ex_4_2 ?_))
    refine ex_ic2 (fun hc14 => by exfalso; omega) (fun hc14 => ?_)
    refine (ex_6_0 (ix_46 (S' := [(.inl 0)]) rfl (sh_161 hS) (k_fail hS (RS_T hR).2.2.1) rfl rfl ?_))
    exact ex_57 (by decide) (QR_inl (by unfold px_which; rw [if_neg h]) u2_e RFr_fail)
theorem k_which {d : Nat} {G : am_G} {I : Nat → Nat → Int} {P : Nat → Nat → Option Nat} (hS : ST G P) {b : Nat → Int} {n : Nat} (hB : TB b n) {od : Bool} {s l z : Nat} (hR : RS I P b n od s l z) {fi mo : Nat} (hod : od = true) (hfm : fi + mo ≤ 16) : ∃ o, am_call am_B am_M (d + 3) 73 [.inr (.inr (some 161)), .inl (fi : Int), .inl (mo : Int)] (G, I, P) = some o ∧ QR G P b n od I z s 1 (px_which b n fi mo s l) o := by
  by_cases h : 0 ≤ num b n s ∧ num b n s < (mo : Int)
  · exact k_which_t hS hB hR hod hfm h
  · exact k_which_f hS hB hR hod hfm h
theorem lr_term {d : Nat} {G : am_G} {I : Nat → Nat → Int} {P : Nat → Nat → Option Nat} (hS : ST G P) {b : Nat → Int} {n : Nat} (hB : TB b n) {od : Bool} {it : Nat → Nat → Rs} {br : Int} {D E : Nat} (hDE : E + 1 ≤ D) (hit : KItd G P b n od (d + 6) 72 br E it) {z s0 : Nat} : ∀ (k i : Nat) (I1 : Nat → Nat → Int) (s l z1 : Nat) (f : Fn) (e3 : Option am_V), i + k = 400 → RS I1 P b n od s l z1 → z1 + s0 ≤ z + s → SG od (I1 168) z z1 D f → RFr z I I1 → am_ex (am_call am_B am_M (d + 6)) (am_B 71) (am_B 71 3) [some (.inr (.inr (some 161))), some (.inl br), some (.inl (i : Int)), e3] [] (G, I1, P) (QR G P b n od I z s0 D (px_loop (opM b n) it (nx b n) k s l f)) := by
  have hn4 := hB.1
  intro k
  induction k with
  | zero =>
    intro i I1 s l z1 f e3 hi hR hzs hSG hF
    refine (ex_4_2 (ex_0 ?_))
    refine ex_ic3 (fun hc16 => ?_) (fun hc16 => by exfalso; omega)
    refine (ex_0 ?_)
    exact ex_57 (by decide) (QR_inr (by simp only [px_loop]) hR hzs hSG hF)
  | succ k ih =>
    intro i I1 s l z1 f e3 hi hR hzs hSG hF
    have hs := RS_s hR
    have hz1 := RS_z hR
    cases ht : opM b n s with
    | none =>
      refine (ex_4_2 (ex_0 ?_))
      refine ex_ic3 (fun hc16 => by exfalso; omega) (fun hc16 => ?_)
      refine (ex_6_0 (ix_41r (sh_161 hS) (pt_161_1 hS) (ex_3 (ix_46 (S' := [(.inl (-1))]) rfl (sh_169 hS) (k_ov_9 hS (RS_K hR) hB (RS_T hR) (RS_s hR) (v := (-1)) (oo_Mn ht)) rfl rfl (ex_7_3 rfl (ex_4_3 (ex_0 (ex_ic1 (fun hc => by exfalso; revert hc; decide) (fun _ => ?_)))))))))
      refine (ex_0 ?_)
      exact ex_57 (by decide) (QR_inr (by simp only [px_loop, ht]) hR hzs hSG hF)
    | some o =>
      have hoo := oo_M ht
      have hlt := (opM_ok s o hs ht).1
      have hnx := nx_2 (b := b) s hlt
      cases hii : it (nx b n s) l with
      | inl x =>
        refine (ex_4_2 (ex_0 ?_))
        refine ex_ic3 (fun hc16 => by exfalso; omega) (fun hc16 => ?_)
        refine (ex_6_0 (ix_41r (sh_161 hS) (pt_161_1 hS) (ex_3 (ix_46 (S' := [(.inl (o - 22))]) rfl (sh_169 hS) (k_ov_9 hS (RS_K hR) hB (RS_T hR) (RS_s hR) (v := (o - 22)) hoo.1) rfl rfl (ex_7_3 rfl (ex_4_3 (ex_0 ?_)))))))
        refine ex_ic1 (fun hc31 => ?_) (fun hc31 => by exfalso; omega)
        refine (ex_6_0 (ix_41r (sh_161 hS) (pt_161_1 hS) ?_))
        obtain ⟨I2, e2, r2, f2⟩ := RS_step (d := d + 4) hS hB hR hlt
        refine (ix_46 (S' := []) rfl (sh_169 hS) e2 rfl rfl (ex_6_0 (ex_4_1 ?_)))
        obtain ⟨o_, eo, qo⟩ := hit I2 (nx b n s) l z1 r2
        rw [hii] at qo
        obtain ⟨I3, rfl, hx3, f3⟩ := qo
        refine (ix_46 (S' := [(.inl 0)]) rfl (sh_161 hS) eo rfl rfl (ex_if1 (fun hc => by exfalso; revert hc; decide) (fun _ => ?_)))
        refine (ex_0 ?_)
        exact ex_57 (by decide) (QR_inl (by simp only [px_loop, ht, hii]) hx3 (RFr_trans hF (RFr_trans (RFr_TKF f2) f3 (Nat.le_refl _)) (by have := hSG.1; omega)))
      | inr q =>
        obtain ⟨s3, l3, g⟩ := q
        refine (ex_4_2 (ex_0 ?_))
        refine ex_ic3 (fun hc16 => by exfalso; omega) (fun hc16 => ?_)
        refine (ex_6_0 (ix_41r (sh_161 hS) (pt_161_1 hS) (ex_3 (ix_46 (S' := [(.inl (o - 22))]) rfl (sh_169 hS) (k_ov_9 hS (RS_K hR) hB (RS_T hR) (RS_s hR) (v := (o - 22)) hoo.1) rfl rfl (ex_7_3 rfl (ex_4_3 (ex_0 ?_)))))))
        refine ex_ic1 (fun hc31 => ?_) (fun hc31 => by exfalso; omega)
        refine (ex_6_0 (ix_41r (sh_161 hS) (pt_161_1 hS) ?_))
        obtain ⟨I2, e2, r2, f2⟩ := RS_step (d := d + 4) hS hB hR hlt
        refine (ix_46 (S' := []) rfl (sh_169 hS) e2 rfl rfl (ex_6_0 (ex_4_1 ?_)))
        obtain ⟨o_, eo, qo⟩ := hit I2 (nx b n s) l z1 r2
        rw [hii] at qo
        obtain ⟨I3, z3, rfl, r3, hz3, hS3, f3⟩ := qo
        refine (ix_46 (S' := [(.inl 1)]) rfl (sh_161 hS) eo rfl rfl (ex_if1 (fun _ => ?_) (fun hc => by exfalso; revert hc; decide)))
        refine (ex_6_0 (ix_41r (sh_161 hS) (pt_161_0 hS) (ex_0 (ex_4_3 (ex_11e (v := (((o - 14).toNat : Nat) : Int)) ((am_add ⟨by omega, by omega⟩).trans (by omega)) (ex_0 (ix_46 (S' := []) rfl (sh_162 hS) (k_add hS (z := z3) (sg := (o - 14).toNat) (tl := 0) (RS_7 r3) (by have := RS_s r3; have := RS_z r3; omega) (by omega) (by omega)) rfl rfl (ex_10_2 ⟨by omega, by omega⟩ rfl (ex_28 ?_)))))))))
        have hs3 := RS_s r3
        have hz3s := RS_z r3
        rw [show px_loop (opM b n) it (nx b n) (k + 1) s l f = px_loop (opM b n) it (nx b n) k s3 l3 (cmb o f g) from by simp only [px_loop, ht, hii]]
        have h13 := hSG.1
        have h33 := hS3.1
        have hrow : ∀ j, j < z3 → (am_u2 (am_u2 I3 168 z3 ((0 * 16 + (o - 14).toNat : Nat) : Int)) 162 7 ((z3 : Int) + 1)) 168 j = I3 168 j := fun j hj => (u2_q (by decide)).trans (u2_k (by omega))
        have hr1 : ∀ j, j < z1 → I3 168 j = I1 168 j := fun j hj => (f3 168 j (by omega) (by omega) (by omega) (by omega)).trans (f2 168 j (by omega))
        have hb := SG_bin (s := (o - 14).toNat) (SG_congr hSG (F1 := (am_u2 (am_u2 I3 168 z3 ((0 * 16 + (o - 14).toNat : Nat) : Int)) 162 7 ((z3 : Int) + 1)) 168) (fun j a c => (hrow j (by omega)).trans (hr1 j c))) (SG_congr hS3 (F1 := (am_u2 (am_u2 I3 168 z3 ((0 * 16 + (o - 14).toNat : Nat) : Int)) 162 7 ((z3 : Int) + 1)) 168) (fun j a c => hrow j c)) ((u2_q (by decide)).trans u2_e) ⟨by omega, by omega⟩
        rw [show (((o - 14).toNat : Nat) : Int) + 14 = o by omega] at hb
        exact ih (i + 1) (am_u2 (am_u2 I3 168 z3 ((0 * 16 + (o - 14).toNat : Nat) : Int)) 162 7 ((z3 : Int) + 1)) s3 l3 (z3 + 1) (cmb o f g) _ (by omega) (RS_add r3 (by omega) (by omega)) (by omega) (SG_more hb (by omega)) (RFr_trans hF (RFr_trans (RFr_TKF f2) (RFr_trans f3 (RFr_add (by omega)) (Nat.le_refl _)) (Nat.le_refl _)) (by omega))
theorem kr_term {d : Nat} {G : am_G} {P : Nat → Nat → Option Nat} (hS : ST G P) {b : Nat → Int} {n : Nat} (hB : TB b n) {od : Bool} {it : Nat → Nat → Rs} {br : Int} {D E : Nat} (hDE : E + 1 ≤ D) (hit : KItd G P b n od (d + 6) 72 br E it) : KItd G P b n od (d + 7) 71 br D (px_seq (opM b n) it (nx b n)) := by
  intro I s l z hR
  refine am_doQ (L := [some (.inr (.inr (some 161))), some (.inl br), none, none]) (Nat.le_of_ble_eq_true rfl) rfl ?_
  cases hii : it s l with
  | inl x =>
    refine (ex_6_0 (ex_4_1 ?_))
    obtain ⟨o_, eo, qo⟩ := hit I s l z hR
    rw [hii] at qo
    obtain ⟨I3, rfl, hx3, f3⟩ := qo
    refine (ix_46 (S' := [(.inl 0)]) rfl (sh_161 hS) eo rfl rfl (ex_if1 (fun hc => by exfalso; revert hc; decide) (fun _ => ?_)))
    refine (ex_0 ?_)
    exact ex_57 (by decide) (QR_inl (by simp only [px_seq, hii]) hx3 f3)
  | inr q =>
    obtain ⟨s3, l3, g⟩ := q
    refine (ex_6_0 (ex_4_1 ?_))
    obtain ⟨o_, eo, qo⟩ := hit I s l z hR
    rw [hii] at qo
    obtain ⟨I3, z3, rfl, r3, hz3, hS3, f3⟩ := qo
    refine (ix_46 (S' := [(.inl 1)]) rfl (sh_161 hS) eo rfl rfl (ex_if1 (fun _ => ?_) (fun hc => by exfalso; revert hc; decide)))
    refine (ex_0 (ex_7_2 rfl (ex_58 ?_)))
    rw [show px_seq (opM b n) it (nx b n) s l = px_loop (opM b n) it (nx b n) 400 s3 l3 g from by simp only [px_seq, hii]]
    exact lr_term hS hB hDE hit 400 0 I3 s3 l3 z3 g none rfl r3 hz3 (SG_more hS3 (by omega)) f3
theorem lr_sum {d : Nat} {G : am_G} {I : Nat → Nat → Int} {P : Nat → Nat → Option Nat} (hS : ST G P) {b : Nat → Int} {n : Nat} (hB : TB b n) {od : Bool} {it : Nat → Nat → Rs} {br : Int} {D E : Nat} (hDE : E + 1 ≤ D) (hit : KItd G P b n od (d + 6) 71 br E it) {z s0 : Nat} : ∀ (k i : Nat) (I1 : Nat → Nat → Int) (s l z1 : Nat) (f : Fn) (e3 : Option am_V), i + k = 400 → RS I1 P b n od s l z1 → z1 + s0 ≤ z + s → SG od (I1 168) z z1 D f → RFr z I I1 → am_ex (am_call am_B am_M (d + 6)) (am_B 70) (am_B 70 3) [some (.inr (.inr (some 161))), some (.inl br), some (.inl (i : Int)), e3] [] (G, I1, P) (QR G P b n od I z s0 D (px_loop (opA b n) it (nx b n) k s l f)) := by
  have hn4 := hB.1
  intro k
  induction k with
  | zero =>
    intro i I1 s l z1 f e3 hi hR hzs hSG hF
    refine (ex_4_2 (ex_0 ?_))
    refine ex_ic3 (fun hc16 => ?_) (fun hc16 => by exfalso; omega)
    refine (ex_0 ?_)
    exact ex_57 (by decide) (QR_inr (by simp only [px_loop]) hR hzs hSG hF)
  | succ k ih =>
    intro i I1 s l z1 f e3 hi hR hzs hSG hF
    have hs := RS_s hR
    have hz1 := RS_z hR
    cases ht : opA b n s with
    | none =>
      refine (ex_4_2 (ex_0 ?_))
      refine ex_ic3 (fun hc16 => by exfalso; omega) (fun hc16 => ?_)
      refine (ex_6_0 (ix_41r (sh_161 hS) (pt_161_1 hS) (ex_3 (ix_46 (S' := [(.inl (-1))]) rfl (sh_169 hS) (k_ov_10 hS (RS_K hR) hB (RS_T hR) (RS_s hR) (v := (-1)) (oo_An ht)) rfl rfl (ex_7_3 rfl (ex_4_3 (ex_0 (ex_ic1 (fun hc => by exfalso; revert hc; decide) (fun _ => ?_)))))))))
      refine (ex_0 ?_)
      exact ex_57 (by decide) (QR_inr (by simp only [px_loop, ht]) hR hzs hSG hF)
    | some o =>
      have hoo := oo_A ht
      have hlt := (opA_ok s o hs ht).1
      have hnx := nx_2 (b := b) s hlt
      cases hii : it (nx b n s) l with
      | inl x =>
        refine (ex_4_2 (ex_0 ?_))
        refine ex_ic3 (fun hc16 => by exfalso; omega) (fun hc16 => ?_)
        refine (ex_6_0 (ix_41r (sh_161 hS) (pt_161_1 hS) (ex_3 (ix_46 (S' := [(.inl (o - 20))]) rfl (sh_169 hS) (k_ov_10 hS (RS_K hR) hB (RS_T hR) (RS_s hR) (v := (o - 20)) hoo.1) rfl rfl (ex_7_3 rfl (ex_4_3 (ex_0 ?_)))))))
        refine ex_ic1 (fun hc31 => ?_) (fun hc31 => by exfalso; omega)
        refine (ex_6_0 (ix_41r (sh_161 hS) (pt_161_1 hS) ?_))
        obtain ⟨I2, e2, r2, f2⟩ := RS_step (d := d + 4) hS hB hR hlt
        refine (ix_46 (S' := []) rfl (sh_169 hS) e2 rfl rfl (ex_6_0 (ex_4_1 ?_)))
        obtain ⟨o_, eo, qo⟩ := hit I2 (nx b n s) l z1 r2
        rw [hii] at qo
        obtain ⟨I3, rfl, hx3, f3⟩ := qo
        refine (ix_46 (S' := [(.inl 0)]) rfl (sh_161 hS) eo rfl rfl (ex_if1 (fun hc => by exfalso; revert hc; decide) (fun _ => ?_)))
        refine (ex_0 ?_)
        exact ex_57 (by decide) (QR_inl (by simp only [px_loop, ht, hii]) hx3 (RFr_trans hF (RFr_trans (RFr_TKF f2) f3 (Nat.le_refl _)) (by have := hSG.1; omega)))
      | inr q =>
        obtain ⟨s3, l3, g⟩ := q
        refine (ex_4_2 (ex_0 ?_))
        refine ex_ic3 (fun hc16 => by exfalso; omega) (fun hc16 => ?_)
        refine (ex_6_0 (ix_41r (sh_161 hS) (pt_161_1 hS) (ex_3 (ix_46 (S' := [(.inl (o - 20))]) rfl (sh_169 hS) (k_ov_10 hS (RS_K hR) hB (RS_T hR) (RS_s hR) (v := (o - 20)) hoo.1) rfl rfl (ex_7_3 rfl (ex_4_3 (ex_0 ?_)))))))
        refine ex_ic1 (fun hc31 => ?_) (fun hc31 => by exfalso; omega)
        refine (ex_6_0 (ix_41r (sh_161 hS) (pt_161_1 hS) ?_))
        obtain ⟨I2, e2, r2, f2⟩ := RS_step (d := d + 4) hS hB hR hlt
        refine (ix_46 (S' := []) rfl (sh_169 hS) e2 rfl rfl (ex_6_0 (ex_4_1 ?_)))
        obtain ⟨o_, eo, qo⟩ := hit I2 (nx b n s) l z1 r2
        rw [hii] at qo
        obtain ⟨I3, z3, rfl, r3, hz3, hS3, f3⟩ := qo
        refine (ix_46 (S' := [(.inl 1)]) rfl (sh_161 hS) eo rfl rfl (ex_if1 (fun _ => ?_) (fun hc => by exfalso; revert hc; decide)))
        refine (ex_6_0 (ix_41r (sh_161 hS) (pt_161_0 hS) (ex_0 (ex_4_3 (ex_11e (v := (((o - 14).toNat : Nat) : Int)) ((am_add ⟨by omega, by omega⟩).trans (by omega)) (ex_0 (ix_46 (S' := []) rfl (sh_162 hS) (k_add hS (z := z3) (sg := (o - 14).toNat) (tl := 0) (RS_7 r3) (by have := RS_s r3; have := RS_z r3; omega) (by omega) (by omega)) rfl rfl (ex_10_2 ⟨by omega, by omega⟩ rfl (ex_28 ?_)))))))))
        have hs3 := RS_s r3
        have hz3s := RS_z r3
        rw [show px_loop (opA b n) it (nx b n) (k + 1) s l f = px_loop (opA b n) it (nx b n) k s3 l3 (cmb o f g) from by simp only [px_loop, ht, hii]]
        have h13 := hSG.1
        have h33 := hS3.1
        have hrow : ∀ j, j < z3 → (am_u2 (am_u2 I3 168 z3 ((0 * 16 + (o - 14).toNat : Nat) : Int)) 162 7 ((z3 : Int) + 1)) 168 j = I3 168 j := fun j hj => (u2_q (by decide)).trans (u2_k (by omega))
        have hr1 : ∀ j, j < z1 → I3 168 j = I1 168 j := fun j hj => (f3 168 j (by omega) (by omega) (by omega) (by omega)).trans (f2 168 j (by omega))
        have hb := SG_bin (s := (o - 14).toNat) (SG_congr hSG (F1 := (am_u2 (am_u2 I3 168 z3 ((0 * 16 + (o - 14).toNat : Nat) : Int)) 162 7 ((z3 : Int) + 1)) 168) (fun j a c => (hrow j (by omega)).trans (hr1 j c))) (SG_congr hS3 (F1 := (am_u2 (am_u2 I3 168 z3 ((0 * 16 + (o - 14).toNat : Nat) : Int)) 162 7 ((z3 : Int) + 1)) 168) (fun j a c => hrow j c)) ((u2_q (by decide)).trans u2_e) ⟨by omega, by omega⟩
        rw [show (((o - 14).toNat : Nat) : Int) + 14 = o by omega] at hb
        exact ih (i + 1) (am_u2 (am_u2 I3 168 z3 ((0 * 16 + (o - 14).toNat : Nat) : Int)) 162 7 ((z3 : Int) + 1)) s3 l3 (z3 + 1) (cmb o f g) _ (by omega) (RS_add r3 (by omega) (by omega)) (by omega) (SG_more hb (by omega)) (RFr_trans hF (RFr_trans (RFr_TKF f2) (RFr_trans f3 (RFr_add (by omega)) (Nat.le_refl _)) (Nat.le_refl _)) (by omega))
theorem kr_sum {d : Nat} {G : am_G} {P : Nat → Nat → Option Nat} (hS : ST G P) {b : Nat → Int} {n : Nat} (hB : TB b n) {od : Bool} {it : Nat → Nat → Rs} {br : Int} {D E : Nat} (hDE : E + 1 ≤ D) (hit : KItd G P b n od (d + 6) 71 br E it) : KItd G P b n od (d + 7) 70 br D (px_seq (opA b n) it (nx b n)) := by
  intro I s l z hR
  refine am_doQ (L := [some (.inr (.inr (some 161))), some (.inl br), none, none]) (Nat.le_of_ble_eq_true rfl) rfl ?_
  cases hii : it s l with
  | inl x =>
    refine (ex_6_0 (ex_4_1 ?_))
    obtain ⟨o_, eo, qo⟩ := hit I s l z hR
    rw [hii] at qo
    obtain ⟨I3, rfl, hx3, f3⟩ := qo
    refine (ix_46 (S' := [(.inl 0)]) rfl (sh_161 hS) eo rfl rfl (ex_if1 (fun hc => by exfalso; revert hc; decide) (fun _ => ?_)))
    refine (ex_0 ?_)
    exact ex_57 (by decide) (QR_inl (by simp only [px_seq, hii]) hx3 f3)
  | inr q =>
    obtain ⟨s3, l3, g⟩ := q
    refine (ex_6_0 (ex_4_1 ?_))
    obtain ⟨o_, eo, qo⟩ := hit I s l z hR
    rw [hii] at qo
    obtain ⟨I3, z3, rfl, r3, hz3, hS3, f3⟩ := qo
    refine (ix_46 (S' := [(.inl 1)]) rfl (sh_161 hS) eo rfl rfl (ex_if1 (fun _ => ?_) (fun hc => by exfalso; revert hc; decide)))
    refine (ex_0 (ex_7_2 rfl (ex_58 ?_)))
    rw [show px_seq (opA b n) it (nx b n) s l = px_loop (opA b n) it (nx b n) 400 s3 l3 g from by simp only [px_seq, hii]]
    exact lr_sum hS hB hDE hit 400 0 I3 s3 l3 z3 g none rfl r3 hz3 (SG_more hS3 (by omega)) f3
