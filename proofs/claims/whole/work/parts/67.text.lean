/-! ===== the class reads a whole text; a text is copied ===== -/
theorem ST_P {G : am_G} {P P' : Nat → Nat → Option Nat} (h : ST G P) (hp : ∀ w ∈ st_pt, P' w.1 w.2.1 = P w.1 w.2.1) : ST G P' := ⟨h.1, h.2.1, fun w hw => (hp w hw).trans (h.2.2 w hw)⟩
theorem ST_tok {G : am_G} {P : Nat → Nat → Option Nat} {v : Option Nat} (h : ST G P) : ST G (am_u2 P 169 0 v) := ST_P h (fun w hw => u2_o (by
  have : ∀ w ∈ st_pt, ¬ (w.1 = 169 ∧ w.2.1 = 0) := by decide +kernel
  exact this w hw))
/-- all but where texts are read -/
def FF (I J : Nat → Nat → Int) : Prop := ∀ q k, ¬ (161 ≤ q ∧ q ≤ 169) → J q k = I q k
def QT (G : am_G) (P : Nat → Nat → Option Nat) (od : Bool) (I : Nat → Nat → Int) (r : Nat ⊕ (Nat × (Nat → Oc))) (o : am_O) : Prop := match r with
  | .inl x => ∃ I2, o = (some (.inl (x : Int)), (G, I2, P)) ∧ FF I I2
  | .inr (m, cl) => ∃ (I2 : Nat → Nat → Int) (z : Nat), o = (some (.inl (-1)), (G, I2, P)) ∧ I2 162 5 = (m : Int) ∧ m ≤ 12 ∧ I2 162 7 = (z : Int) ∧ z ≤ 436 ∧ (∀ k, k < z → 0 ≤ I2 168 k ∧ I2 168 k ≤ 100000) ∧ (∀ j, j < m → DC od I2 z j (cl j)) ∧ FF I I2
theorem QT_inl {G : am_G} {P : Nat → Nat → Option Nat} {od : Bool} {I I2 : Nat → Nat → Int} {r : Nat ⊕ (Nat × (Nat → Oc))} {x : Nat} (h : r = .inl x) (h2 : FF I I2) : QT G P od I r (some (.inl (x : Int)), (G, I2, P)) := by
  subst h
  exact ⟨I2, rfl, h2⟩
theorem QT_inr {G : am_G} {P : Nat → Nat → Option Nat} {od : Bool} {I I2 : Nat → Nat → Int} {r : Nat ⊕ (Nat × (Nat → Oc))} {m z : Nat} {cl : Nat → Oc} (h : r = .inr (m, cl)) (h1 : I2 162 5 = (m : Int)) (h2 : m ≤ 12) (h3 : I2 162 7 = (z : Int)) (h4 : z ≤ 436) (h5 : ∀ k, k < z → 0 ≤ I2 168 k ∧ I2 168 k ≤ 100000) (h6 : ∀ j, j < m → DC od I2 z j (cl j)) (h7 : FF I I2) : QT G P od I r (some (.inl (-1)), (G, I2, P)) := by
  subst h
  exact ⟨I2, z, rfl, h1, h2, h3, h4, h5, h6, h7⟩
theorem FF_CF {z i : Nat} {I J K : Nat → Nat → Int} (h : FF I J) (h2 : CF z i J K) : FF I K := fun q k a => (h2 q k (by omega) (by omega) (by omega) (by omega) (by omega)).trans (h q k a)
theorem FF_R {z : Nat} {I J K : Nat → Nat → Int} (h : FF I J) (h2 : RFr z J K) : FF I K := fun q k a => (h2 q k (by omega) (by omega) (by omega) (by omega)).trans (h q k a)
theorem k_clear {d : Nat} {G : am_G} {I : Nat → Nat → Int} {P : Nat → Nat → Option Nat} (hS : ST G P) : am_call am_B am_M (d + 1) 91 [(.inr (.inr (some 162)))] (G, I, P) = some (none, (G, am_u2 (am_u2 I 162 5 0) 162 7 0, P)) := by
  refine am_doL (L := [some (.inr (.inr (some 162)))]) (Nat.le_of_ble_eq_true rfl) rfl ?_
  refine (ex_6_0 (ex_0 (ix_42i (sh_162 hS) (ex_6_0 (ex_0 (ix_42i (sh_162 hS) ?_))))))
  exact ex_56 rfl
theorem l_fo {d : Nat} {G : am_G} {I : Nat → Nat → Int} {P : Nat → Nat → Option Nat} (hS : ST G P) {b : Nat → Int} {n : Nat} (hB : TB b n) {od : Bool} {v3 : Int} : ∀ (k i : Nat) (J : Nat → Nat → Int) (s l z : Nat) (cl : Nat → Oc), i + k = 12 → RS J P b n od s l z → J 162 5 = (i : Int) → (∀ j, j < i → DC od J z j (cl j)) → FF I J → am_ex (am_call am_B am_M (d + 37)) (am_B 62) (am_B 62 1) [some (.inr (.inr (some 161))), some (.inr (.inr (some 171))), some (.inl (n : Int)), some (.inl v3), some (.inl (i : Int))] [] (G, J, P) (QT G P od I (px_cls b n od k s l i cl)) := by
  have hn4 := hB.1
  intro k
  induction k with
  | zero =>
    intro i J s l z cl hi hR h5 hD hF
    refine (ex_4_4 (ex_0 ?_))
    refine ex_ic3 (fun hc38 => ?_) (fun hc38 => by exfalso; omega)
    refine (ex_6_0 (ix_41r (sh_161 hS) (pt_161_1 hS) (ix_41i (v := (s : Int)) (sh_169 hS) (RS_T hR).2.2.1 ?_)))
    exact ex_53 (QT_inl (by simp only [px_cls]) hF)
  | succ k ih =>
    intro i J s l z cl hi hR h5 hD hF
    obtain ⟨o_, eo, qo⟩ := kc (d := d) hS hB hR (by omega) h5
    cases hp : px_cl b n od s l with
    | inl x =>
      rw [hp] at qo
      obtain ⟨J2, rfl, hx, f2⟩ := qo
      refine (ex_4_4 (ex_0 ?_))
      refine ex_ic3 (fun hc38 => by exfalso; omega) (fun hc38 => ?_)
      refine (ex_6_0 (ex_4_4 (ix_46 (S' := [(.inl 0)]) rfl (sh_161 hS) eo rfl rfl (ex_if1 (fun hc => by exfalso; revert hc; decide) (fun _ => ?_)))))
      refine (ex_6_0 (ix_41i (v := (x : Int)) (sh_161 hS) hx ?_))
      exact ex_53 (QT_inl (by simp only [px_cls, hp]) (FF_CF hF f2))
    | inr q =>
      obtain ⟨s', l', c⟩ := q
      rw [hp] at qo
      obtain ⟨J2, z2, rfl, r2, hz2, h52, hD2, f2⟩ := qo
      have hs2 := RS_s r2
      have hzs2 := RS_z r2
      have hDD : ∀ j, j < i + 1 → DC od J2 z2 j (am_u1 cl i c j) := by
        intro j hj
        by_cases e : j = i
        · rw [e, am_u1, if_pos rfl]; exact hD2
        · rw [am_u1, if_neg e]; exact DC_mono (hD j (by omega)) (fun q a1 a2 => f2 q j (by omega) (by omega) (by omega) (by omega) (by omega)) (fun k hk => f2 168 k (by omega) (by omega) (by omega) (by omega) (by omega)) hz2
      by_cases he : s' = n
      · refine (ex_4_4 (ex_0 ?_))
        refine ex_ic3 (fun hc38 => by exfalso; omega) (fun hc38 => ?_)
        refine (ex_6_0 (ex_4_4 (ix_46 (S' := [(.inl 1)]) rfl (sh_161 hS) eo rfl rfl (ex_if1 (fun _ => ?_) (fun hc => by exfalso; revert hc; decide)))))
        refine (ex_6_0 (ix_41r (sh_161 hS) (pt_161_1 hS) (ix_46 (S' := [(.inl 1)]) rfl (sh_169 hS) (k_isEnd_t hS hB (RS_T r2) hs2 he) rfl rfl (ex_if0 (fun hc => by exfalso; revert hc; decide) (fun _ => ?_)))))
        refine (ex_0 ?_)
        exact ex_53 (QT_inr (by simp only [px_cls, hp, if_pos he]) h52 (by omega) (RS_7 r2) (by omega) (RS_c r2) hDD (FF_CF hF f2))
      · by_cases hsc : tk b n s' = [59]
        · refine (ex_4_4 (ex_0 ?_))
          refine ex_ic3 (fun hc38 => by exfalso; omega) (fun hc38 => ?_)
          refine (ex_6_0 (ex_4_4 (ix_46 (S' := [(.inl 1)]) rfl (sh_161 hS) eo rfl rfl (ex_if1 (fun _ => ?_) (fun hc => by exfalso; revert hc; decide)))))
          refine (ex_6_0 (ix_41r (sh_161 hS) (pt_161_1 hS) (ix_46 (S' := [(.inl 0)]) rfl (sh_169 hS) (k_isEnd_f hS hB (RS_T r2) hs2 he) rfl rfl (ex_if0 (fun _ => ?_) (fun hc => by exfalso; revert hc; decide)))))
          refine (ex_6_0 (ex_3 ?_))
          obtain ⟨J3, e3_, r3, f3⟩ := k_exp_20_t (d := d + 34) hS hB r2 hsc
          refine (ix_46 (S' := [(.inl 1)]) rfl (sh_161 hS) e3_ rfl rfl (ex_if1 (fun _ => ?_) (fun hc => by exfalso; revert hc; decide)))
          refine (ex_10_4 ⟨by omega, by omega⟩ rfl (ex_28 ?_))
          rw [show px_cls b n od (k + 1) s l i cl = px_cls b n od k (nx b n s') l' (i + 1) (am_u1 cl i c) from by simp only [px_cls, hp, if_neg he, if_pos hsc]]
          exact ih (i + 1) J3 (nx b n s') l' z2 (am_u1 cl i c) (by omega) r3 ((f3 _ _ (by decide)).trans h52) (fun j hj => DC_mono (hDD j hj) (fun q a1 a2 => f3 _ _ (by omega)) (fun k _ => f3 _ _ (by omega)) (Nat.le_refl _)) (FF_R (FF_CF hF f2) (RFr_TKF (z := 0) f3))
        · refine (ex_4_4 (ex_0 ?_))
          refine ex_ic3 (fun hc38 => by exfalso; omega) (fun hc38 => ?_)
          refine (ex_6_0 (ex_4_4 (ix_46 (S' := [(.inl 1)]) rfl (sh_161 hS) eo rfl rfl (ex_if1 (fun _ => ?_) (fun hc => by exfalso; revert hc; decide)))))
          refine (ex_6_0 (ix_41r (sh_161 hS) (pt_161_1 hS) (ix_46 (S' := [(.inl 0)]) rfl (sh_169 hS) (k_isEnd_f hS hB (RS_T r2) hs2 he) rfl rfl (ex_if0 (fun _ => ?_) (fun hc => by exfalso; revert hc; decide)))))
          refine (ex_6_0 (ex_3 (ix_46 (S' := [(.inl 0)]) rfl (sh_161 hS) (k_exp_20_f (d := d + 34) hS hB r2 hsc) rfl rfl (ex_if1 (fun hc => by exfalso; revert hc; decide) (fun _ => ?_)))))
          refine (ex_6_0 (ix_41i (v := (s' : Int)) (sh_161 hS) u2_e ?_))
          exact ex_53 (QT_inl (x := s') (by simp only [px_cls, hp, if_neg he, if_neg hsc]) (FF_R (FF_CF hF f2) (RFr_fail (z := 0))))
theorem k_openS {d : Nat} {G : am_G} {I : Nat → Nat → Int} {P : Nat → Nat → Option Nat} (hS : ST G P) (hK : KS I) {b : Nat → Int} {n : Nat} (hB : TB b n) (hb : ∀ k, k < n → I 171 k = sb (b k)) : ∃ I1, am_call am_B am_M (d + 3) 99 [.inr (.inr (some 169)), .inr (.inr (some 171)), .inl (n : Int)] (G, I, P) = some (none, (G, I1, am_u2 P 169 0 (some 171))) ∧ TK I1 (am_u2 P 169 0 (some 171)) b n (sk b n 0) ∧ (∀ q k, ¬ (q = 169 ∧ 1 ≤ k ∧ k ≤ 4) → I1 q k = I q k) ∧ KS I1 ∧ True := by
  have hS' := ST_tok (v := some 171) hS
  have hn4 := hB.1
  obtain ⟨J, e, h2, h3, h4, hf⟩ := k_stepP (d := d) (I := am_u2 (am_u2 I 169 1 (n : Int)) 169 3 0) (P := am_u2 P 169 0 (some 171)) (p := 0) hS' u2_e hB ((u2_k (by decide)).trans u2_e) u2_e (Nat.zero_le _) (fun k hk => (u2_q (by decide)).trans ((u2_q (by decide)).trans (hb k hk)))
  have hfr : ∀ q k, ¬ (q = 169 ∧ 1 ≤ k ∧ k ≤ 4) → J q k = I q k := fun q k h => (hf q k (by omega)).trans ((u2_o (by omega)).trans (u2_o (by omega)))
  refine ⟨J, ?_, ⟨u2_e, (hf _ _ (by decide)).trans ((u2_k (by decide)).trans u2_e), h2, h3, h4, fun k hk => (hfr _ _ (by omega)).trans (hb k hk)⟩, hfr, KS_fr hK (fun q k hq => hfr q k (by omega)), trivial⟩
  refine am_doL (L := [some (.inr (.inr (some 169))), some (.inr (.inr (some 171))), some (.inl (n : Int))]) (Nat.le_of_ble_eq_true rfl) rfl ?_
  refine ex_6_0 (ex_6_1 (ix_42r (sh_169 hS) (ex_6_0 (ex_4_2 (ex_6_1 (ix_38 (sh_171 hS) (by decide) (ex_min (v := (n : Int)) rfl (if_pos (by omega)) (ix_42i (sh_169 hS) (ex_6_0 (ex_0 (ix_42i (sh_169 hS) (ex_6_0 ?_))))))))))))
  exact ix_46 (S' := []) rfl (sh_169 hS) e rfl rfl (ex_56 rfl)
theorem k_faultOf {d : Nat} {G : am_G} {I : Nat → Nat → Int} {P : Nat → Nat → Option Nat} (hS : ST G P) (hK : KS I) {b : Nat → Int} {n : Nat} (hB : TB b n) (hb : ∀ k, k < n → I 171 k = sb (b k)) (od : Bool) : ∃ o, am_call am_B am_M (d + 38) 62 [.inr (.inr (some 161)), .inr (.inr (some 171)), .inl (n : Int), .inl (if od = true then (1 : Int) else 0)] (G, I, P) = some o ∧ QT G (am_u2 P 169 0 (some 171)) od I (px_text b n od) o := by
  refine am_doQ (L := [some (.inr (.inr (some 161))), some (.inr (.inr (some 171))), some (.inl (n : Int)), some (.inl (if od = true then (1 : Int) else 0)), none]) (Nat.le_of_ble_eq_true rfl) rfl ?_
  obtain ⟨J, e, t, hf, hKJ, -⟩ := k_openS (d := d + 34) (I := am_u2 (am_u2 I 162 5 0) 162 7 0) hS (KS_fr hK (fun q k hq => (u2_q (by omega)).trans (u2_q (by omega)))) hB (fun k hk => (u2_q (by decide)).trans ((u2_q (by decide)).trans (hb k hk)))
  refine ex_6_0 (ix_41r (sh_161 hS) (pt_161_0 hS) (ix_46 (S' := []) rfl (sh_162 hS) (k_clear hS) rfl rfl (ex_6_0 (ix_41r (sh_161 hS) (pt_161_1 hS) (ex_6_1 (ex_4_2 (ix_46 (S' := []) rfl (sh_169 hS) e rfl rfl ?_)))))))
  refine ex_6_0 (ex_4_3 (ix_42z (sh_161 hS) (by cases od <;> decide) (ex_6_0 (ex_0 (ix_42i (sh_161 hS) (ex_6_0 (ex_0 (ix_42i (sh_161 hS) (ex_0 (ex_7_4 rfl (ex_58 ?_)))))))))))
  refine l_fo (d := d) (ST_tok hS) hB 12 0 _ (sk b n 0) 0 0 (fun _ => (0, none, none, 0, none)) rfl ⟨TK_fr t (fun q k hq => ?_), (sk_b (Nat.zero_le _)).2, by decide, ?_, ?_, ?_, Nat.zero_le _, fun k hk => absurd hk (by omega), KS_fr hKJ (fun q k hq => ?_)⟩ ?_ (fun j hj => absurd hj (by omega)) (fun q k hq => ?_)
  · rw [u2_q (by omega), u2_q (by omega), u2_q (by omega)]
  · exact (u2_k (by decide)).trans u2_e
  · exact (u2_k (by decide)).trans ((u2_k (by decide)).trans u2_e)
  · rw [u2_q (by decide), u2_q (by decide), u2_q (by decide), hf _ _ (by decide)]; exact u2_e
  · rw [u2_q (by omega), u2_q (by omega), u2_q (by omega)]
  · rw [u2_q (by decide), u2_q (by decide), u2_q (by decide), hf _ _ (by decide)]; exact (u2_k (by decide)).trans u2_e
  · rw [u2_q (by omega), u2_q (by omega), u2_q (by omega), hf _ _ (by omega), u2_q (by omega), u2_q (by omega)]
