/-! ===== calls with the tape, images, seasons ===== -/
theorem CC_eq {I : Nat → Nat → Int} {c : Nat} {ρ ρ' : Nat → Int} (h : CC I c ρ) (e : ∀ j, j < 100 → ρ' j = ρ j) : CC I c ρ' := ⟨(CC_n0 h).trans (e _ (by omega)).symm, (CC_n1 h).trans (e _ (by omega)).symm, (CC_n2 h).trans (e _ (by omega)).symm, (CC_n3 h).trans (e _ (by omega)).symm, (CC_fo h).trans (e _ (by omega)).symm, (CC_sm h).trans (e _ (by omega)).symm, fun j hj => (CC_ki h j hj).trans (e _ (by omega)).symm, fun j hj => (CC_ra h j hj).trans (e _ (by omega)).symm, fun j hj => (CC_at h j hj).trans (e _ (by omega)).symm, fun j hj => (CC_by h j hj).trans (e _ (by omega)).symm, fun j hj => (CC_ea h j hj).trans (e _ (by omega)).symm, fun j hj => (CC_en h j hj).trans (e _ (by omega)).symm, fun j hj => (CC_we h j hj).trans (e _ (by omega)).symm, fun j hj => (CC_kn h j hj).trans (e _ (by omega)).symm, fun j hj => (CC_te h j hj).trans (e _ (by omega)).symm, fun j hj => (CC_ro h j hj).trans (e _ (by omega)).symm, fun b hb => (CC_nr h b hb).trans (congrArg Int.ofNat (nr_congr hb (fun j hj => (e _ (by omega)))).symm), fun j hj => (CC_h1 h j hj).trans (e _ (by omega)).symm, fun j hj => (CC_h2 h j hj).trans (e _ (by omega)).symm⟩
theorem rfu {I J : Nat → Nat → Int} {q kk : Nat} {rf : Nat → Int} (hR : ∀ k, RKk k → I q k = rf k) (hk : RKk kk) (h1 : J q kk = I q kk + 1) (hf : ∀ k, ¬ k = kk → J q k = I q k) : ∀ k, RKk k → J q k = am_u1 rf kk (rf kk + 1) k := fun k hk2 => by
  unfold am_u1
  by_cases e : k = kk
  · rw [if_pos e, e, h1, hR kk hk]
  · rw [if_neg e, hf k e, hR k hk2]
theorem rfb {c : Nat} {rf : Nat → Int} {kk : Nat} (w5 : ∀ k, RKk k → 0 ≤ rf k ∧ rf k ≤ (c : Int)) : ∀ k, RKk k → 0 ≤ am_u1 rf kk (rf kk + 1) k ∧ am_u1 rf kk (rf kk + 1) k ≤ ((c + 1 : Nat) : Int) := fun k hk => by
  have a := w5 k hk
  unfold am_u1
  by_cases e : k = kk
  · rw [if_pos e]; subst e; omega
  · rw [if_neg e]; omega
/-- a call that changes the tape alone -/
theorem SP_tape {L : Nat} {xs : Nat → Int32} {c : Nat} {ρ : Nat → Int} {lg : List De} {ll : Lw} {tn : Nat} {tb : Nat → Int} {fa : Int} {wr : Int} {st : Int} {sp : Int} {rf : Nat → Int} {ik0 : Int} {ir0 : Nat → Int} {il0 : Lw} {ik1 : Int} {ir1 : Nat → Int} {il1 : Lw} {dk : Int} {dr : Nat → Int} {tn' : Nat} {tb' : Nat → Int} {G : am_G} {I I1 : Nat → Nat → Int} {P : Nat → Nat → Option Nat} {y1 y2 : Nat} {as : List am_V} {x : Int} (hW : WF c ρ lg ll tn tb rf ik0 ir0 il0 ik1 ir1 il1 dk dr) (hC : CI L xs c ρ lg ll tn tb fa wr st sp rf ik0 ir0 il0 ik1 ir1 il1 dk dr G I P) (hM : MI ρ lg ll tn tb fa wr st sp rf ik0 ir0 il0 ik1 ir1 il1 dk dr I) (k : am_call am_B am_M 100 y1 (.inr (.inr (some 64)) :: as) (G, I, P) = some (some (.inl x), (G, I1, P))) (kT : CTa I1 tn' tb') (fk : ∀ q k, CK q k → ¬ q = 171 → ¬ (q = 64 ∧ k = 13) → I1 q k = I q k) (f2 : ∀ q k, 208 ≤ q → q ≤ 239 → I1 q k = I q k) (hTB : TB tb' tn') (m : MI ρ lg ll tn tb fa wr st sp rf ik0 ir0 il0 ik1 ir1 il1 dk dr I1 → ∃ I2, am_call am_B am_M 100 y2 (.inr (.inr (some 208)) :: as) (G, I1, P) = some (some (.inl x), (G, I2, P)) ∧ MTa I2 tn' tb' ∧ (∀ q k, MK2 q k → ¬ q = 217 → ¬ (q = 208 ∧ k = 13) → I2 q k = I1 q k) ∧ (∀ q k, ¬ (208 ≤ q ∧ q ≤ 239) → I2 q k = I1 q k)) : SP L xs c G I P Sum.inl y1 y2 as := by
  obtain ⟨w1, w2, w3, w4, w5, w6, w7, w8⟩ := id hW
  obtain ⟨hS, hK, ⟨c1, c2, c3, c4⟩, _, ⟨s1, s2, s3, s4⟩, hRf, hI0, hI1, hD, hG, hX⟩ := id hC
  have hRW := (WR_0 w1).1
  refine SP_gen (ρ' := ρ) (lg' := lg) (ll' := ll) (tn' := tn') (tb' := tb') (fa' := fa) (wr' := wr) (st' := st) (sp' := sp) (rf' := rf) hW hC hM k hS ⟨fun _ _ => rfl, Nat.le_refl _, fun q k a b => fk q k (by unfold CK; omega) (by omega) (by omega), fun _ _ _ _ => rfl, fun _ => rfl, fun _ => rfl⟩ (CGs_s hG) ⟨CC_fr c1 (fun q k a b e => fk q k (by unfold CK; omega) (by omega) (by omega)), CLg_fr c2 (fun q k a b => fk q k (by unfold CK; omega) (by omega) (by omega)), LWS_eq c3 hRW rfl (fun q k a => fk q k (by unfold CK; omega) (by omega) (by omega)) (fun _ _ _ => rfl) (fun _ _ => rfl), c4⟩ kT ⟨(fk _ _ (by unfold CK; omega) (by omega) (by omega)).trans s1, (fk _ _ (by unfold CK; omega) (by omega) (by omega)).trans s2, (fk _ _ (by unfold CK; omega) (by omega) (by omega)).trans s3, (fk _ _ (by unfold CK; omega) (by omega) (by omega)).trans s4⟩ (fun k hk => (fk _ _ (by unfold CK; omega) (by omega) (by omega)).trans (hRf k hk)) (fun q k h => fk q k (by unfold CK; omega) (by omega) (by omega)) f2 w1 w2 w3 hTB (fun k hk => by have := w5 k hk; omega) (fun hM1 => ?_)
  obtain ⟨I2, e, m2, m4, m5⟩ := m hM1
  obtain ⟨⟨n1, n1b, n1c⟩, n2, _, ⟨u1, u2, u3, u4⟩, n5, _⟩ := hM1
  exact ⟨I2, e, ⟨(funext fun k => m4 _ _ (by unfold MK2; omega) (by omega) (by omega)).trans n1, MLg_fr n1b (m4 _ _ (by unfold MK2; omega) (by omega) (by omega)) (fun j hj => m4 _ _ (by unfold MK2; omega) (by omega) (by omega)) (fun j hj => m4 _ _ (by unfold MK2; omega) (by omega) (by omega)), (m4 _ _ (by unfold MK2; omega) (by omega) (by omega)).trans n1c⟩, m2, ⟨(m4 _ _ (by unfold MK2; omega) (by omega) (by omega)).trans u1, (m4 _ _ (by unfold MK2; omega) (by omega) (by omega)).trans u2, (m4 _ _ (by unfold MK2; omega) (by omega) (by omega)).trans u3, (m4 _ _ (by unfold MK2; omega) (by omega) (by omega)).trans u4⟩, fun k hk => (m4 _ _ (by unfold MK2; omega) (by omega) (by omega)).trans (n5 k hk), fun q k h => m4 q k (by unfold MK2; omega) (by omega) (by omega), m5⟩
theorem P_end {L : Nat} {xs : Nat → Int32} {c : Nat} {G : am_G} {I : Nat → Nat → Int} {P : Nat → Nat → Option Nat} (hR : REL L xs c G I P) (hc : c ≤ 600) {a : Int}  : SP L xs c G I P Sum.inl 116 196 [.inl a] := by
  obtain ⟨ρ, lg, ll, tn, tb, fa, wr, st, sp, rf, ik0, ir0, il0, ik1, ir1, il1, dk, dr, hW, hC, hM⟩ := hR
  obtain ⟨w1, w2, w3, w4, w5, w6, w7, w8⟩ := id hW
  obtain ⟨hS, hK, ⟨hCC, hLg, hLw, hTN⟩, ⟨t1, t2⟩, ⟨s1, s2, s3, s4⟩, hRf, hI0, hI1, ⟨hDr, hLO⟩, hG, hX⟩ := id hC
  have hRW := (WR_0 w1).1
  have h59 := (WR_0 w1).2
  have hLN := LawNow_of hRW w2
  have hBN := BarN_of hRW w2
  have hE : CE G I P 65 ρ (nfo ρ ll) (cfo ρ ll) := ⟨hCC, hRW, LWn_of (c := 65) hRW hLw⟩
  have hN := TN_of hTN
  have h0 := RW_n0 hRW
  have h1 := RW_n1 hRW
  have h2 := RW_n2 hRW
  have h3 := RW_n3 hRW
  have h8 := RW_sm hRW
  have hrk : ∀ k, RKk k → 0 ≤ I 173 k ∧ I 173 k ≤ 1000000 := fun k hk => by have := w5 k hk; rw [hRf k hk]; omega
  have hrm : ∀ {J : Nat → Nat → Int}, MI ρ lg ll tn tb fa wr st sp rf ik0 ir0 il0 ik1 ir1 il1 dk dr J → ∀ k, RKk k → 0 ≤ J 209 k ∧ J 209 k ≤ 1000000 := fun hJ k hk => by have := w5 k hk; rw [hJ.2.2.2.2.1 k hk]; omega
  have hme : ∀ {J : Nat → Nat → Int}, MI ρ lg ll tn tb fa wr st sp rf ik0 ir0 il0 ik1 ir1 il1 dk dr J → ME J ρ (nfo ρ ll) (cfo ρ ll) := fun hJ => ⟨hJ.1.1, hRW, hLN, hJ.1.2.2⟩
  have hzz : ∀ {J : Nat → Nat → Int}, MI ρ lg ll tn tb fa wr st sp rf ik0 ir0 il0 ik1 ir1 il1 dk dr J → (am_u2 J 208 0 0) 210 = ρ := fun hJ => (u2_qf (by decide)).trans hJ.1.1
  by_cases hb : 0 ≤ a ∧ a ≤ (tn : Int)
  · obtain ⟨an, rfl⟩ : ∃ n0 : Nat, a = (n0 : Int) := ⟨a.toNat, by omega⟩
    exact SP_tape (x := (an : Int)) (tn' := an) (tb' := tb) hW hC hM (k_endc (d := 98) hS (by rw [t1]; exact hb)) ⟨u2_e, fun k hk => (u2_q (by decide)).trans (t2 k (by omega))⟩ (fun q k h a1 a2 => u2_o a2) (fun q k a b => u2_o (by omega)) ⟨by have := w4.1; omega, fun k hk => w4.2 k (by omega)⟩ (fun hM1 => ⟨_, m_end (d := 99) hS (by rw [hM1.2.2.1.1]; exact hb), ⟨u2_e, fun k hk => (u2_q (by decide)).trans ((u2_q (by decide)).trans (hM1.2.2.1.2 k (by omega)))⟩, fun q k h a1 a2 => (u2_o a2).trans (u2_o (by unfold MK2 at h; omega)), fun q k h => (u2_o (by omega)).trans (u2_o (by omega))⟩)
  · exact SP_ro (x := -1) hW hC hM (k_end_b (d := 98) hS (by rw [t1]; exact hb)) hS (fun _ _ _ => rfl) (fun _ _ _ _ => rfl) (fun _ _ _ => rfl) (fun hM1 => ⟨_, m_end_b (d := 99) hS (by rw [hM1.2.2.1.1]; exact hb), fmz, frz⟩)
theorem put4_b {f : Nat → Int} {t : Nat} {v : Int} (h : ∀ k, k < t → 0 ≤ f k ∧ f k ≤ 255) : ∀ k, k < t + 4 → 0 ≤ m_put4 f t v k ∧ m_put4 f t v k ≤ 255 := fun k hk => by
  have a1 := oct_b (x := am_b2 7 v 24)
  have a2 := oct_b (x := am_b2 7 v 16)
  have a3 := oct_b (x := am_b2 7 v 8)
  have a4 := oct_b (x := am_b2 7 v 0)
  unfold m_put4 m_oct am_u1
  by_cases e1 : k = t + 1 + 1 + 1
  · rw [if_pos e1]; exact a4
  rw [if_neg e1]
  by_cases e2 : k = t + 1 + 1
  · rw [if_pos e2]; exact a3
  rw [if_neg e2]
  by_cases e3 : k = t + 1
  · rw [if_pos e3]; exact a2
  rw [if_neg e3]
  by_cases e4 : k = t
  · rw [if_pos e4]; exact a1
  rw [if_neg e4]
  exact h k (by omega)
theorem four_217 {I : Nat → Nat → Int} {t : Nat} {v : Int} : m_four I t v 217 = m_put4 (I 217) t v := (u2_qf (by decide)).trans u1_e
theorem four_q {I : Nat → Nat → Int} {t q k : Nat} {v : Int} (h1 : ¬ q = 217) (h2 : ¬ (q = 208 ∧ k = 13)) : m_four I t v q k = I q k := (u2_o h2).trans (u1_qk h1)
theorem P_feed {L : Nat} {xs : Nat → Int32} {c : Nat} {G : am_G} {I : Nat → Nat → Int} {P : Nat → Nat → Option Nat} (hR : REL L xs c G I P) (hc : c ≤ 600) {a b w e f : Int}  : SP L xs c G I P Sum.inl 115 195 [.inl a, .inl b, .inl w, .inl e, .inl f] := by
  obtain ⟨ρ, lg, ll, tn, tb, fa, wr, st, sp, rf, ik0, ir0, il0, ik1, ir1, il1, dk, dr, hW, hC, hM⟩ := hR
  obtain ⟨w1, w2, w3, w4, w5, w6, w7, w8⟩ := id hW
  obtain ⟨hS, hK, ⟨hCC, hLg, hLw, hTN⟩, ⟨t1, t2⟩, ⟨s1, s2, s3, s4⟩, hRf, hI0, hI1, ⟨hDr, hLO⟩, hG, hX⟩ := id hC
  have hRW := (WR_0 w1).1
  have h59 := (WR_0 w1).2
  have hLN := LawNow_of hRW w2
  have hBN := BarN_of hRW w2
  have hE : CE G I P 65 ρ (nfo ρ ll) (cfo ρ ll) := ⟨hCC, hRW, LWn_of (c := 65) hRW hLw⟩
  have hN := TN_of hTN
  have h0 := RW_n0 hRW
  have h1 := RW_n1 hRW
  have h2 := RW_n2 hRW
  have h3 := RW_n3 hRW
  have h8 := RW_sm hRW
  have hrk : ∀ k, RKk k → 0 ≤ I 173 k ∧ I 173 k ≤ 1000000 := fun k hk => by have := w5 k hk; rw [hRf k hk]; omega
  have hrm : ∀ {J : Nat → Nat → Int}, MI ρ lg ll tn tb fa wr st sp rf ik0 ir0 il0 ik1 ir1 il1 dk dr J → ∀ k, RKk k → 0 ≤ J 209 k ∧ J 209 k ≤ 1000000 := fun hJ k hk => by have := w5 k hk; rw [hJ.2.2.2.2.1 k hk]; omega
  have hme : ∀ {J : Nat → Nat → Int}, MI ρ lg ll tn tb fa wr st sp rf ik0 ir0 il0 ik1 ir1 il1 dk dr J → ME J ρ (nfo ρ ll) (cfo ρ ll) := fun hJ => ⟨hJ.1.1, hRW, hLN, hJ.1.2.2⟩
  have hzz : ∀ {J : Nat → Nat → Int}, MI ρ lg ll tn tb fa wr st sp rf ik0 ir0 il0 ik1 ir1 il1 dk dr J → (am_u2 J 208 0 0) 210 = ρ := fun hJ => (u2_qf (by decide)).trans hJ.1.1
  by_cases hb : tn + 20 ≤ 400
  · have htp : ∀ k, k < tn → I 171 k = sb (I 217 k) := fun k hk => by rw [t2 k hk, hM.2.2.1.2 k hk]
    obtain ⟨I1, eK, k13, k17, kf⟩ := k_feedc (d := 97) (a := a) (b := b) (c := w) (e := e) (f := f) hS t1 hb htp
    have e17 : I1 217 = I 217 := funext fun k => kf _ _ (by decide) (by omega)
    refine SP_tape (x := ((((((tn + 4) + 4) + 4) + 4) + 4) : Nat)) (tn' := (((((tn + 4) + 4) + 4) + 4) + 4)) (tb' := (m_put4 (m_put4 (m_put4 (m_put4 (m_put4 (I 217) tn a) (tn + 4) b) ((tn + 4) + 4) w) (((tn + 4) + 4) + 4) e) ((((tn + 4) + 4) + 4) + 4) f)) hW hC hM eK ⟨k13, k17⟩ (fun q k h a1 a2 => kf q k a1 a2) (fun q k a b => kf q k (by omega) (by omega)) ⟨by omega, put4_b (put4_b (put4_b (put4_b (put4_b (fun k hk => by rw [hM.2.2.1.2 k hk]; exact w4.2 k hk)))))⟩ (fun hM1 => ⟨_, m_feed (d := 98) hS hM1.2.2.1.1 hb, ⟨u2_e, fun k hk => ?_⟩, fun q k h a1 a2 => ?_, fun q k h => ?_⟩)
    · rw [four_217, four_217, four_217, four_217, four_217, u2_qf (by decide), e17]
    · rw [four_q a1 a2, four_q a1 a2, four_q a1 a2, four_q a1 a2, four_q a1 a2, u2_o (by unfold MK2 at h; omega)]
    · rw [four_q (by omega) (by omega), four_q (by omega) (by omega), four_q (by omega) (by omega), four_q (by omega) (by omega), four_q (by omega) (by omega), u2_o (by omega)]
  · exact SP_ro (x := -1) hW hC hM (k_feed_n (d := 97) hS t1 hb w4.1) hS (fun _ _ _ => rfl) (fun _ _ _ _ => rfl) (fun _ _ _ => rfl) (fun hM1 => ⟨_, m_feed_n (d := 98) hS hM1.2.2.1.1 hb w4.1, fmz, frz⟩)
theorem rowF_ok {tp ρ : Nat → Int} {had : Nat} (h : RW ρ) : ∀ (k i : Nat) (z : (Nat → Int) × Int × Int), (RW z.1 ∧ ∀ j, ¬ (52 ≤ j ∧ j < 88) → z.1 j = ρ j) → 0 ≤ z.2.1 → (RW (am_it (fun i z => m_rowF tp had i z) k i z).1 ∧ ∀ j, ¬ (52 ≤ j ∧ j < 88) → (am_it (fun i z => m_rowF tp had i z) k i z).1 j = ρ j) ∧ 0 ≤ (am_it (fun i z => m_rowF tp had i z) k i z).2.1
  | 0, i, z, hz, h2 => ⟨hz, h2⟩
  | k + 1, i, z, hz, h2 => by
    show (RW (am_it (fun i z => m_rowF tp had i z) k (i + 1) (m_rowF tp had i z)).1 ∧ _) ∧ _
    refine rowF_ok h k (i + 1) _ ?_ ?_
    · unfold m_rowF
      split
      · rename_i q
        refine ⟨RW_road1 hz.1 (by omega) (by omega) (by omega) q.2.2.2.2, fun j hj => ?_⟩
        show m_road1 z.1 _ _ _ j = ρ j
        unfold m_road1 am_u1
        rw [if_neg (by omega), if_neg (by omega)]
        exact hz.2 j hj
      · exact hz
    · unfold m_rowF
      split
      · show 0 ≤ z.2.1 + 1; omega
      · exact h2
theorem P_row {L : Nat} {xs : Nat → Int32} {c : Nat} {G : am_G} {I : Nat → Nat → Int} {P : Nat → Nat → Option Nat} (hR : REL L xs c G I P) (hc : c ≤ 600)   : SP L xs c G I P Sum.inl 117 192 [] := by
  obtain ⟨ρ, lg, ll, tn, tb, fa, wr, st, sp, rf, ik0, ir0, il0, ik1, ir1, il1, dk, dr, hW, hC, hM⟩ := hR
  obtain ⟨w1, w2, w3, w4, w5, w6, w7, w8⟩ := id hW
  obtain ⟨hS, hK, ⟨hCC, hLg, hLw, hTN⟩, ⟨t1, t2⟩, ⟨s1, s2, s3, s4⟩, hRf, hI0, hI1, ⟨hDr, hLO⟩, hG, hX⟩ := id hC
  have hRW := (WR_0 w1).1
  have h59 := (WR_0 w1).2
  have hLN := LawNow_of hRW w2
  have hBN := BarN_of hRW w2
  have hE : CE G I P 65 ρ (nfo ρ ll) (cfo ρ ll) := ⟨hCC, hRW, LWn_of (c := 65) hRW hLw⟩
  have hN := TN_of hTN
  have h0 := RW_n0 hRW
  have h1 := RW_n1 hRW
  have h2 := RW_n2 hRW
  have h3 := RW_n3 hRW
  have h8 := RW_sm hRW
  have hrk : ∀ k, RKk k → 0 ≤ I 173 k ∧ I 173 k ≤ 1000000 := fun k hk => by have := w5 k hk; rw [hRf k hk]; omega
  have hrm : ∀ {J : Nat → Nat → Int}, MI ρ lg ll tn tb fa wr st sp rf ik0 ir0 il0 ik1 ir1 il1 dk dr J → ∀ k, RKk k → 0 ≤ J 209 k ∧ J 209 k ≤ 1000000 := fun hJ k hk => by have := w5 k hk; rw [hJ.2.2.2.2.1 k hk]; omega
  have hme : ∀ {J : Nat → Nat → Int}, MI ρ lg ll tn tb fa wr st sp rf ik0 ir0 il0 ik1 ir1 il1 dk dr J → ME J ρ (nfo ρ ll) (cfo ρ ll) := fun hJ => ⟨hJ.1.1, hRW, hLN, hJ.1.2.2⟩
  have hzz : ∀ {J : Nat → Nat → Int}, MI ρ lg ll tn tb fa wr st sp rf ik0 ir0 il0 ik1 ir1 il1 dk dr J → (am_u2 J 208 0 0) 210 = ρ := fun hJ => (u2_qf (by decide)).trans hJ.1.1
  by_cases h0t : tn = 0
  · have t0 : I 64 13 = 0 := by rw [t1, h0t]; rfl
    exact SP_rf (x := -6) hW hC hM 6 (by unfold RKk; omega) (k_row_e (d := 96) hS t0 (hrk 6 (by unfold RKk; omega))) (RFk_LF LF_refl rfl) (fun hM1 => ⟨_, m_row_e (d := 96) hS (by rw [hM1.2.2.1.1, h0t]; rfl) (hrm hM1 6 (by unfold RKk; omega)), (u2_q (by decide)).trans u2_e, u2_e, fun q j a b e f => by
      by_cases z : q = 208 ∧ j = 13
      · obtain ⟨z1, z2⟩ := z; subst z1; subst z2; exact (u2_q (by decide)).trans ((u2_k (by decide)).trans (u2_e.trans (by rw [hM1.2.2.1.1, h0t]; rfl)))
      · exact (u2_o f).trans ((u2_o (by omega)).trans ((u2_o z).trans (u2_o (by omega))))⟩)
  · have htp : ∀ k, k < tn → I 171 k = sb (I 217 k) := fun k hk => by rw [t2 k hk, hM.2.2.1.2 k hk]
    have hTB7 : ∀ k, k < tn → 0 ≤ I 217 k ∧ I 217 k ≤ 255 := fun k hk => by rw [hM.2.2.1.2 k hk]; exact w4.2 k hk
    obtain ⟨I1, eK, kC, k15, k13, k16, kf⟩ := k_rowc (d := 96) hS hE t1 h0t w4.1 htp hTB7
    have e17 : I1 217 = I 217 := funext fun k => kf _ _ (by decide) (by decide) (by omega)
    obtain ⟨⟨hrw, hro⟩, hge⟩ := rowF_ok (tp := I 217) (had := tn) hRW ((tn + 2) / 3) 0 (ρ, 0, 0) ⟨hRW, fun _ _ => rfl⟩ (by show (0 : Int) ≤ 0; omega)
    have hmx : ∀ j, 5 ≤ j → j < 30 → (am_it (fun i z => m_rowF (I 217) tn i z) ((tn + 2) / 3) 0 (ρ, 0, 0)).1 j = ρ j := fun j a b => hro j (by omega)
    refine SP_gen (x := (am_it (fun i z => m_rowF (I 217) tn i z) ((tn + 2) / 3) 0 (ρ, 0, 0)).2.1) (ρ' := (am_it (fun i z => m_rowF (I 217) tn i z) ((tn + 2) / 3) 0 (ρ, 0, 0)).1) (lg' := lg) (ll' := ll) (tn' := 0) (tb' := tb) (fa' := fa) (wr' := (am_it (fun i z => m_rowF (I 217) tn i z) ((tn + 2) / 3) 0 (ρ, 0, 0)).2.2) (st' := 0) (sp' := sp) (rf' := rf) hW hC hM eK hS ⟨fun _ _ => rfl, Nat.le_refl _, fun q k a b => kf q k (by omega) (by omega) (by omega), fun _ _ _ _ => rfl, fun _ => rfl, fun _ => rfl⟩ (CGs_s hG) ⟨kC, CLg_fr hLg (fun q k a b => kf q k (by omega) (by omega) (by omega)), LWS_eq hLw hRW (hro 3 (by omega)) (fun q k a => kf q k (by omega) (by omega) (by omega)) (fun _ _ _ => rfl) (fun _ _ => rfl), hTN⟩ ⟨k13, fun k hk => absurd hk (by omega)⟩ ⟨(kf _ _ (by decide) (by decide) (by decide)).trans s1, k15, k16, (kf _ _ (by decide) (by decide) (by decide)).trans s4⟩ (fun k hk => (kf _ _ (by decide) (by decide) (by omega)).trans (hRf k hk)) (fun q k h => kf q k (by omega) (by omega) (by omega)) (fun q k a b => kf q k (by omega) (by omega) (by omega)) (WR_mix w1 hrw hmx) (RLs_eq w2 (hro 3 (by omega)) (fun j hj => hro j (by omega))) (fun j hj => (hro j (by omega)).trans (w3 j hj)) ⟨by decide, fun k hk => absurd hk (by omega)⟩ (fun k hk => by have := w5 k hk; omega) (fun hM1 => ?_)
    have eM := m_row (d := 96) (G := G) (I := I1) (P := P) hS hM1.2.2.1.1 h0t w4.1
    have er : (am_u2 (am_u2 (am_u2 I1 208 0 0) 208 13 0) 208 11 0) 210 = ρ := (u2_qf (by decide)).trans ((u2_qf (by decide)).trans ((u2_qf (by decide)).trans hM1.1.1))
    rw [er, e17] at eM
    have fx : ∀ q k, ¬ q = 210 → ¬ (q = 208 ∧ (k = 0 ∨ k = 1 ∨ k = 11 ∨ k = 13)) → (am_u2 (m_rowH (am_u2 (am_u2 (am_u2 I1 208 0 0) 208 13 0) 208 11 0) (am_it (fun i z => m_rowF (I 217) tn i z) ((tn + 2) / 3) 0 (ρ, 0, 0))) 208 1 0) q k = I1 q k := fun q k a b => (u2_o (by omega)).trans ((u2_o (by omega)).trans ((u1_qk a).trans ((u2_o (by omega)).trans ((u2_o (by omega)).trans (u2_o (by omega))))))
    exact ⟨_, eM, ⟨(u2_qf (by decide)).trans ((u2_qf (by decide)).trans u1_e), MLg_mix (MLg_fr hM1.1.2.1 (fx _ _ (by decide) (by decide)) (fun j _ => fx _ _ (by decide) (by omega)) (fun j _ => fx _ _ (by decide) (by omega))) w1 hmx, (fx _ _ (by decide) (by decide)).trans hM1.1.2.2⟩, ⟨(u2_k (by decide)).trans ((u2_k (by decide)).trans ((u1_qk (by decide)).trans ((u2_k (by decide)).trans u2_e))), fun k hk => absurd hk (by omega)⟩, ⟨(fx _ _ (by decide) (by decide)).trans hM1.2.2.2.1.1, (u2_k (by decide)).trans u2_e, u2_e, (fx _ _ (by decide) (by decide)).trans hM1.2.2.2.1.2.2.2⟩, fun k hk => (fx _ _ (by decide) (by omega)).trans (hM1.2.2.2.2.1 k hk), fun q k h => fx q k (by omega) (by omega), fun q k h => fx q k (by omega) (by omega)⟩
