/-! ===== the class: law() ===== -/
theorem CS_of {od : Bool} {F F' : Nat → Int} {z C : Nat} {x : Int} {f : Fn} (h : OF od F z x (some f)) (hF : ∀ k, k < z → F' k = F k) : ∃ a c : Nat, x = (a : Int) ∧ CS (sgI F') (tlI F') z (nwo od) a c f := by
  obtain ⟨a, c, h1, h2, h3, h4, h5, h6⟩ := h
  refine ⟨a, c, h1, by have := h2.1; omega, h4, h5, ?_, fun w hw => ⟨fun v hv => h6 w hw v hv, h2.2.2 F' (fun k _ hk => hF k (by omega)) w hw⟩⟩
  unfold sgI
  rw [hF c h4, h3]
  rfl
theorem TX_copy {G : am_G} {I J : Nat → Nat → Int} {P : Nat → Nat → Option Nat} {t m z : Nat} {G1 : am_G} {I1 : Nat → Nat → Int} {P1 : Nat → Nat → Option Nat} {cl : Nat → Oc} (ht : 240 ≤ t) (h : TC G I P t m z G1 I1 P1) (hm : m ≤ 12) (hz : z ≤ 436) (hc : ∀ k, k < z → 0 ≤ I 168 k ∧ I 168 k ≤ 100000) (hD : ∀ j, j < m → DC false I z j (cl j)) : TX G1 I1 P1 t m (fun j => clO (cl j)) := by
  obtain ⟨⟨g1, g2, g3, g4, g5, g6, g7, g8⟩, hcp, h5, h7⟩ := h
  have row : ∀ j, j < z → I1 (t + 6) j = I 168 j := fun j hj => hcp 5 j (by decide) hj
  refine ⟨ht, m, z, z, sgI (I1 (t + 6)), tlI (I1 (t + 6)), ⟨g4, g6 0 (by decide), g5 0 (by decide), g6 1 (by decide), g5 1 (by decide), g6 4 (by decide), g5 4 (by decide), g6 5 (by decide), g5 5 (by decide), h5, Nat.le_refl _, hm, h7, Nat.le_refl _, by omega, fun k hk => ?_⟩, fun j hj => ?_⟩
  · have h1 := hc k hk
    rw [← row k hk] at h1
    unfold sgI tlI
    refine ⟨by omega, by omega, by omega⟩
  · obtain ⟨d1, d2, d3, d4, d5, d6⟩ := hD j hj
    have e1 : I1 (t + 1) j = I 163 j := hcp 0 j (by decide) hj
    have e2 : I1 (t + 2) j = I 164 j := hcp 1 j (by decide) hj
    have e5 : I1 (t + 5) j = I 167 j := hcp 4 j (by decide) hj
    have h9 : nwo false = 9 := rfl
    refine ⟨e1.trans d1, d2, fun hn => ?_, fun s hs => ?_, fun hn => ?_, fun s hs => ?_⟩
    · have hn : (cl j).2.1 = none := hn
      rw [hn] at d3
      exact e2.trans d3
    · have hs : (cl j).2.1 = some s := hs
      rw [hs] at d3
      obtain ⟨a, c, x1, x2⟩ := CS_of (C := 0) d3 (F' := I1 (t + 6)) row
      exact ⟨a, c, e2.trans x1, h9 ▸ x2⟩
    · have hn : (cl j).2.2.2.2 = none := hn
      rw [hn] at d6
      exact e5.trans d6
    · have hs : (cl j).2.2.2.2 = some s := hs
      rw [hs] at d6
      obtain ⟨a, c, x1, x2⟩ := CS_of (C := 0) d6 (F' := I1 (t + 6)) row
      exact ⟨a, c, e5.trans x1, h9 ▸ x2⟩
theorem ST_new {G G1 : am_G} {P P1 : Nat → Nat → Option Nat} (h : ST G P) (hG : ∀ q, q < 240 → G1.2.2 q = G.2.2 q) (hP : ∀ q k, q < 240 → ¬ (q = 169 ∧ k = 0) → ¬ q = 81 → P1 q k = P q k) : ST G1 P1 := by
  refine ⟨fun j s e => ?_, fun j s e => ?_, fun w hw => ?_⟩
  · have h1 := (List.getElem?_eq_some_iff.mp e).1
    have h2 : st_sh.length = 176 := rfl
    rw [hG _ (by omega)]; exact h.1 j s e
  · have h1 := (List.getElem?_eq_some_iff.mp e).1
    have h2 : st_s0.length = 20 := rfl
    rw [hG _ (by omega)]; exact h.2.1 j s e
  · have : ∀ w ∈ st_pt, w.1 < 240 ∧ ¬ (w.1 = 169 ∧ w.2.1 = 0) ∧ ¬ w.1 = 81 := by decide +kernel
    have h3 := this w hw
    rw [hP _ _ h3.1 h3.2.1 h3.2.2]; exact h.2.2 w hw
/-- what law() leaves alone -/
def KLF (I J : Nat → Nat → Int) : Prop := ∀ q k, q < 240 → ¬ (161 ≤ q ∧ q ≤ 169) → ¬ (q = 64 ∧ (k = 13 ∨ k = 14 ∨ k = 16)) → ¬ (q = 173 ∧ k = 6) → ¬ (q = 65 ∧ k = 16) → J q k = I q k
def QKa (G : am_G) (I : Nat → Nat → Int) (P : Nat → Nat → Option Nat) (i3 : Nat) (r : Nat ⊕ (Nat × (Nat → Oc))) (o : am_O) : Prop := match r with
  | .inl x => ∃ I1, o = (some (.inl (-6)), (G, I1, am_u2 P 169 0 (some 171))) ∧ I1 64 14 = (x : Int) ∧ I1 64 13 = 0 ∧ I1 64 16 = -6 ∧ I1 173 6 = I 173 6 + 1 ∧ I1 65 16 = I 65 16 ∧ KLF I I1 ∧ (∀ q k, 240 ≤ q → I1 q k = I q k)
  | .inr (m, cl) => ∃ G1 I1 P1, o = (some (.inl (i3 : Int)), (G1, I1, P1)) ∧ I1 64 14 = -1 ∧ I1 64 13 = 0 ∧ I1 64 16 = 0 ∧ I1 173 6 = I 173 6 ∧ I1 65 16 = (i3 : Int) + 1 ∧ KLF I I1 ∧ (∀ q k, 240 ≤ q → q < 64 + G.1 → I1 q k = I q k) ∧ ST G1 P1 ∧ P1 81 i3 = some (64 + G.1) ∧ TX G1 I1 P1 (64 + G.1) m (fun j => clO (cl j)) ∧ G1.1 = G.1 + 7 ∧ G1.2.1 ≤ G.2.1 + 504 ∧ (∀ q, q < 64 + G.1 → G1.2.2 q = G.2.2 q) ∧ (∀ q k, q < 64 + G.1 → ¬ (q = 169 ∧ k = 0) → ¬ (q = 81 ∧ k = i3) → P1 q k = P q k)
theorem k_law_n {d : Nat} {G : am_G} {I : Nat → Nat → Int} {P : Nat → Nat → Option Nat} (hS : ST G P) (h3 : I 65 16 = 6) (hR5 : 0 ≤ I 173 5 ∧ I 173 5 ≤ 1000000) : am_call am_B am_M (d + 39) 119 [(.inr (.inr (some 64)))] (G, I, P) = some (some (.inl (-5)), (G, am_u2 (am_u2 (am_u2 I 64 13 0) 173 5 (I 173 5 + 1)) 64 16 (-5), P)) := by
  refine am_doL (L := [some (.inr (.inr (some 64)))]) (Nat.le_of_ble_eq_true rfl) rfl ?_
  refine (ex_6_0 (ix_41r (sh_64 hS) (pt_64_0 hS) (ix_41i (v := 6) (sh_65 hS) h3 (ex_0 (ex_ic2 (fun hc => by exfalso; revert hc; decide) (fun _ => ?_))))))
  refine (ex_6_0 (ex_0 (ix_42i (sh_64 hS) (ex_6_0 (ex_0 (ix_46 (S' := [(.inl (-5))]) rfl (sh_64 hS) (k_refuse_n hS (k := 5) (by decide) (by decide) (u2_q (by decide)) hR5) rfl rfl ?_))))))
  exact ex_53 rfl
theorem k_law_x {d : Nat} {G : am_G} {I : Nat → Nat → Int} {P : Nat → Nat → Option Nat} (hS : ST G P) (hK : KS I) {b : Nat → Int} {n : Nat} (hB : TB b n) (h13 : I 64 13 = (n : Int)) (hb : ∀ k, k < n → I 171 k = sb (b k)) {i3 : Nat} (hi3 : i3 < 6) (h3 : I 65 16 = (i3 : Int)) (hR6 : 0 ≤ I 173 6 ∧ I 173 6 ≤ 1000000) {x : Nat} (hp : px_text b n false = .inl x) : ∃ o, am_call am_B am_M (d + 39) 119 [(.inr (.inr (some 64)))] (G, I, P) = some o ∧ (QKa G I P i3 (px_text b n false)) o := by
  refine am_doQ (L := [some (.inr (.inr (some 64)))]) (Nat.le_of_ble_eq_true rfl) rfl ?_
  refine (ex_6_0 (ix_41r (sh_64 hS) (pt_64_0 hS) (ix_41i (v := (i3 : Int)) (sh_65 hS) h3 (ex_0 ?_))))
  refine ex_ic2 (fun hc9 => ?_) (fun hc9 => by exfalso; omega)
  refine (ex_6_0 (ex_6_0 (ix_41r (sh_64 hS) (pt_64_9 hS) (ex_6_0 (ix_41r (sh_64 hS) (pt_64_10 hS) (ex_6_0 (ix_41i (v := (n : Int)) (sh_64 hS) h13 (ex_0 ?_))))))))
  obtain ⟨o_, eo, qo⟩ := k_faultOf (d := d) hS hK hB hb false
  rw [hp] at qo
  obtain ⟨I2, rfl, f2⟩ := qo
  refine (ix_46 (S' := [(.inl (x : Int)), (.inr (.inr (some 64)))]) rfl (sh_161 hS) eo rfl rfl (ix_42i (sh_64 hS) (ex_6_0 (ex_0 (ix_42i (sh_64 hS) (ex_6_0 (ix_41i (v := (x : Int)) (sh_64 hS) ((u2_k (by decide)).trans u2_e) (ex_0 ?_))))))))
  refine ex_ic0 (fun hc54 => by exfalso; omega) (fun hc54 => ?_)
  refine (ex_6_0 (ex_0 ?_))
  have hS2 := ST_tok (v := some 171) hS
  have h6 : I2 173 6 = I 173 6 := f2 _ _ (by decide)
  refine (ix_46 (S' := [(.inl (-6))]) rfl (sh_64 hS) (k_refuse_n hS2 (k := 6) (by decide) (by decide) ((u2_q (by decide)).trans ((u2_q (by decide)).trans h6)) hR6) rfl rfl ?_)
  exact ex_53 (by rw [hp]; exact ⟨_, rfl, (u2_k (by decide)).trans ((u2_q (by decide)).trans ((u2_k (by decide)).trans u2_e)), (u2_k (by decide)).trans ((u2_q (by decide)).trans u2_e), u2_e, (u2_q (by decide)).trans u2_e, (u2_q (by decide)).trans ((u2_q (by decide)).trans ((u2_q (by decide)).trans ((u2_q (by decide)).trans (f2 _ _ (by decide))))), fun q k a0 a1 a2 a3 a4 => (u2_o (by omega)).trans ((u2_o (by omega)).trans ((u2_o (by omega)).trans ((u2_o (by omega)).trans (f2 q k (by omega))))), fun q k a0 => (u2_o (by omega)).trans ((u2_o (by omega)).trans ((u2_o (by omega)).trans ((u2_o (by omega)).trans (f2 q k (by omega)))))⟩)
theorem TX_fr2 {G : am_G} {I J : Nat → Nat → Int} {P P' : Nat → Nat → Option Nat} {t n : Nat} {cl : Nat → Cl} (h : TX G I P t n cl) (hf : ∀ q k, 240 ≤ q → J q k = I q k) (hp : ∀ q k, 240 ≤ q → P' q k = P q k) : TX G J P' t n cl := by
  obtain ⟨L, C, sz, sg, tl, ⟨h9, p0, s1, p1, s2, p4, s5, p6, s6, hn5, hnL, hn12, hsz, hszC, hC, hcode⟩, hj⟩ := (TX_fr h hf).2
  have ht := h.1
  exact ⟨ht, L, C, sz, sg, tl, ⟨h9, (hp _ _ ht).trans p0, s1, (hp _ _ ht).trans p1, s2, (hp _ _ ht).trans p4, s5, (hp _ _ ht).trans p6, s6, hn5, hnL, hn12, hsz, hszC, hC, hcode⟩, hj⟩
theorem k_law_o {d : Nat} {G : am_G} {I : Nat → Nat → Int} {P : Nat → Nat → Option Nat} (hS : ST G P) (hK : KS I) {b : Nat → Int} {n : Nat} (hB : TB b n) (h13 : I 64 13 = (n : Int)) (hb : ∀ k, k < n → I 171 k = sb (b k)) {i3 : Nat} (hi3 : i3 < 6) (h3 : I 65 16 = (i3 : Int)) (hR6 : 0 ≤ I 173 6 ∧ I 173 6 ≤ 1000000) (hG : 176 ≤ G.1) {m : Nat} {cl : Nat → Oc} (hp : px_text b n false = .inr (m, cl)) : ∃ o, am_call am_B am_M (d + 39) 119 [.inr (.inr (some 64))] (G, I, P) = some o ∧ (QKa G I P i3 (px_text b n false)) o := by
  have hn4 := hB.1
  refine am_doQ (L := [some (.inr (.inr (some 64)))]) (Nat.le_of_ble_eq_true rfl) rfl ?_
  refine (ex_6_0 (ix_41r (sh_64 hS) (pt_64_0 hS) (ix_41i (v := (i3 : Int)) (sh_65 hS) h3 (ex_0 ?_))))
  refine ex_ic2 (fun hc9 => ?_) (fun hc9 => by exfalso; omega)
  refine (ex_6_0 (ex_6_0 (ix_41r (sh_64 hS) (pt_64_9 hS) (ex_6_0 (ix_41r (sh_64 hS) (pt_64_10 hS) (ex_6_0 (ix_41i (v := (n : Int)) (sh_64 hS) h13 (ex_0 ?_))))))))
  obtain ⟨o_, eo, qo⟩ := k_faultOf (d := d) hS hK hB hb false
  rw [hp] at qo
  obtain ⟨I2, z, rfl, h5, hm, h7, hz, hc, hD, f2⟩ := qo
  refine (ix_46 (S' := [(.inl (-1)), (.inr (.inr (some 64)))]) rfl (sh_161 hS) eo rfl rfl (ix_42i (sh_64 hS) (ex_6_0 (ex_0 (ix_42i (sh_64 hS) (ex_6_0 (ix_41i (v := (-1)) (sh_64 hS) ((u2_k (by decide)).trans u2_e) (ex_0 (ex_ic0 (fun _ => ?_) (fun hc => by exfalso; revert hc; decide))))))))))
  refine (ex_6_0 (ix_41r (sh_64 hS) ((u2_q (by decide)).trans (pt_64_0 hS)) (ix_41r (sh_65 hS) ((u2_q (by decide)).trans (pt_65_15 hS)) (ex_6_0 (ix_41r (sh_64 hS) ((u2_q (by decide)).trans (pt_64_0 hS)) (ix_41i (v := (i3 : Int)) (sh_65 hS) ((u2_q (by decide)).trans ((u2_q (by decide)).trans ((f2 _ _ (by decide)).trans h3))) (ex_6_0 (ix_41r (sh_64 hS) ((u2_q (by decide)).trans (pt_64_9 hS)) (ix_41r (sh_161 hS) ((u2_q (by decide)).trans (pt_161_0 hS)) ?_)))))))))
  have hS2 := ST_tok (v := some 171) hS
  obtain ⟨G1, I3, P1, e3, tc⟩ := k_textCopy (d := d + 36) (I := (am_u2 (am_u2 I2 64 14 (-1)) 64 13 0)) (t := 64 + G.1) hS2 rfl (by omega) hm hz ((u2_q (by decide)).trans ((u2_q (by decide)).trans h5)) ((u2_q (by decide)).trans ((u2_q (by decide)).trans h7))
  obtain ⟨⟨g1, g2, g3, g4, g5, g6, g7, g8⟩, hcp, t5, t7⟩ := id tc
  have hS3 : ST G1 P1 := ST_new hS2 (fun q hq => g3 q (by omega)) (fun q k hq _ _ => g8 q k (by omega))
  refine (ix_46 (S' := [(.inr (.inr (some (64 + G.1)))), (.inl (i3 : Int)), (.inr (.inr (some 81)))]) rfl (sh_162 hS2) e3 rfl rfl (ix_37 (j := i3) (sh_81 hS3) (by omega) (by omega) (by omega) (by show am_ob 9 (64 + G.1) (G1, I3, P1) = true; exact am_ob_of (h := (G1, I3, P1)) g4) (ex_6_0 (ix_41r (sh_64 hS3) ((u2_q (by decide)).trans (pt_64_0 hS3)) (ex_22 rfl (ix_41i (v := (i3 : Int)) (sh_65 hS3) ((g7 _ _ (by omega)).trans ((u2_q (by decide)).trans ((u2_q (by decide)).trans ((f2 _ _ (by decide)).trans h3)))) (ex_0 (ex_add ⟨by omega, by omega⟩ (ix_42i (sh_65 hS3) (ex_6_0 (ex_6_0 (ix_41r (sh_64 hS3) ((u2_q (by decide)).trans (pt_64_0 hS3)) (ix_41i (v := ((i3 : Int) + 1)) (sh_65 hS3) u2_e (ex_0 (ex_11e (v := (i3 : Int)) ((am_sub ⟨by omega, by omega⟩).trans (by omega)) (ix_46 (S' := [(.inl (i3 : Int))]) rfl (sh_64 hS3) (k_grant (ST_new hS3 (fun q hq => rfl) (fun q k hq h1 h2 => u2_q h2))) rfl rfl ?_))))))))))))))))
  exact ex_53 (by rw [hp]; exact ⟨G1, _, _, rfl, (u2_k (by decide)).trans ((u2_q (by decide)).trans ((g7 _ _ (by omega)).trans ((u2_k (by decide)).trans u2_e))), (u2_k (by decide)).trans ((u2_q (by decide)).trans ((g7 _ _ (by omega)).trans u2_e)), u2_e, (u2_q (by decide)).trans ((u2_q (by decide)).trans ((g7 _ _ (by omega)).trans ((u2_q (by decide)).trans ((u2_q (by decide)).trans (f2 _ _ (by decide)))))), (u2_q (by decide)).trans u2_e, fun q k a0 a1 a2 a3 a4 => (u2_o (by omega)).trans ((u2_o (by omega)).trans ((g7 _ _ (by omega)).trans ((u2_o (by omega)).trans ((u2_o (by omega)).trans (f2 q k (by omega)))))), fun q k a0 a1 => (u2_o (by omega)).trans ((u2_o (by omega)).trans ((g7 _ _ a1).trans ((u2_o (by omega)).trans ((u2_o (by omega)).trans (f2 q k (by omega)))))), ST_new hS3 (fun q hq => rfl) (fun q k hq h1 h2 => u2_q h2), u2_e, TX_fr2 (TX_copy (J := I) (by omega) tc hm hz (fun k hk => by rw [u2_q (by decide), u2_q (by decide)]; exact hc k hk) (fun j hj => DC_mono (hD j hj) (fun q a1 a2 => (u2_q (by omega)).trans (u2_q (by omega))) (fun k hk => (u2_q (by decide)).trans (u2_q (by decide))) (Nat.le_refl _))) (fun q k hq => (u2_q (by omega)).trans (u2_q (by omega))) (fun q k hq => u2_q (by omega)), by rw [g1], by rw [g2]; unfold tsl; rw [if_neg (by decide)]; omega, g3, fun q k hq h1 h2 => (u2_o h2).trans ((g8 q k hq).trans (u2_o h1))⟩)
theorem k_law {d : Nat} {G : am_G} {I : Nat → Nat → Int} {P : Nat → Nat → Option Nat} (hS : ST G P) (hK : KS I) {b : Nat → Int} {n : Nat} (hB : TB b n) (h13 : I 64 13 = (n : Int)) (hb : ∀ k, k < n → I 171 k = sb (b k)) {i3 : Nat} (hi3 : i3 < 6) (h3 : I 65 16 = (i3 : Int)) (hR6 : 0 ≤ I 173 6 ∧ I 173 6 ≤ 1000000) (hG : 176 ≤ G.1) : ∃ o, am_call am_B am_M (d + 39) 119 [.inr (.inr (some 64))] (G, I, P) = some o ∧ (QKa G I P i3 (px_text b n false)) o := by
  cases hp : px_text b n false with
  | inl x => have := k_law_x (d := d) hS hK hB h13 hb hi3 h3 hR6 hp; rw [hp] at this; exact this
  | inr q => obtain ⟨m, cl⟩ := q; have := k_law_o (d := d) hS hK hB h13 hb hi3 h3 hR6 hG hp; rw [hp] at this; exact this
