/-! ===== the reference: seasons ===== -/
theorem c_drw {d : Nat} {G : am_G} {I : Nat → Nat → Int} {P : Nat → Nat → Option Nat} (hS : ST G P) {m st : Int} (h0 : I 208 55 = st) (h1 : 0 ≤ st ∧ st ≤ 1000002) (hm : 0 < m ∧ m ≤ 100) : am_call am_B am_M (d + 1) 282 [(.inr (.inr (some 208))), (.inl m)] (G, I, P) = some (some (.inl (((dnx st % m).toNat : Nat) : Int)), (G, am_u2 I 208 55 (dnx st), P)) := by
  have h := c_draw (d := d) (G := G) (P := P) hS h0 (by omega) hm
  have e : (((dnx st % m).toNat : Nat) : Int) = (st * 1103 + 12345) % 1000003 % m := Int.toNat_of_nonneg (Int.emod_nonneg _ (by omega))
  rw [e]
  exact h
theorem u2_sf {f : Nat → Nat → Int} {q k : Nat} {v : Int} : am_u2 f q k v q = am_u1 (f q) k v := by
  funext j
  rw [u2_at]
  unfold am_u1
  rfl
/-- what is done behind a ring: engaged or not, smashed or not -/
def supd (r : Nat → Int) (f how : Nat) : Nat → Int := if how = 2 then am_u1 r (15 + f) (1 - r (15 + f)) else if how = 3 then am_u1 r 8 (((r 8).toNat ^^^ 2 ^ (r (42 + f)).toNat : Nat) : Int) else r
theorem supd_2 {r : Nat → Int} {f how : Nat} (h : how = 2) : supd r f how = am_u1 r (15 + f) (1 - r (15 + f)) := by unfold supd; rw [if_pos h]
theorem supd_3 {r : Nat → Int} {f how : Nat} (h : how = 3) : supd r f how = am_u1 r 8 (((r 8).toNat ^^^ 2 ^ (r (42 + f)).toNat : Nat) : Int) := by unfold supd; rw [if_neg (by omega), if_pos h]
theorem supd_0 {r : Nat → Int} {f how : Nat} (h : how < 2) : supd r f how = r := by unfold supd; rw [if_neg (by omega), if_neg (by omega)]
theorem u1_same {r : Nat → Int} {k : Nat} {v : Int} (h : v = r k) : am_u1 r k v = r := by
  funext j
  unfold am_u1
  by_cases e : j = k
  · rw [if_pos e, h, e]
  · rw [if_neg e]
theorem c_n12_0 {d : Nat} {G : am_G} {I : Nat → Nat → Int} {P : Nat → Nat → Option Nat} {Q : am_O → Prop} (hS : ST G P) {n : Nat} {cl : Nat → Cl} {seed rg : Int} {nn i c f how : Nat} {r : Nat → Int} (hr : I 210 = r) (hR : RW r) (hf5 : f < 5) (hi : i < 100) (hh : how < 2) (hRs : RW (supd r f how)) (hLs : LawNow (supd r f how) n cl) (h20 : I 208 20 = 0) (hk : ∀ K, K 210 = m_pass (supd r f how) n cl → QF I K → am_ex (am_call am_B am_M (d + 9)) (am_B 283) (am_B 283 7) [some (.inr (.inr (some 208))), some (.inl seed), some (.inl (nn : Int)), some (.inl rg), some (.inl ((i : Int) + 1)), some (.inl (c : Int)), some (.inl (f : Int)), some (.inl (how : Int))] [] (G, K, P) Q) : am_ex (am_call am_B am_M (d + 9)) (am_B 283) (am_B 283 12) [some (.inr (.inr (some 208))), some (.inl seed), some (.inl (nn : Int)), some (.inl rg), some (.inl (i : Int)), some (.inl (c : Int)), some (.inl (f : Int)), some (.inl (how : Int))] [] (G, I, P) Q := by
  have hb8 := RW_sm hR
  have hbf := RW_by hR f hf5
  have hen := RW_en hR f hf5
  refine (ex_6_0 (ix_41r (sh_208 hS) (pt_208_3 hS) (ex_0 (ex_4_6 (ex_add ⟨by omega, by omega⟩ (ex_4_7 (ex_0 ?_)))))))
  refine ex_ic1 (fun hc167 => ?_) (fun hc167 => by exfalso; omega)
  refine (ex_6_0 (ix_41r (sh_208 hS) (pt_208_3 hS) (ex_0 (ex_4_6 (ex_add ⟨by omega, by omega⟩ (ix_30 (j := (15 + f)) (v := (r (15 + f))) (sh_210 hS) (by omega) (by omega) (by omega) (congrFun hr _) (ex_58 (ix_34 (j := (15 + f)) (sh_210 hS) (by omega) (by omega) (by omega) (ex_6_0 (ix_41r (sh_208 hS) (pt_208_3 hS) (ex_0 (ex_23 rfl (ix_30 (j := 8) (v := (((r 8).toNat : Nat) : Int)) (sh_210 hS) (by decide) (by decide) rfl ((u2_k (by omega)).trans ((congrFun hr _).trans (Int.toNat_of_nonneg hb8.1).symm)) (ex_4_7 (ex_0 ?_)))))))))))))))
  refine ex_ic1 (fun hc207 => ?_) (fun hc207 => by exfalso; omega)
  refine (ex_0 (ex_58 (ex_11e (am_xor (a := (r 8).toNat) (b := 0) (by omega) (by decide)) (ix_34 (j := 8) (sh_210 hS) (by decide) (by decide) rfl (ex_6_0 ?_)))))
  have hME : ME (am_u2 (am_u2 I 210 (15 + f) (r (15 + f))) 210 8 ((((r 8).toNat ^^^ 0) : Nat) : Int)) (supd r f how) n cl := by
    refine ⟨?_, hRs, hLs, (u2_q (by decide)).trans ((u2_q (by decide)).trans h20)⟩
    rw [u2_sf, u2_sf, hr, supd_0 hh, u1_same rfl, u1_same (by rw [Nat.xor_zero]; exact Int.toNat_of_nonneg hb8.1)]
  obtain ⟨K, eK, rK, fK⟩ := c_passIt (d := d + 1) hS hME
  refine (ix_46 (S' := []) rfl (sh_208 hS) eK rfl rfl (ex_10_4 ⟨by omega, by omega⟩ rfl (ex_28 ?_)))
  exact hk K rK (fun q k a b c d e => (fK q k a b c d e).trans ((u2_q c).trans (u2_q c)))
theorem c_n12_2 {d : Nat} {G : am_G} {I : Nat → Nat → Int} {P : Nat → Nat → Option Nat} {Q : am_O → Prop} (hS : ST G P) {n : Nat} {cl : Nat → Cl} {seed rg : Int} {nn i c f how : Nat} {r : Nat → Int} (hr : I 210 = r) (hR : RW r) (hf5 : f < 5) (hi : i < 100) (hh : how = 2) (hRs : RW (supd r f how)) (hLs : LawNow (supd r f how) n cl) (h20 : I 208 20 = 0) (hk : ∀ K, K 210 = m_pass (supd r f how) n cl → QF I K → am_ex (am_call am_B am_M (d + 9)) (am_B 283) (am_B 283 7) [some (.inr (.inr (some 208))), some (.inl seed), some (.inl (nn : Int)), some (.inl rg), some (.inl ((i : Int) + 1)), some (.inl (c : Int)), some (.inl (f : Int)), some (.inl (how : Int))] [] (G, K, P) Q) : am_ex (am_call am_B am_M (d + 9)) (am_B 283) (am_B 283 12) [some (.inr (.inr (some 208))), some (.inl seed), some (.inl (nn : Int)), some (.inl rg), some (.inl (i : Int)), some (.inl (c : Int)), some (.inl (f : Int)), some (.inl (how : Int))] [] (G, I, P) Q := by
  have hb8 := RW_sm hR
  have hbf := RW_by hR f hf5
  have hen := RW_en hR f hf5
  refine (ex_6_0 (ix_41r (sh_208 hS) (pt_208_3 hS) (ex_0 (ex_4_6 (ex_add ⟨by omega, by omega⟩ (ex_4_7 (ex_0 ?_)))))))
  refine ex_ic1 (fun hc167 => by exfalso; omega) (fun hc167 => ?_)
  refine (ex_0 (ex_6_0 (ix_41r (sh_208 hS) (pt_208_3 hS) (ex_0 (ex_4_6 (ex_add ⟨by omega, by omega⟩ (ix_30 (j := (15 + f)) (v := (r (15 + f))) (sh_210 hS) (by omega) (by omega) (by omega) (congrFun hr _) (ex_sub ⟨by omega, by omega⟩ (ex_28 (ix_34 (j := (15 + f)) (sh_210 hS) (by omega) (by omega) (by omega) (ex_6_0 (ix_41r (sh_208 hS) (pt_208_3 hS) (ex_0 (ex_23 rfl (ix_30 (j := 8) (v := (((r 8).toNat : Nat) : Int)) (sh_210 hS) (by decide) (by decide) rfl ((u2_k (by omega)).trans ((congrFun hr _).trans (Int.toNat_of_nonneg hb8.1).symm)) (ex_4_7 (ex_0 ?_)))))))))))))))))
  refine ex_ic1 (fun hc207 => ?_) (fun hc207 => by exfalso; omega)
  refine (ex_0 (ex_58 (ex_11e (am_xor (a := (r 8).toNat) (b := 0) (by omega) (by decide)) (ix_34 (j := 8) (sh_210 hS) (by decide) (by decide) rfl (ex_6_0 ?_)))))
  have hME : ME (am_u2 (am_u2 I 210 (15 + f) (1 - (r (15 + f)))) 210 8 ((((r 8).toNat ^^^ 0) : Nat) : Int)) (supd r f how) n cl := by
    refine ⟨?_, hRs, hLs, (u2_q (by decide)).trans ((u2_q (by decide)).trans h20)⟩
    rw [u2_sf, u2_sf, hr, supd_2 hh, u1_same (v := _) (k := 8) (by rw [Nat.xor_zero, Int.toNat_of_nonneg hb8.1]; unfold am_u1; rw [if_neg (by omega)])]
  obtain ⟨K, eK, rK, fK⟩ := c_passIt (d := d + 1) hS hME
  refine (ix_46 (S' := []) rfl (sh_208 hS) eK rfl rfl (ex_10_4 ⟨by omega, by omega⟩ rfl (ex_28 ?_)))
  exact hk K rK (fun q k a b c d e => (fK q k a b c d e).trans ((u2_q c).trans (u2_q c)))
theorem c_n12_3 {d : Nat} {G : am_G} {I : Nat → Nat → Int} {P : Nat → Nat → Option Nat} {Q : am_O → Prop} (hS : ST G P) {n : Nat} {cl : Nat → Cl} {seed rg : Int} {nn i c f how : Nat} {r : Nat → Int} (hr : I 210 = r) (hR : RW r) (hf5 : f < 5) (hi : i < 100) (hh : how = 3) (hRs : RW (supd r f how)) (hLs : LawNow (supd r f how) n cl) (h20 : I 208 20 = 0) (hk : ∀ K, K 210 = m_pass (supd r f how) n cl → QF I K → am_ex (am_call am_B am_M (d + 9)) (am_B 283) (am_B 283 7) [some (.inr (.inr (some 208))), some (.inl seed), some (.inl (nn : Int)), some (.inl rg), some (.inl ((i : Int) + 1)), some (.inl (c : Int)), some (.inl (f : Int)), some (.inl (how : Int))] [] (G, K, P) Q) : am_ex (am_call am_B am_M (d + 9)) (am_B 283) (am_B 283 12) [some (.inr (.inr (some 208))), some (.inl seed), some (.inl (nn : Int)), some (.inl rg), some (.inl (i : Int)), some (.inl (c : Int)), some (.inl (f : Int)), some (.inl (how : Int))] [] (G, I, P) Q := by
  have hb8 := RW_sm hR
  have hbf := RW_by hR f hf5
  have hen := RW_en hR f hf5
  refine (ex_6_0 (ix_41r (sh_208 hS) (pt_208_3 hS) (ex_0 (ex_4_6 (ex_add ⟨by omega, by omega⟩ (ex_4_7 (ex_0 ?_)))))))
  refine ex_ic1 (fun hc167 => ?_) (fun hc167 => by exfalso; omega)
  refine (ex_6_0 (ix_41r (sh_208 hS) (pt_208_3 hS) (ex_0 (ex_4_6 (ex_add ⟨by omega, by omega⟩ (ix_30 (j := (15 + f)) (v := (r (15 + f))) (sh_210 hS) (by omega) (by omega) (by omega) (congrFun hr _) (ex_58 (ix_34 (j := (15 + f)) (sh_210 hS) (by omega) (by omega) (by omega) (ex_6_0 (ix_41r (sh_208 hS) (pt_208_3 hS) (ex_0 (ex_23 rfl (ix_30 (j := 8) (v := (((r 8).toNat : Nat) : Int)) (sh_210 hS) (by decide) (by decide) rfl ((u2_k (by omega)).trans ((congrFun hr _).trans (Int.toNat_of_nonneg hb8.1).symm)) (ex_4_7 (ex_0 ?_)))))))))))))))
  refine ex_ic1 (fun hc207 => by exfalso; omega) (fun hc207 => ?_)
  refine (ex_0 (ex_6_0 (ix_41r (sh_208 hS) (pt_208_3 hS) (ex_0 (ex_4_6 (ex_add ⟨by omega, by omega⟩ (ix_30 (j := (42 + f)) (v := (((r (42 + f)).toNat : Nat) : Int)) (sh_210 hS) (by omega) (by omega) (by omega) ((u2_k (by omega)).trans ((congrFun hr _).trans (Int.toNat_of_nonneg hbf.1).symm)) (ex_11e (am_shl1 (k := (r (42 + f)).toNat) (by omega)) (ex_28 (ex_11e (am_xor (a := (r 8).toNat) (b := (2 ^ (r (42 + f)).toNat)) (by omega) (Nat.pow_lt_pow_right (by decide) (by omega))) (ix_34 (j := 8) (sh_210 hS) (by decide) (by decide) rfl (ex_6_0 ?_))))))))))))
  have hME : ME (am_u2 (am_u2 I 210 (15 + f) (r (15 + f))) 210 8 ((((r 8).toNat ^^^ (2 ^ (r (42 + f)).toNat)) : Nat) : Int)) (supd r f how) n cl := by
    refine ⟨?_, hRs, hLs, (u2_q (by decide)).trans ((u2_q (by decide)).trans h20)⟩
    rw [u2_sf, u2_sf, hr, supd_3 hh, u1_same (k := 15 + f) rfl]
  obtain ⟨K, eK, rK, fK⟩ := c_passIt (d := d + 1) hS hME
  refine (ix_46 (S' := []) rfl (sh_208 hS) eK rfl rfl (ex_10_4 ⟨by omega, by omega⟩ rfl (ex_28 ?_)))
  exact hk K rK (fun q k a b c d e => (fK q k a b c d e).trans ((u2_q c).trans (u2_q c)))
theorem c_n12 {d : Nat} {G : am_G} {I : Nat → Nat → Int} {P : Nat → Nat → Option Nat} {Q : am_O → Prop} (hS : ST G P) {n : Nat} {cl : Nat → Cl} {seed rg : Int} {nn i c f how : Nat} {r : Nat → Int} (hr : I 210 = r) (hR : RW r) (hf5 : f < 5) (hi : i < 100) (hh : how < 4) (hRs : RW (supd r f how)) (hLs : LawNow (supd r f how) n cl) (h20 : I 208 20 = 0) (hk : ∀ K, K 210 = m_pass (supd r f how) n cl → QF I K → am_ex (am_call am_B am_M (d + 9)) (am_B 283) (am_B 283 7) [some (.inr (.inr (some 208))), some (.inl seed), some (.inl (nn : Int)), some (.inl rg), some (.inl ((i : Int) + 1)), some (.inl (c : Int)), some (.inl (f : Int)), some (.inl (how : Int))] [] (G, K, P) Q) : am_ex (am_call am_B am_M (d + 9)) (am_B 283) (am_B 283 12) [some (.inr (.inr (some 208))), some (.inl seed), some (.inl (nn : Int)), some (.inl rg), some (.inl (i : Int)), some (.inl (c : Int)), some (.inl (f : Int)), some (.inl (how : Int))] [] (G, I, P) Q := by
  by_cases h2 : how < 2
  · exact c_n12_0 hS hr hR hf5 hi h2 hRs hLs h20 hk
  · by_cases h3 : how = 2
    · exact c_n12_2 hS hr hR hf5 hi h3 hRs hLs h20 hk
    · exact c_n12_3 hS hr hR hf5 hi (by omega) hRs hLs h20 hk
/-- what a season of the reference leaves as it was -/
def SFM (I J : Nat → Nat → Int) : Prop := ∀ q k, ¬ q = 228 → ¬ q = 226 → ¬ q = 210 → ¬ q = 229 → ¬ (q = 208 ∧ (k = 34 ∨ k = 38 ∨ k = 39 ∨ k = 40 ∨ k = 55)) → J q k = I q k
theorem SFM_q {I J K : Nat → Nat → Int} (h : SFM I J) (h2 : QF J K) : SFM I K := fun q k a b c d e => (h2 q k a b c d (by omega)).trans (h q k a b c d e)
def SzM (I J : Nat → Nat → Int) (ρ : Nat → Int) (n : Nat) (cl : Nat → Cl) (i : Nat) (s : Sz) : Prop := J 210 = s.1 ∧ SzI ρ n cl i s ∧ J 208 55 = s.2.1 ∧ J 208 20 = 0 ∧ SFM I J
theorem mz_213 {I J J2 : Nat → Nat → Int} {seed a b : Int} {F : Nat → Int} {j : Nat} (hF : SFM (am_u2 (am_u1 (am_u2 I 208 0 0) 213 (am_cp ((am_u2 I 208 0 0) 210) ((am_u2 I 208 0 0) 213) (5) (25 * 16) 25)) 208 55 seed) J) (g2 : ∀ q k, ¬ q = 239 → J2 q k = J q k) (hj : j < 400) : (am_u2 (am_u1 (am_u2 (am_u2 J2 208 57 a) 208 58 b) 210 F) 208 1 0) 213 j = I 213 j := by
  rw [u2_q (by decide), u1_qk (by decide), u2_q (by decide), u2_q (by decide), g2 _ _ (by decide), hF 213 j (by decide) (by decide) (by decide) (by decide) (by omega), u2_q (by decide)]
  show am_u1 (am_u2 I 208 0 0) 213 _ 213 j = I 213 j
  rw [u1_e, cp_out (by omega), u2_q (by decide)]
theorem mz_row {I J J2 : Nat → Nat → Int} {ρ r : Nat → Int} {seed a b : Int} (hρ : I 210 = ρ) (hr : J 210 = r) (hF : SFM (am_u2 (am_u1 (am_u2 I 208 0 0) 213 (am_cp ((am_u2 I 208 0 0) 210) ((am_u2 I 208 0 0) 213) (5) (25 * 16) 25)) 208 55 seed) J) (g2 : ∀ q k, ¬ q = 239 → J2 q k = J q k) (ho : ∀ j, ¬ (5 ≤ j ∧ j < 30) → r j = ρ j) : (am_u2 (am_u1 (am_u2 (am_u2 J2 208 57 a) 208 58 b) 210 (am_cp ((am_u2 (am_u2 J2 208 57 a) 208 58 b) 213) ((am_u2 (am_u2 J2 208 57 a) 208 58 b) 210) (25 * 16) (5) 25)) 208 1 0) 210 = ρ := by
  funext j
  rw [u2_q (by decide), u1_e]
  by_cases q : 5 ≤ j ∧ j < 5 + 25
  · rw [cp_in q, u2_q (by decide), u2_q (by decide), g2 _ _ (by decide), hF 213 _ (by decide) (by decide) (by decide) (by decide) (by omega), u2_q (by decide)]
    show am_u1 (am_u2 I 208 0 0) 213 _ 213 _ = ρ j
    rw [u1_e, cp_in (by omega), u2_q (by decide), hρ]
    exact congrArg ρ (by omega)
  · rw [cp_out q, u2_q (by decide), u2_q (by decide), g2 _ _ (by decide), hr]
    exact ho j (by omega)
theorem m_seasons {d : Nat} {G : am_G} {I : Nat → Nat → Int} {P : Nat → Nat → Option Nat} (hS : ST G P) {ρ : Nat → Int} {n : Nat} {cl : Nat → Cl} (hM : ME I ρ n cl) (h59 : ρ 5 ≤ 999) {seed : Int} {k : Nat} (hk1 : 1 ≤ k) (hk : k ≤ 60) (hs0 : 0 ≤ seed ∧ seed ≤ 1000000) (h00 : 0 < ρ 0) (h01 : 0 < ρ 1) : ∃ I1, am_call am_B am_M (d + 10) 283 [(.inr (.inr (some 208))), (.inl seed), (.inl (k : Int))] (G, I, P) = some (some (.inl (ssn ρ n cl seed (snk ρ k)).2.2), (G, I1, P)) ∧ (I1 208 1 = 0 ∧ I1 210 = ρ ∧ (∀ j, j < 400 → I1 213 j = I 213 j) ∧ (∀ j, j < 25 → I1 239 j = (ssn ρ n cl seed (snk ρ k)).1 (5 + j)) ∧ I1 208 57 = ρ 0 ∧ I1 208 58 = ρ 1 ∧ (∀ q k, ¬ q = 228 → ¬ q = 226 → ¬ q = 210 → ¬ q = 213 → ¬ q = 229 → ¬ q = 239 → ¬ (q = 208 ∧ (k = 0 ∨ k = 1 ∨ k = 34 ∨ k = 38 ∨ k = 39 ∨ k = 40 ∨ k = 55 ∨ k = 57 ∨ k = 58)) → I1 q k = I q k)) := by
  have w : am_ex (am_call am_B am_M (d + 9)) (am_B 283) (am_B 283 0) [some (.inr (.inr (some 208))), some (.inl seed), some (.inl (k : Int)), none, none, none, none, none] [] (G, I, P) (fun o => ∃ I1, o = (some (.inl (ssn ρ n cl seed (snk ρ k)).2.2), (G, I1, P)) ∧ (I1 208 1 = 0 ∧ I1 210 = ρ ∧ (∀ j, j < 400 → I1 213 j = I 213 j) ∧ (∀ j, j < 25 → I1 239 j = (ssn ρ n cl seed (snk ρ k)).1 (5 + j)) ∧ I1 208 57 = ρ 0 ∧ I1 208 58 = ρ 1 ∧ (∀ q k, ¬ q = 228 → ¬ q = 226 → ¬ q = 210 → ¬ q = 213 → ¬ q = 229 → ¬ q = 239 → ¬ (q = 208 ∧ (k = 0 ∨ k = 1 ∨ k = 34 ∨ k = 38 ∨ k = 39 ∨ k = 40 ∨ k = 55 ∨ k = 57 ∨ k = 58)) → I1 q k = I q k))) := by
    refine (ex_6_0 (ex_0 (ix_42i (sh_208 hS) (ex_4_1 (ex_19 (ex_1 (ex_1 ?_)))))))
    have hb11 : ((0 : Int) ≤ seed ∧ (seed : Int) ≤ 1000000) := by omega
    refine (ix_45 (S' := [(.inl 1)]) rfl (c_in_t hb11) rfl rfl (ex_if0 (fun hc => by exfalso; revert hc; decide) (fun _ => ?_)))
    refine (ex_4_2 (ex_19 (ex_1 (ex_1 ?_))))
    have hb23 : ((1 : Int) ≤ (k : Int) ∧ ((k : Int) : Int) ≤ 60) := by omega
    refine (ix_45 (S' := [(.inl 1)]) rfl (c_in_t hb23) rfl rfl (ex_if1 (fun _ => ?_) (fun hc => by exfalso; revert hc; decide)))
    refine (ex_6_0 (ix_41r (sh_208 hS) (pt_208_3 hS) (ex_0 (ix_30 (j := 0) (v := (ρ 0)) (sh_210 hS) (by decide) (by decide) rfl ((u2_q (by decide)).trans (congrFun hM.1 _)) ?_))))
    refine ex_if0 (fun hc41 => by exfalso; omega) (fun hc41 => ?_)
    refine (ex_6_0 (ix_41r (sh_208 hS) (pt_208_3 hS) (ex_0 (ix_30 (j := 1) (v := (ρ 1)) (sh_210 hS) (by decide) (by decide) rfl ((u2_q (by decide)).trans (congrFun hM.1 _)) ?_))))
    refine ex_if1 (fun hc50 => ?_) (fun hc50 => by exfalso; omega)
    refine (ex_6_0 (ex_0 (ix_46 (S' := []) rfl (sh_208 hS) (c_keepAll hS (k := 16) (by decide)) rfl rfl (ex_6_0 (ex_4_1 (ex_19 (ix_42l (sh_208 hS) (ex_0 (ex_7_3 rfl (ex_0 (ex_7_4 rfl (ex_58 ?_))))))))))))
    refine ex_forR (b := 7) (σ := Sz) (snk ρ k) (fun i s => sst n cl s) (fun i s J => SzM (am_u2 (am_u1 (am_u2 I 208 0 0) 213 (am_cp ((am_u2 I 208 0 0) 210) ((am_u2 I 208 0 0) 213) (5) (25 * 16) 25)) 208 55 seed) J ρ n cl i s) (fun i s e_i => [some (.inr (.inr (some 208))), some (.inl seed), some (.inl (k : Int)), some (.inl s.2.2), some (.inl (i : Int)), (e_i 5), (e_i 6), (e_i 7)]) ?_ (snk ρ k) (0) ((ρ, seed, 0)) (fun k_ => ([some (.inr (.inr (some 208))), some (.inl seed), some (.inl (k : Int)), some (.inl 0), some (.inl 0), none, none, none] : am_L).getD k_ none) ((am_u2 (am_u1 (am_u2 I 208 0 0) 213 (am_cp ((am_u2 I 208 0 0) 210) ((am_u2 I 208 0 0) 213) (5) (25 * 16) 25)) 208 55 seed)) (by omega) (⟨(u2_qf (by decide)).trans ((funext fun k_ => u1_qk (by decide)).trans ((u2_qf (by decide)).trans hM.1)), SzI_0 hM.2.1 hM.2.2.1 hs0, u2_e, (u2_k (by decide)).trans ((u1_qk (by decide)).trans ((u2_k (by decide)).trans hM.2.2.2)), fun q k _ _ _ _ _ => rfl⟩) rfl ?_
    · intro i s e_i J hii hvi hki
      obtain ⟨hri, hzi, h5i, h2i, hFi⟩ := hvi
      have hzi2 := hzi
      obtain ⟨z1, z2, z3, z4, z5, z6⟩ := hzi
      have hsb := snk_b (n := k) h59
      have hz0 : s.1 0 = ρ 0 := z4 0 (by omega)
      have hz1 : s.1 1 = ρ 1 := z4 1 (by omega)
      have hn0 := RW_n0 z1
      have hn1 := RW_n1 z1
      refine (ex_4_4 (ex_4_2 ?_))
      refine ex_ic3 (fun hc80 => by exfalso; omega) (fun hc80 => ?_)
      refine (ex_6_0 (ix_41r (sh_208 hS) (pt_208_3 hS) (ex_0 (ix_30 (j := 5) (v := (s.1 5)) (sh_210 hS) (by decide) (by decide) rfl (congrFun hri _) (ex_0 ?_)))))
      refine ex_ic3 (fun hc92 => by exfalso; omega) (fun hc92 => ?_)
      refine (ex_6_0 (ex_6_0 (ix_41r (sh_208 hS) (pt_208_3 hS) (ex_0 (ix_30 (j := 0) (v := (s.1 0)) (sh_210 hS) (by decide) (by decide) rfl (congrFun hri _) (ix_46 (S' := [(.inl ((scl s) : Int))]) rfl (sh_208 hS) (c_drw hS h5i (by omega) (by omega)) rfl rfl (ex_7_5 rfl (ex_6_0 (ex_6_0 (ix_41r (sh_208 hS) (pt_208_3 hS) (ex_0 (ix_30 (j := 1) (v := (s.1 1)) (sh_210 hS) (by decide) (by decide) rfl ((u2_q (by decide)).trans (congrFun hri _)) (ix_46 (S' := [(.inl ((sfo s) : Int))]) rfl (sh_208 hS) (c_drw hS u2_e dnx_b (by omega)) rfl rfl (ex_7_6 rfl (ex_6_0 (ex_0 ?_))))))))))))))))
      have hMd : ME (am_u2 (am_u2 (am_u2 J 208 55 (dnx s.2.1)) 208 55 (dnx (dnx s.2.1))) 208 55 (dnx (dnx (dnx s.2.1)))) s.1 n cl := ⟨(u2_qf (by decide)).trans ((u2_qf (by decide)).trans ((u2_qf (by decide)).trans hri)), z1, z2, (u2_k (by decide)).trans ((u2_k (by decide)).trans ((u2_k (by decide)).trans h2i))⟩
      have hFd : SFM (am_u2 (am_u1 (am_u2 I 208 0 0) 213 (am_cp ((am_u2 I 208 0 0) 210) ((am_u2 I 208 0 0) 213) (5) (25 * 16) 25)) 208 55 seed) (am_u2 (am_u2 (am_u2 J 208 55 (dnx s.2.1)) 208 55 (dnx (dnx s.2.1))) 208 55 (dnx (dnx (dnx s.2.1)))) := fun q k a b c d e => (u2_o (by omega)).trans ((u2_o (by omega)).trans ((u2_o (by omega)).trans (hFi q k a b c d e)))
      have h5d : (am_u2 (am_u2 (am_u2 J 208 55 (dnx s.2.1)) 208 55 (dnx (dnx s.2.1))) 208 55 (dnx (dnx (dnx s.2.1)))) 208 55 = dnx (dnx (dnx s.2.1)) := u2_e
      have hsc := scl_lt (z := s) (by omega)
      have hsf := sfo_lt (z := s) (by omega)
      have hsh := sho_lt (z := s)
      have hst : sst n cl s = (m_pass (ssd s.1 n cl (scl s) (sfo s) (sho s)) n cl, dnx (dnx (dnx s.2.1)), s.2.2 + srg s.1 n cl (scl s) (sfo s) (sho s)) := by unfold sst; rw [if_pos (by omega)]
      have hnx := SzI_s hzi2 h00 h01 (by omega)
      rw [hst] at hnx
      have hRd := RW_ssd (n := n) (cl := cl) (c := scl s) (f := sfo s) (how := sho s) z1 (by omega) hsh
      have hLd := LawNow_ssd (n := n) (cl := cl) (c := scl s) (f := sfo s) (how := sho s) (by omega) hsh z2
      refine (ix_46 (S' := [(.inl ((sho s) : Int))]) rfl (sh_208 hS) (c_drw hS u2_e dnx_b (by omega)) rfl rfl ?_)
      generalize (am_u2 (am_u2 (am_u2 J 208 55 (dnx s.2.1)) 208 55 (dnx (dnx s.2.1))) 208 55 (dnx (dnx (dnx s.2.1)))) = JD at *
      refine (ex_7_7 rfl (ex_4_7 (ex_0 ?_)))
      refine ex_ic3 (fun hc129 => ?_) (fun hc129 => ?_)
      · have hsup : supd s.1 (sfo s) (sho s) = ssd s.1 n cl (scl s) (sfo s) (sho s) := by unfold supd ssd; rw [if_neg (show ¬ sho s < 2 by omega)]; by_cases e : sho s = 2; (rw [if_pos e, if_pos e]); (rw [if_neg e, if_neg e, if_pos (by omega)])
        have hsg : s.2.2 = s.2.2 + srg s.1 n cl (scl s) (sfo s) (sho s) := by rw [srg_f (fun z => absurd z.1 (by omega))]; omega
        rw [hsg]
        refine c_n12 hS hMd.1 z1 (by omega) (by omega) hsh (by rw [hsup]; exact hRd) (by rw [hsup]; exact hLd) hMd.2.2.2 (fun K_ rK_ fK_ => ?_)
        rw [hsup] at rK_
        have hq := QF_trans QF_refl fK_
        exact hki (m_pass (ssd s.1 n cl (scl s) (sfo s) (sho s)) n cl, dnx (dnx (dnx s.2.1)), s.2.2 + srg s.1 n cl (scl s) (sfo s) (sho s)) (fun k_ => ([some (.inr (.inr (some 208))), some (.inl seed), some (.inl (k : Int)), some (.inl (s.2.2 + srg s.1 n cl (scl s) (sfo s) (sho s))), some (.inl ((i : Int) + 1)), some (.inl ((scl s : Nat) : Int)), some (.inl ((sfo s : Nat) : Int)), some (.inl ((sho s : Nat) : Int))] : am_L).getD k_ none) _ hst.symm ⟨rK_, hnx, (hq 208 55 (by decide) (by decide) (by decide) (by decide) (by decide)).trans h5d, (hq 208 20 (by decide) (by decide) (by decide) (by decide) (by decide)).trans hMd.2.2.2, SFM_q hFd hq⟩
      · by_cases hcan : m_can s.1 n cl (scl s) (sfo s)
        · refine (ex_6_0 (ex_4_5 (ex_4_6 ?_)))
          obtain ⟨K, eK, fK⟩ := c_canRing_t (d := d + 1) hS hMd (c := scl s) (f := sfo s) (by omega) (by omega) hcan
          refine (ix_46 (S' := [(.inl 1)]) rfl (sh_208 hS) eK rfl rfl (ex_if0 (fun hc => by exfalso; revert hc; decide) (fun _ => ?_)))
          refine (ex_6_0 (ex_4_5 (ex_4_6 ?_)))
          have hMK : ME K s.1 n cl := ⟨(funext fun k_ => fK 210 k_ (by decide) (by decide) (by omega)).trans hMd.1, z1, z2, (fK 208 20 (by decide) (by decide) (by decide)).trans hMd.2.2.2⟩
          obtain ⟨K2, eK2, rK2, fK2⟩ := c_ringIt (d := d + 1) hS hMK (c := scl s) (f := sfo s) (by omega) (by omega)
          refine (ix_46 (S' := [(.inl (m_ringv s.1 n cl (scl s) (sfo s)))]) rfl (sh_208 hS) eK2 rfl rfl (ex_24 rfl (ex_10_3 ⟨by omega, by omega⟩ rfl (ex_58 ?_))))
          have hsup : supd (m_ringr s.1 n cl (scl s) (sfo s)) (sfo s) (sho s) = ssd s.1 n cl (scl s) (sfo s) (sho s) := by rw [supd_0 (by omega), ssd_t (by omega) hcan]
          have hsg : s.2.2 + 1 = s.2.2 + srg s.1 n cl (scl s) (sfo s) (sho s) := by rw [srg_t (by omega) hcan]
          have hfr : QF JD K2 := fun q k a b c d e => (fK2 q k a b c e).trans (fK q k a b e)
          rw [hsg]
          refine c_n12 hS rK2 (RW_ringr z1 (by omega)) (by omega) (by omega) hsh (by rw [hsup]; exact hRd) (by rw [hsup]; exact hLd) ((hfr 208 20 (by decide) (by decide) (by decide) (by decide) (by decide)).trans hMd.2.2.2) (fun K_ rK_ fK_ => ?_)
          rw [hsup] at rK_
          have hq := QF_trans hfr fK_
          exact hki (m_pass (ssd s.1 n cl (scl s) (sfo s) (sho s)) n cl, dnx (dnx (dnx s.2.1)), s.2.2 + srg s.1 n cl (scl s) (sfo s) (sho s)) (fun k_ => ([some (.inr (.inr (some 208))), some (.inl seed), some (.inl (k : Int)), some (.inl (s.2.2 + srg s.1 n cl (scl s) (sfo s) (sho s))), some (.inl ((i : Int) + 1)), some (.inl ((scl s : Nat) : Int)), some (.inl ((sfo s : Nat) : Int)), some (.inl ((sho s : Nat) : Int))] : am_L).getD k_ none) _ hst.symm ⟨rK_, hnx, (hq 208 55 (by decide) (by decide) (by decide) (by decide) (by decide)).trans h5d, (hq 208 20 (by decide) (by decide) (by decide) (by decide) (by decide)).trans hMd.2.2.2, SFM_q hFd hq⟩
        · refine (ex_6_0 (ex_4_5 (ex_4_6 ?_)))
          obtain ⟨K, eK, fK⟩ := c_canRing_f (d := d + 1) hS hMd (c := scl s) (f := sfo s) (by omega) (by omega) hcan
          refine (ix_46 (S' := [(.inl 0)]) rfl (sh_208 hS) eK rfl rfl (ex_if0 (fun _ => ?_) (fun hc => by exfalso; revert hc; decide)))
          have hsup : supd s.1 (sfo s) (sho s) = ssd s.1 n cl (scl s) (sfo s) (sho s) := by rw [supd_0 (by omega), ssd_f (by omega) hcan]
          have hsg : s.2.2 = s.2.2 + srg s.1 n cl (scl s) (sfo s) (sho s) := by rw [srg_f (fun z => hcan z.2)]; omega
          rw [hsg]
          refine c_n12 hS ((funext fun k_ => fK 210 k_ (by decide) (by decide) (by omega)).trans hMd.1) z1 (by omega) (by omega) hsh (by rw [hsup]; exact hRd) (by rw [hsup]; exact hLd) ((fK 208 20 (by decide) (by decide) (by decide)).trans hMd.2.2.2) (fun K_ rK_ fK_ => ?_)
          rw [hsup] at rK_
          have hq := QF_trans (QF_TF fK) fK_
          exact hki (m_pass (ssd s.1 n cl (scl s) (sfo s) (sho s)) n cl, dnx (dnx (dnx s.2.1)), s.2.2 + srg s.1 n cl (scl s) (sfo s) (sho s)) (fun k_ => ([some (.inr (.inr (some 208))), some (.inl seed), some (.inl (k : Int)), some (.inl (s.2.2 + srg s.1 n cl (scl s) (sfo s) (sho s))), some (.inl ((i : Int) + 1)), some (.inl ((scl s : Nat) : Int)), some (.inl ((sfo s : Nat) : Int)), some (.inl ((sho s : Nat) : Int))] : am_L).getD k_ none) _ hst.symm ⟨rK_, hnx, (hq 208 55 (by decide) (by decide) (by decide) (by decide) (by decide)).trans h5d, (hq 208 20 (by decide) (by decide) (by decide) (by decide) (by decide)).trans hMd.2.2.2, SFM_q hFd hq⟩
    · intro s e_i J hsi hvi
      obtain ⟨hri, hzi, h5i, h2i, hFi⟩ := hvi
      have hzi2 := hzi
      obtain ⟨z1, z2, z3, z4, z5, z6⟩ := hzi
      have hsb := snk_b (n := k) h59
      have hz0 : s.1 0 = ρ 0 := z4 0 (by omega)
      have hz1 : s.1 1 = ρ 1 := z4 1 (by omega)
      have hn0 := RW_n0 z1
      have hn1 := RW_n1 z1
      refine (ex_4_4 (ex_4_2 ?_))
      refine ex_ic3 (fun hc80 => ?_) (fun hc80 => ?_)
      · refine (ex_0 (ex_7_4 rfl (ex_58 ?_)))
        refine ex_forR (b := 20) (σ := Unit) (25) (fun x s_ => s_) (fun x s_ J2 => (∀ j, j < x → J2 239 j = s.1 (5 + j)) ∧ (∀ q k, ¬ q = 239 → J2 q k = J q k)) (fun x s_ e_x => [some (.inr (.inr (some 208))), some (.inl seed), some (.inl (k : Int)), some (.inl s.2.2), some (.inl (x : Int)), (e_i 5), (e_i 6), (e_i 7)]) ?_ (25) (0) (()) (fun k_ => ([some (.inr (.inr (some 208))), some (.inl seed), some (.inl (k : Int)), some (.inl s.2.2), some (.inl 0), (e_i 5), (e_i 6), (e_i 7)] : am_L).getD k_ none) (J) (by omega) (⟨fun j hj => absurd hj (by omega), fun q k _ => rfl⟩) rfl ?_
        · intro x s_ e_x J2 hix hvx hkx
          obtain ⟨g1, g2⟩ := hvx
          refine (ex_4_4 (ex_0 ?_))
          refine ex_ic3 (fun hc245 => by exfalso; omega) (fun hc245 => ?_)
          refine (ex_6_0 (ix_41r (sh_208 hS) (pt_208_56 hS) (ex_4_4 (ex_6_0 (ix_41r (sh_208 hS) (pt_208_3 hS) (ex_0 (ex_4_4 (ex_add ⟨by omega, by omega⟩ (ix_30 (j := (5 + x)) (v := (s.1 (5 + x))) (sh_210 hS) (by omega) (by omega) (by omega) ((g2 210 _ (by decide)).trans (congrFun hri _)) (ix_34 (j := x) (sh_239 hS) (by omega) (by omega) (by omega) (ex_10_4 ⟨by omega, by omega⟩ rfl (ex_28 ?_))))))))))))
          exact hkx (()) (fun k_ => ([some (.inr (.inr (some 208))), some (.inl seed), some (.inl (k : Int)), some (.inl s.2.2), some (.inl ((x : Int) + 1)), (e_i 5), (e_i 6), (e_i 7)] : am_L).getD k_ none) _ (rfl) (⟨fun j hj => (by rw [u2_at]; by_cases e : j = x; (rw [if_pos e, e]); (rw [if_neg e]; exact g1 j (by omega))), fun q k a => (u2_q a).trans (g2 q k a)⟩)
        · intro s_ e_x J2 hsx hvx
          obtain ⟨g1, g2⟩ := hvx
          have hvp : 0 ≤ s.2.2 := z6.1
          refine (ex_4_4 (ex_0 ?_))
          refine ex_ic3 (fun hc245 => ?_) (fun hc245 => by exfalso; omega)
          refine (ex_6_0 (ex_6_0 (ix_41r (sh_208 hS) (pt_208_3 hS) (ex_0 (ix_30 (j := 0) (v := (s.1 0)) (sh_210 hS) (by decide) (by decide) rfl ((g2 210 _ (by decide)).trans (congrFun hri _)) (ix_42i (sh_208 hS) (ex_6_0 (ex_6_0 (ix_41r (sh_208 hS) (pt_208_3 hS) (ex_0 (ix_30 (j := 1) (v := (s.1 1)) (sh_210 hS) (by decide) (by decide) rfl ((u2_q (by decide)).trans ((g2 210 _ (by decide)).trans (congrFun hri _))) (ix_42i (sh_208 hS) (ex_6_0 (ex_0 (ix_46 (S' := []) rfl (sh_208 hS) (c_putBack hS (k := 16) (by decide)) rfl rfl (ex_6_0 (ex_4_3 (ix_46 (S' := [(.inl s.2.2)]) rfl (sh_208 hS) (c_tell_p hS hvp) rfl rfl ?_))))))))))))))))))
          exact ex_53 ⟨_, (by rw [hsi]; rfl), u2_e, mz_row hM.1 hri hFi g2 (fun j hj => z4 j hj), fun j hj => mz_213 hFi g2 hj, fun j hj => (u2_q (by decide)).trans ((u1_qk (by decide)).trans ((u2_q (by decide)).trans ((u2_q (by decide)).trans ((g1 j hj).trans (by unfold ssn; rw [← hsi]))))), (u2_k (by decide)).trans ((u1_qk (by decide)).trans ((u2_k (by decide)).trans (u2_e.trans hz0))), (u2_k (by decide)).trans ((u1_qk (by decide)).trans (u2_e.trans hz1)), fun q k a b c d e f g => (u2_o (by omega)).trans ((u1_qk c).trans ((u2_o (by omega)).trans ((u2_o (by omega)).trans ((g2 q k f).trans ((hFi q k a b c e (by omega)).trans ((u2_o (by omega)).trans ((u1_qk d).trans (u2_o (by omega)))))))))⟩
      · refine (ex_6_0 (ix_41r (sh_208 hS) (pt_208_3 hS) (ex_0 (ix_30 (j := 5) (v := (s.1 5)) (sh_210 hS) (by decide) (by decide) rfl (congrFun hri _) (ex_0 ?_)))))
        refine ex_ic3 (fun hc92 => ?_) (fun hc92 => by exfalso; omega)
        refine (ex_0 (ex_7_4 rfl (ex_58 ?_)))
        refine ex_forR (b := 20) (σ := Unit) (25) (fun x s_ => s_) (fun x s_ J2 => (∀ j, j < x → J2 239 j = s.1 (5 + j)) ∧ (∀ q k, ¬ q = 239 → J2 q k = J q k)) (fun x s_ e_x => [some (.inr (.inr (some 208))), some (.inl seed), some (.inl (k : Int)), some (.inl s.2.2), some (.inl (x : Int)), (e_i 5), (e_i 6), (e_i 7)]) ?_ (25) (0) (()) (fun k_ => ([some (.inr (.inr (some 208))), some (.inl seed), some (.inl (k : Int)), some (.inl s.2.2), some (.inl 0), (e_i 5), (e_i 6), (e_i 7)] : am_L).getD k_ none) (J) (by omega) (⟨fun j hj => absurd hj (by omega), fun q k _ => rfl⟩) rfl ?_
        · intro x s_ e_x J2 hix hvx hkx
          obtain ⟨g1, g2⟩ := hvx
          refine (ex_4_4 (ex_0 ?_))
          refine ex_ic3 (fun hc245 => by exfalso; omega) (fun hc245 => ?_)
          refine (ex_6_0 (ix_41r (sh_208 hS) (pt_208_56 hS) (ex_4_4 (ex_6_0 (ix_41r (sh_208 hS) (pt_208_3 hS) (ex_0 (ex_4_4 (ex_add ⟨by omega, by omega⟩ (ix_30 (j := (5 + x)) (v := (s.1 (5 + x))) (sh_210 hS) (by omega) (by omega) (by omega) ((g2 210 _ (by decide)).trans (congrFun hri _)) (ix_34 (j := x) (sh_239 hS) (by omega) (by omega) (by omega) (ex_10_4 ⟨by omega, by omega⟩ rfl (ex_28 ?_))))))))))))
          exact hkx (()) (fun k_ => ([some (.inr (.inr (some 208))), some (.inl seed), some (.inl (k : Int)), some (.inl s.2.2), some (.inl ((x : Int) + 1)), (e_i 5), (e_i 6), (e_i 7)] : am_L).getD k_ none) _ (rfl) (⟨fun j hj => (by rw [u2_at]; by_cases e : j = x; (rw [if_pos e, e]); (rw [if_neg e]; exact g1 j (by omega))), fun q k a => (u2_q a).trans (g2 q k a)⟩)
        · intro s_ e_x J2 hsx hvx
          obtain ⟨g1, g2⟩ := hvx
          have hvp : 0 ≤ s.2.2 := z6.1
          refine (ex_4_4 (ex_0 ?_))
          refine ex_ic3 (fun hc245 => ?_) (fun hc245 => by exfalso; omega)
          refine (ex_6_0 (ex_6_0 (ix_41r (sh_208 hS) (pt_208_3 hS) (ex_0 (ix_30 (j := 0) (v := (s.1 0)) (sh_210 hS) (by decide) (by decide) rfl ((g2 210 _ (by decide)).trans (congrFun hri _)) (ix_42i (sh_208 hS) (ex_6_0 (ex_6_0 (ix_41r (sh_208 hS) (pt_208_3 hS) (ex_0 (ix_30 (j := 1) (v := (s.1 1)) (sh_210 hS) (by decide) (by decide) rfl ((u2_q (by decide)).trans ((g2 210 _ (by decide)).trans (congrFun hri _))) (ix_42i (sh_208 hS) (ex_6_0 (ex_0 (ix_46 (S' := []) rfl (sh_208 hS) (c_putBack hS (k := 16) (by decide)) rfl rfl (ex_6_0 (ex_4_3 (ix_46 (S' := [(.inl s.2.2)]) rfl (sh_208 hS) (c_tell_p hS hvp) rfl rfl ?_))))))))))))))))))
          exact ex_53 ⟨_, (by rw [hsi]; rfl), u2_e, mz_row hM.1 hri hFi g2 (fun j hj => z4 j hj), fun j hj => mz_213 hFi g2 hj, fun j hj => (u2_q (by decide)).trans ((u1_qk (by decide)).trans ((u2_q (by decide)).trans ((u2_q (by decide)).trans ((g1 j hj).trans (by unfold ssn; rw [← hsi]))))), (u2_k (by decide)).trans ((u1_qk (by decide)).trans ((u2_k (by decide)).trans (u2_e.trans hz0))), (u2_k (by decide)).trans ((u1_qk (by decide)).trans (u2_e.trans hz1)), fun q k a b c d e f g => (u2_o (by omega)).trans ((u1_qk c).trans ((u2_o (by omega)).trans ((u2_o (by omega)).trans ((g2 q k f).trans ((hFi q k a b c e (by omega)).trans ((u2_o (by omega)).trans ((u1_qk d).trans (u2_o (by omega)))))))))⟩
  obtain ⟨o, e, I1, rfl, h⟩ := am_doQ (as := [(.inr (.inr (some 208))), (.inl seed), (.inl (k : Int))]) (Nat.le_of_ble_eq_true rfl) rfl w
  exact ⟨I1, e, h⟩
