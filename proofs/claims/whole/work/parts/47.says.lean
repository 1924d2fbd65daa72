/-! ===== the class: what the law in force says ===== -/
/-- a text as it lies in the heap -/
def TXB (G : am_G) (I : Nat → Nat → Int) (P : Nat → Nat → Option Nat) (t L C sz n : Nat) (sg tl : Nat → Nat) : Prop := G.2.2 t = .inr 9 ∧ P t 0 = some (t + 1) ∧ G.2.2 (t + 1) = .inl (0, L) ∧ P t 1 = some (t + 2) ∧ G.2.2 (t + 2) = .inl (0, L) ∧ P t 4 = some (t + 5) ∧ G.2.2 (t + 5) = .inl (0, L) ∧ P t 6 = some (t + 6) ∧ G.2.2 (t + 6) = .inl (0, C) ∧ I t 5 = (n : Int) ∧ n ≤ L ∧ n ≤ 12 ∧ I t 7 = (sz : Int) ∧ sz ≤ C ∧ C ≤ 500 ∧ (∀ k, k < sz → I (t + 6) k = ((tl k * 16 + sg k : Nat) : Int) ∧ sg k < 16 ∧ tl k < 100000000)
theorem TXB_fr {G : am_G} {I J : Nat → Nat → Int} {P : Nat → Nat → Option Nat} {t L C sz n : Nat} {sg tl : Nat → Nat} (h : TXB G I P t L C sz n sg tl) (hf : ∀ q k, t ≤ q → q ≤ t + 6 → J q k = I q k) : TXB G J P t L C sz n sg tl := by
  obtain ⟨h9, p0, s1, p1, s2, p4, s5, p6, s6, hn5, hnL, hn12, hsz, hszC, hC, hcode⟩ := h
  exact ⟨h9, p0, s1, p1, s2, p4, s5, p6, s6, (hf _ _ (by omega) (by omega)).trans hn5, hnL, hn12, (hf _ _ (by omega) (by omega)).trans hsz, hszC, hC, fun k hk => ⟨(hf _ _ (by omega) (by omega)).trans (hcode k hk).1, (hcode k hk).2⟩⟩
/-- signs from a up to an END at b that come to s -/
def CS (sg tl : Nat → Nat) (sz nw a b : Nat) (s : Fn) : Prop := a ≤ b ∧ b < sz ∧ b ≤ 400 ∧ sg b = 0 ∧ ∀ w, okw w → (∀ v, s w = some v → rkb v) ∧ cseg (opK sg) (argK tl) (wvC w nw) a b 32 (s w)
/-- a clause of a law as it lies in a text -/
def TCl (I : Nat → Nat → Int) (t sz : Nat) (sg tl : Nat → Nat) (j : Nat) (c : Cl) : Prop := I (t + 1) j = (c.1 : Int) ∧ c.1 < 4 ∧ (c.2.1 = none → I (t + 2) j = -1) ∧ (∀ s, c.2.1 = some s → ∃ a b : Nat, I (t + 2) j = (a : Int) ∧ CS sg tl sz 9 a b s) ∧ (c.2.2 = none → I (t + 5) j = -1) ∧ (∀ s, c.2.2 = some s → ∃ a b : Nat, I (t + 5) j = (a : Int) ∧ CS sg tl sz 9 a b s)
def TX (G : am_G) (I : Nat → Nat → Int) (P : Nat → Nat → Option Nat) (t n : Nat) (cl : Nat → Cl) : Prop := 240 ≤ t ∧ ∃ L C sz sg tl, TXB G I P t L C sz n sg tl ∧ ∀ j, j < n → TCl I t sz sg tl j (cl j)
theorem TCl_fr {I J : Nat → Nat → Int} {t sz j : Nat} {sg tl : Nat → Nat} {c : Cl} (h : TCl I t sz sg tl j c) (hf : ∀ q k, t ≤ q → q ≤ t + 6 → J q k = I q k) : TCl J t sz sg tl j c := by
  unfold TCl
  rw [hf (t + 1) j (by omega) (by omega), hf (t + 2) j (by omega) (by omega), hf (t + 5) j (by omega) (by omega)]
  exact h
theorem TX_fr {G : am_G} {I J : Nat → Nat → Int} {P : Nat → Nat → Option Nat} {t n : Nat} {cl : Nat → Cl} (h : TX G I P t n cl) (hf : ∀ q k, 240 ≤ q → J q k = I q k) : TX G J P t n cl := by
  obtain ⟨h1, L, C, sz, sg, tl, h2, h3⟩ := h
  exact ⟨h1, L, C, sz, sg, tl, TXB_fr h2 (fun q k a _ => hf q k (by omega)), fun j hj => TCl_fr (h3 j hj) (fun q k a _ => hf q k (by omega))⟩
/-- the law in force, on the class's side -/
def LWn (G : am_G) (I : Nat → Nat → Int) (P : Nat → Nat → Option Nat) (c : Nat) (ρ : Nat → Int) (n : Nat) (cl : Nat → Cl) : Prop := (ρ 4 = -1 ∧ n = 0) ∨ ∃ i4 t : Nat, i4 < 6 ∧ ρ 4 = (i4 : Int) ∧ P (c + 16) i4 = some t ∧ TX G I P t n cl
def CE (G : am_G) (I : Nat → Nat → Int) (P : Nat → Nat → Option Nat) (c : Nat) (ρ : Nat → Int) (n : Nat) (cl : Nat → Cl) : Prop := CC I c ρ ∧ RW ρ ∧ LWn G I P c ρ n cl
def LF (I J : Nat → Nat → Int) : Prop := ∀ q k, ¬ q = 89 → ¬ q = 90 → J q k = I q k
theorem LF_refl {I : Nat → Nat → Int} : LF I I := fun _ _ _ _ => rfl
theorem LF_trans {I J K : Nat → Nat → Int} (h : LF I J) (h2 : LF J K) : LF I K := fun q k a b => (h2 q k a b).trans (h q k a b)
theorem CC_LF {I J : Nat → Nat → Int} {c : Nat} {ρ : Nat → Int} (hC : CQ c) (h : CC I c ρ) (hf : LF I J) : CC J c ρ := CC_fr h (fun q k h1 h2 _ => hf q k (by unfold CQ at hC; omega) (by unfold CQ at hC; omega))
theorem LWn_fr {G : am_G} {I J : Nat → Nat → Int} {P : Nat → Nat → Option Nat} {c n : Nat} {ρ : Nat → Int} {cl : Nat → Cl} (h : LWn G I P c ρ n cl) (hf : ∀ q k, 240 ≤ q → J q k = I q k) : LWn G J P c ρ n cl := by
  rcases h with h | ⟨i4, t, h1, h2, h3, h4⟩
  · exact Or.inl h
  · exact Or.inr ⟨i4, t, h1, h2, h3, TX_fr h4 hf⟩
theorem CE_LF {G : am_G} {I J : Nat → Nat → Int} {P : Nat → Nat → Option Nat} {c n : Nat} {ρ : Nat → Int} {cl : Nat → Cl} (hC : CQ c) (h : CE G I P c ρ n cl) (hf : LF I J) : CE G J P c ρ n cl := ⟨CC_LF hC h.1 hf, h.2.1, LWn_fr h.2.2 (fun q k a => hf q k (by omega) (by omega))⟩
/-- a text's piece worked out -/
theorem k_valG {d : Nat} {G : am_G} {I : Nat → Nat → Int} {P : Nat → Nat → Option Nat} {t L C sz n wq sq nw a b : Nat} {sg tl : Nat → Nat} {s : Fn} {w : Nat → Int} (hT : TXB G I P t L C sz n sg tl) (hws : G.2.2 wq = .inl (0, nw)) (hss : G.2.2 sq = .inl (0, 32)) (hn1 : ¬ wq = sq) (hq : sq < t ∨ t + 6 < sq) (hw : ∀ k, k < nw → I wq k = w k) (hnw : nw ≤ 100) (hok : okw w) (hs : CS sg tl sz nw a b s) : ∃ r', am_call am_B am_M (d + 2) 96 [.inr (.inr (some t)), .inl (a : Int), .inr (.inr (some wq)), .inr (.inr (some sq))] (G, I, P) = some (some (.inl ((s w).getD (-2000000000))), (G, am_u1 I sq r', P)) := by
  obtain ⟨h9, p0, s1, p1, s2, p4, s5, p6, s6, hn5, hnL, hn12, hsz, hszC, hC, hcode⟩ := hT
  obtain ⟨e1, e2, e3, e4, e5⟩ := hs
  exact k_value h9 p6 s6 hsz hszC hC hws hss hn1 (by omega) (by omega) hcode hw hnw e2 e4 e1 (e5 w hok).2 e3
theorem words9 {J : Nat → Nat → Int} {w : Nat → Int} (h0 : J 89 0 = w 0) (h1 : J 89 1 = w 1) (h2 : J 89 2 = w 2) (h3 : J 89 3 = w 3) (h4 : J 89 4 = w 4) (h5 : J 89 5 = w 5) (h6 : J 89 6 = w 6) (h7 : J 89 7 = w 7) (h8 : J 89 8 = w 8) : ∀ k, k < 9 → J 89 k = w k := by
  intro k hk
  have : k = 0 ∨ k = 1 ∨ k = 2 ∨ k = 3 ∨ k = 4 ∨ k = 5 ∨ k = 6 ∨ k = 7 ∨ k = 8 := by omega
  rcases this with rfl | rfl | rfl | rfl | rfl | rfl | rfl | rfl | rfl <;> assumption
theorem wl_5f {ρ : Nat → Int} {c f : Nat} : wl ρ c (f : Int) 5 = ((m_knows ρ c f : Nat) : Int) := by
  show (if (f : Int) = -1 then (-1 : Int) else ((m_knows ρ c (f : Int).toNat : Nat) : Int)) = _
  rw [if_neg (by omega), Int.toNat_natCast]
theorem wl_6f {ρ : Nat → Int} {c f : Nat} : wl ρ c (f : Int) 6 = ρ (20 + f) := by
  show (if (f : Int) = -1 then (-1 : Int) else ρ (20 + (f : Int).toNat)) = _
  rw [if_neg (by omega), Int.toNat_natCast]
theorem k_words_n {d : Nat} {G : am_G} {I : Nat → Nat → Int} {P : Nat → Nat → Option Nat} (hS : ST G P) {c : Nat} (hCc : CQ c) {ρ : Nat → Int} {n : Nat} {cl : Nat → Cl} (hE : CE G I P c ρ n cl) {c1 : Nat} (hc : c1 < 6) : ∃ I1, am_call am_B am_M (d + 2) 39 [(.inr (.inr (some 88))), (.inr (.inr (some c))), (.inl (c1 : Int)), (.inl (-1))] (G, I, P) = some (none, (G, I1, P)) ∧ ((∀ k, k < 9 → I1 89 k = wl ρ c1 (-1) k) ∧ (∀ q k, ¬ q = 89 → I1 q k = I q k)) := by
  have hki := RW_ki hE.2.1 c1 hc
  have hqc : c = 65 ∨ c = 93 ∨ c = 122 ∨ c = 139 ∨ c = 174 ∨ c = 191 := hCc
  have w : am_ex (am_call am_B am_M (d + 1)) (am_B 39) (am_B 39 0) [some (.inr (.inr (some 88))), some (.inr (.inr (some c))), some (.inl (c1 : Int)), some (.inl (-1)), none] [] (G, I, P) (fun o => ∃ I1, o = (none, (G, I1, P)) ∧ ((∀ k, k < 9 → I1 89 k = wl ρ c1 (-1) k) ∧ (∀ q k, ¬ q = 89 → I1 q k = I q k))) := by
    refine (ex_6_1 (ex_4_3 ?_))
    have hb2 : ¬ (((0 : Int) ≤ (-1) ∧ (-1) < ρ 1)) := by omega
    refine (ix_46 (S' := [(.inl 0)]) rfl (cs_0 hS hCc) (k_hasFolk_f hS hCc hE.1 hb2) rfl rfl (ex_7_4 rfl (ex_6_0 (ix_41r (sh_88 hS) (pt_88_0 hS) (ex_0 (ex_4_2 (ix_34 (j := 0) (sh_89 hS) (by decide) (by decide) rfl (ex_6_0 (ix_41r (sh_88 hS) (pt_88_0 hS) (ex_0 (ex_6_1 (ix_41r (cs_0 hS hCc) (cp_0_1 hS hCc) (ex_4_2 (ix_30 (j := c1) (cs_5 hS hCc) (by omega) (by omega) (by omega) ((u2_q (by omega)).trans (CC_ki hE.1 c1 (by omega))) (ix_34 (j := 1) (sh_89 hS) (by decide) (by decide) rfl (ex_6_0 (ix_41r (sh_88 hS) (pt_88_0 hS) (ex_0 (ex_6_1 (ix_41r (cs_0 hS hCc) (cp_0_2 hS hCc) (ex_4_2 (ix_30 (j := c1) (cs_6 hS hCc) (by omega) (by omega) (by omega) ((u2_q (by omega)).trans ((u2_q (by omega)).trans (CC_ra hE.1 c1 (by omega)))) (ix_34 (j := 2) (sh_89 hS) (by decide) (by decide) rfl (ex_6_0 (ix_41r (sh_88 hS) (pt_88_0 hS) (ex_0 (ex_6_1 (ix_41r (cs_0 hS hCc) (cp_0_3 hS hCc) (ex_4_2 (ix_30 (j := c1) (cs_7 hS hCc) (by omega) (by omega) (by omega) ((u2_q (by omega)).trans ((u2_q (by omega)).trans ((u2_q (by omega)).trans (CC_at hE.1 c1 (by omega))))) (ix_34 (j := 3) (sh_89 hS) (by decide) (by decide) rfl (ex_6_0 (ix_41r (sh_88 hS) (pt_88_0 hS) (ex_0 (ex_4_3 (ix_34 (j := 4) (sh_89 hS) (by decide) (by decide) rfl (ex_6_0 (ix_41r (sh_88 hS) (pt_88_0 hS) (ex_0 (ex_4_4 (ex_if1 (fun hc => by exfalso; revert hc; decide) (fun _ => ?_))))))))))))))))))))))))))))))))))))))))))
    refine (ex_0 (ex_28 (ix_34 (j := 5) (sh_89 hS) (by decide) (by decide) rfl (ex_6_0 (ix_41r (sh_88 hS) (pt_88_0 hS) (ex_0 (ex_4_4 (ex_if0 (fun _ => ?_) (fun hc => by exfalso; revert hc; decide)))))))))
    refine (ex_0 (ex_58 (ix_34 (j := 6) (sh_89 hS) (by decide) (by decide) rfl (ex_6_0 (ix_41r (sh_88 hS) (pt_88_0 hS) (ex_0 (ex_6_1 (ix_41r (cs_0 hS hCc) (cp_0_14 hS hCc) (ex_0 (ix_30 (j := 0) (cs_15 hS hCc) (by decide) (by decide) rfl ((u2_q (by omega)).trans ((u2_q (by omega)).trans ((u2_q (by omega)).trans ((u2_q (by omega)).trans ((u2_q (by omega)).trans ((u2_q (by omega)).trans ((u2_q (by omega)).trans (CC_te hE.1 0 (by decide))))))))) (ix_34 (j := 7) (sh_89 hS) (by decide) (by decide) rfl (ex_6_0 (ix_41r (sh_88 hS) (pt_88_0 hS) (ex_0 (ex_6_1 (ix_41r (cs_0 hS hCc) (cp_0_14 hS hCc) (ex_0 (ix_30 (j := 2) (cs_15 hS hCc) (by decide) (by decide) rfl ((u2_q (by omega)).trans ((u2_q (by omega)).trans ((u2_q (by omega)).trans ((u2_q (by omega)).trans ((u2_q (by omega)).trans ((u2_q (by omega)).trans ((u2_q (by omega)).trans ((u2_q (by omega)).trans (CC_te hE.1 2 (by decide)))))))))) (ix_34 (j := 8) (sh_89 hS) (by decide) (by decide) rfl ?_)))))))))))))))))))
    exact ex_56 ⟨_, rfl, words9 rfl rfl rfl rfl rfl rfl rfl rfl rfl, fun q k h1 => (u2_q h1).trans ((u2_q h1).trans ((u2_q h1).trans ((u2_q h1).trans ((u2_q h1).trans ((u2_q h1).trans ((u2_q h1).trans ((u2_q h1).trans (u2_q h1))))))))⟩
  obtain ⟨o, e, I1, rfl, h⟩ := am_doQ (as := [(.inr (.inr (some 88))), (.inr (.inr (some c))), (.inl (c1 : Int)), (.inl (-1))]) (Nat.le_of_ble_eq_true rfl) rfl w
  exact ⟨I1, e, h⟩
theorem k_words_f {d : Nat} {G : am_G} {I : Nat → Nat → Int} {P : Nat → Nat → Option Nat} (hS : ST G P) {c : Nat} (hCc : CQ c) {ρ : Nat → Int} {n : Nat} {cl : Nat → Cl} (hE : CE G I P c ρ n cl) {c1 : Nat} (hc : c1 < 6) {f : Nat} (hf : f < 5) (hf1 : (f : Int) < ρ 1) : ∃ I1, am_call am_B am_M (d + 2) 39 [(.inr (.inr (some 88))), (.inr (.inr (some c))), (.inl (c1 : Int)), (.inl (f : Int))] (G, I, P) = some (none, (G, I1, P)) ∧ ((∀ k, k < 9 → I1 89 k = wl ρ c1 (f : Int) k) ∧ (∀ q k, ¬ q = 89 → I1 q k = I q k)) := by
  have hki := RW_ki hE.2.1 c1 hc
  have hqc : c = 65 ∨ c = 93 ∨ c = 122 ∨ c = 139 ∨ c = 174 ∨ c = 191 := hCc
  have hea := RW_ea hE.2.1 f hf
  have hkn := m_knows_1 (ρ := ρ) (c := c1) (f := f)
  have w : am_ex (am_call am_B am_M (d + 1)) (am_B 39) (am_B 39 0) [some (.inr (.inr (some 88))), some (.inr (.inr (some c))), some (.inl (c1 : Int)), some (.inl (f : Int)), none] [] (G, I, P) (fun o => ∃ I1, o = (none, (G, I1, P)) ∧ ((∀ k, k < 9 → I1 89 k = wl ρ c1 (f : Int) k) ∧ (∀ q k, ¬ q = 89 → I1 q k = I q k))) := by
    refine (ex_6_1 (ex_4_3 ?_))
    have hb2 : ((0 : Int) ≤ (f : Int) ∧ (f : Int) < ρ 1) := by omega
    refine (ix_46 (S' := [(.inl 1)]) rfl (cs_0 hS hCc) (k_hasFolk_t hS hCc hE.1 hb2) rfl rfl (ex_7_4 rfl (ex_6_0 (ix_41r (sh_88 hS) (pt_88_0 hS) (ex_0 (ex_4_2 (ix_34 (j := 0) (sh_89 hS) (by decide) (by decide) rfl (ex_6_0 (ix_41r (sh_88 hS) (pt_88_0 hS) (ex_0 (ex_6_1 (ix_41r (cs_0 hS hCc) (cp_0_1 hS hCc) (ex_4_2 (ix_30 (j := c1) (cs_5 hS hCc) (by omega) (by omega) (by omega) ((u2_q (by omega)).trans (CC_ki hE.1 c1 (by omega))) (ix_34 (j := 1) (sh_89 hS) (by decide) (by decide) rfl (ex_6_0 (ix_41r (sh_88 hS) (pt_88_0 hS) (ex_0 (ex_6_1 (ix_41r (cs_0 hS hCc) (cp_0_2 hS hCc) (ex_4_2 (ix_30 (j := c1) (cs_6 hS hCc) (by omega) (by omega) (by omega) ((u2_q (by omega)).trans ((u2_q (by omega)).trans (CC_ra hE.1 c1 (by omega)))) (ix_34 (j := 2) (sh_89 hS) (by decide) (by decide) rfl (ex_6_0 (ix_41r (sh_88 hS) (pt_88_0 hS) (ex_0 (ex_6_1 (ix_41r (cs_0 hS hCc) (cp_0_3 hS hCc) (ex_4_2 (ix_30 (j := c1) (cs_7 hS hCc) (by omega) (by omega) (by omega) ((u2_q (by omega)).trans ((u2_q (by omega)).trans ((u2_q (by omega)).trans (CC_at hE.1 c1 (by omega))))) (ix_34 (j := 3) (sh_89 hS) (by decide) (by decide) rfl (ex_6_0 (ix_41r (sh_88 hS) (pt_88_0 hS) (ex_0 (ex_4_3 (ix_34 (j := 4) (sh_89 hS) (by decide) (by decide) rfl (ex_6_0 (ix_41r (sh_88 hS) (pt_88_0 hS) (ex_0 (ex_4_4 (ex_if1 (fun _ => ?_) (fun hc => by exfalso; revert hc; decide))))))))))))))))))))))))))))))))))))))))))
    refine (ex_6_1 (ex_4_3 (ex_4_2 ?_)))
    have hcw : CC (am_u2 (am_u2 (am_u2 (am_u2 (am_u2 I 89 0 (c1 : Int)) 89 1 (ρ (30 + c1))) 89 2 (ρ (36 + c1))) 89 3 (ρ (9 + c1))) 89 4 (f : Int)) c ρ := CC_fr hE.1 (fun q k h1 h2 _ => (u2_q (by omega)).trans ((u2_q (by omega)).trans ((u2_q (by omega)).trans ((u2_q (by omega)).trans (u2_q (by omega))))))
    by_cases hb74 : (m_knows ρ c1 f = 1)
    · refine (ix_46 (S' := [(.inl 1), (.inl 5), (.inr (.inr (some 89)))]) rfl (cs_0 hS hCc) (k_hears_t hS hCc hcw hf hc hea hki hb74) rfl rfl (ex_if0 (fun hc => by exfalso; revert hc; decide) (fun _ => ?_)))
      refine (ex_0 (ex_28 (ix_34 (j := 5) (sh_89 hS) (by decide) (by decide) rfl (ex_6_0 (ix_41r (sh_88 hS) (pt_88_0 hS) (ex_0 (ex_4_4 (ex_if0 (fun hc => by exfalso; revert hc; decide) (fun _ => ?_)))))))))
      refine (ex_6_1 (ix_41r (cs_0 hS hCc) (cp_0_8 hS hCc) (ex_4_3 (ix_30 (j := f) (cs_11 hS hCc) (by omega) (by omega) (by omega) ((u2_q (by omega)).trans ((u2_q (by omega)).trans ((u2_q (by omega)).trans ((u2_q (by omega)).trans ((u2_q (by omega)).trans ((u2_q (by omega)).trans (CC_we hE.1 f (by omega)))))))) (ex_28 (ix_34 (j := 6) (sh_89 hS) (by decide) (by decide) rfl (ex_6_0 (ix_41r (sh_88 hS) (pt_88_0 hS) (ex_0 (ex_6_1 (ix_41r (cs_0 hS hCc) (cp_0_14 hS hCc) (ex_0 (ix_30 (j := 0) (cs_15 hS hCc) (by decide) (by decide) rfl ((u2_q (by omega)).trans ((u2_q (by omega)).trans ((u2_q (by omega)).trans ((u2_q (by omega)).trans ((u2_q (by omega)).trans ((u2_q (by omega)).trans ((u2_q (by omega)).trans (CC_te hE.1 0 (by decide))))))))) (ix_34 (j := 7) (sh_89 hS) (by decide) (by decide) rfl (ex_6_0 (ix_41r (sh_88 hS) (pt_88_0 hS) (ex_0 (ex_6_1 (ix_41r (cs_0 hS hCc) (cp_0_14 hS hCc) (ex_0 (ix_30 (j := 2) (cs_15 hS hCc) (by decide) (by decide) rfl ((u2_q (by omega)).trans ((u2_q (by omega)).trans ((u2_q (by omega)).trans ((u2_q (by omega)).trans ((u2_q (by omega)).trans ((u2_q (by omega)).trans ((u2_q (by omega)).trans ((u2_q (by omega)).trans (CC_te hE.1 2 (by decide)))))))))) (ix_34 (j := 8) (sh_89 hS) (by decide) (by decide) rfl ?_))))))))))))))))))))))
      exact ex_56 ⟨_, rfl, words9 rfl rfl rfl rfl rfl (by rw [wl_5f]; show 1 = _; omega) wl_6f.symm rfl rfl, fun q k h1 => (u2_q h1).trans ((u2_q h1).trans ((u2_q h1).trans ((u2_q h1).trans ((u2_q h1).trans ((u2_q h1).trans ((u2_q h1).trans ((u2_q h1).trans (u2_q h1))))))))⟩
    · refine (ix_46 (S' := [(.inl 0), (.inl 5), (.inr (.inr (some 89)))]) rfl (cs_0 hS hCc) (k_hears_f hS hCc hcw hf hc hea hki (by omega)) rfl rfl (ex_if0 (fun _ => ?_) (fun hc => by exfalso; revert hc; decide)))
      refine (ex_0 (ex_58 (ix_34 (j := 5) (sh_89 hS) (by decide) (by decide) rfl (ex_6_0 (ix_41r (sh_88 hS) (pt_88_0 hS) (ex_0 (ex_4_4 (ex_if0 (fun hc => by exfalso; revert hc; decide) (fun _ => ?_)))))))))
      refine (ex_6_1 (ix_41r (cs_0 hS hCc) (cp_0_8 hS hCc) (ex_4_3 (ix_30 (j := f) (cs_11 hS hCc) (by omega) (by omega) (by omega) ((u2_q (by omega)).trans ((u2_q (by omega)).trans ((u2_q (by omega)).trans ((u2_q (by omega)).trans ((u2_q (by omega)).trans ((u2_q (by omega)).trans (CC_we hE.1 f (by omega)))))))) (ex_28 (ix_34 (j := 6) (sh_89 hS) (by decide) (by decide) rfl (ex_6_0 (ix_41r (sh_88 hS) (pt_88_0 hS) (ex_0 (ex_6_1 (ix_41r (cs_0 hS hCc) (cp_0_14 hS hCc) (ex_0 (ix_30 (j := 0) (cs_15 hS hCc) (by decide) (by decide) rfl ((u2_q (by omega)).trans ((u2_q (by omega)).trans ((u2_q (by omega)).trans ((u2_q (by omega)).trans ((u2_q (by omega)).trans ((u2_q (by omega)).trans ((u2_q (by omega)).trans (CC_te hE.1 0 (by decide))))))))) (ix_34 (j := 7) (sh_89 hS) (by decide) (by decide) rfl (ex_6_0 (ix_41r (sh_88 hS) (pt_88_0 hS) (ex_0 (ex_6_1 (ix_41r (cs_0 hS hCc) (cp_0_14 hS hCc) (ex_0 (ix_30 (j := 2) (cs_15 hS hCc) (by decide) (by decide) rfl ((u2_q (by omega)).trans ((u2_q (by omega)).trans ((u2_q (by omega)).trans ((u2_q (by omega)).trans ((u2_q (by omega)).trans ((u2_q (by omega)).trans ((u2_q (by omega)).trans ((u2_q (by omega)).trans (CC_te hE.1 2 (by decide)))))))))) (ix_34 (j := 8) (sh_89 hS) (by decide) (by decide) rfl ?_))))))))))))))))))))))
      exact ex_56 ⟨_, rfl, words9 rfl rfl rfl rfl rfl (by rw [wl_5f]; show 0 = _; omega) wl_6f.symm rfl rfl, fun q k h1 => (u2_q h1).trans ((u2_q h1).trans ((u2_q h1).trans ((u2_q h1).trans ((u2_q h1).trans ((u2_q h1).trans ((u2_q h1).trans ((u2_q h1).trans (u2_q h1))))))))⟩
  obtain ⟨o, e, I1, rfl, h⟩ := am_doQ (as := [(.inr (.inr (some 88))), (.inr (.inr (some c))), (.inl (c1 : Int)), (.inl (f : Int))]) (Nat.le_of_ble_eq_true rfl) rfl w
  exact ⟨I1, e, h⟩
theorem k_words {d : Nat} {G : am_G} {I : Nat → Nat → Int} {P : Nat → Nat → Option Nat} (hS : ST G P) {c : Nat} (hCc : CQ c) {ρ : Nat → Int} {n : Nat} {cl : Nat → Cl} (hE : CE G I P c ρ n cl) {c1 : Nat} (hc : c1 < 6) {f : Int} (hf : -1 ≤ f ∧ f < ρ 1) : ∃ I1, am_call am_B am_M (d + 2) 39 [.inr (.inr (some 88)), .inr (.inr (some c)), .inl (c1 : Int), .inl f] (G, I, P) = some (none, (G, I1, P)) ∧ (∀ k, k < 9 → I1 89 k = wl ρ c1 f k) ∧ (∀ q k, ¬ q = 89 → I1 q k = I q k) := by
  have h5 := RW_n1 hE.2.1
  by_cases hn : f = -1
  · subst hn; exact k_words_n hS hCc hE hc
  · obtain ⟨g, rfl⟩ : ∃ g : Nat, f = (g : Int) := ⟨f.toNat, by omega⟩
    exact k_words_f hS hCc hE hc (by omega) (by omega)
theorem law_succ {cl : Nat → Cl} {vb m : Nat} {w : Nat → Int} : law_say (m + 1) cl vb w = law_1 cl vb w m (law_say m cl vb w) := by
  unfold law_say
  rw [am_it_succ, Nat.zero_add]
theorem l_last {d : Nat} {G : am_G} {I : Nat → Nat → Int} {P : Nat → Nat → Option Nat} {c t vb L C sz n : Nat} {sg tl : Nat → Nat} {cl : Nat → Cl} {w : Nat → Int} {cv fv : Int} (hS : ST G P) (ht0 : 240 ≤ t) (hok : okw w) : ∀ (m : Nat) (J : Nat → Nat → Int) (e : Nat → Option am_V), m ≤ n → TXB G J P t L C sz n sg tl → (∀ j, j < n → TCl J t sz sg tl j (cl j)) → (∀ k, k < 9 → J 89 k = w k) → LF I J → am_ex (am_call am_B am_M (d + 2)) (am_B 38) (am_B 38 6) [some (.inr (.inr (some 88))), some (.inr (.inr (some c))), some (.inl (vb : Int)), some (.inl cv), some (.inl fv), some (.inr (.inr (some t))), some (.inl ((m : Int) - 1)), e 7] [] (G, J, P) (fun o => ∃ I1, o = (some (.inl ((law_say m cl vb w).getD (-2000000000))), (G, I1, P)) ∧ LF I I1)
  | 0, J, e, hm, hT, hcl, hw, hf => by
    show am_ex (am_call am_B am_M (d + 2)) (am_B 38) (am_B 38 6) [some (.inr (.inr (some 88))), some (.inr (.inr (some c))), some (.inl (vb : Int)), some (.inl cv), some (.inl fv), some (.inr (.inr (some t))), some (.inl (-1)), e 7] [] (G, J, P) (fun o => ∃ I1, o = (some (.inl (-2000000000)), (G, I1, P)) ∧ LF I I1)
    refine (ex_4_6 (ex_if2 (fun _ => ?_) (fun hc => by exfalso; revert hc; decide)))
    refine (ex_0 ?_)
    exact ex_53 ⟨_, rfl, hf⟩
  | m + 1, J, e, hm, hT, hcl, hw, hf => by
    have hTT := hT
    obtain ⟨h9, p0, s1, p1, s2, p4, s5, p6, s6, hn5, hnL, hn12, hsz, hszC, hC, hcode⟩ := hTT
    obtain ⟨hvm, hv4, hsn, hss, htn, hts⟩ := hcl m (by omega)
    rw [show ((m + 1 : Nat) : Int) - 1 = (m : Int) by omega, law_succ]
    obtain ⟨vm, hvm0⟩ : ∃ vm, (cl m).1 = vm := ⟨_, rfl⟩
    rw [hvm0] at hvm
    by_cases hv : vm = vb
    · have hl1 : ∀ acc, law_1 cl vb w m acc = (cl_says (cl m) w).or acc := fun acc => if_pos (hvm0.trans hv)
      cases htt : (cl m).2.2 with
      | none =>
        have hto : o_test (cl m).2.2 w = true := by rw [htt]; rfl
        cases hsm : (cl m).2.1 with
        | none =>
          have hsay : cl_says (cl m) w = some 1 := by unfold cl_says; rw [if_pos hto, hsm]; rfl
          have hstep : law_1 cl vb w m (law_say m cl vb w) = some 1 := by rw [hl1, hsay]; rfl
          refine (ex_4_6 ?_)
          refine ex_if2 (fun hc53 => by exfalso; omega) (fun hc53 => ?_)
          refine (ex_6_5 (ix_41r h9 p0 (ex_4_6 (ix_30 (j := m) s1 (by omega) (by omega) (by omega) hvm (ex_4_2 ?_)))))
          refine ex_ic1 (fun hc65 => by exfalso; omega) (fun hc65 => ?_)
          refine (ex_6_5 (ix_41r h9 p4 (ex_4_6 (ix_30 (j := m) s5 (by omega) (by omega) (by omega) (htn htt) (ex_0 (ex_ic0 (fun _ => ?_) (fun hc => by exfalso; revert hc; decide)))))))
          refine (ex_6_5 (ix_41r h9 p1 (ex_4_6 (ix_30 (j := m) s2 (by omega) (by omega) (by omega) (hsn hsm) (ex_0 (ex_ic1 (fun hc => by exfalso; revert hc; decide) (fun _ => ?_)))))))
          refine (ex_0 (ex_28 (ex_7_7 rfl (ex_4_7 (ex_0 (ex_ic0 (fun hc => by exfalso; revert hc; decide) (fun _ => ?_)))))))
          refine (ex_4_7 ?_)
          exact ex_53 ⟨J, (by rw [hstep]; rfl), hf⟩
        | some ss =>
          obtain ⟨a, b, ha1, hs2⟩ := hss ss hsm
          have hrb := (hs2.2.2.2.2 w hok).1
          cases hsv : ss w with
          | none =>
            have hsay : cl_says (cl m) w = none := by unfold cl_says; rw [if_pos hto, hsm]; exact hsv
            have hstep : law_1 cl vb w m (law_say m cl vb w) = law_say m cl vb w := by rw [hl1, hsay]; rfl
            refine (ex_4_6 ?_)
            refine ex_if2 (fun hc53 => by exfalso; omega) (fun hc53 => ?_)
            refine (ex_6_5 (ix_41r h9 p0 (ex_4_6 (ix_30 (j := m) s1 (by omega) (by omega) (by omega) hvm (ex_4_2 ?_)))))
            refine ex_ic1 (fun hc65 => by exfalso; omega) (fun hc65 => ?_)
            refine (ex_6_5 (ix_41r h9 p4 (ex_4_6 (ix_30 (j := m) s5 (by omega) (by omega) (by omega) (htn htt) (ex_0 (ex_ic0 (fun _ => ?_) (fun hc => by exfalso; revert hc; decide)))))))
            refine (ex_6_5 (ix_41r h9 p1 (ex_4_6 (ix_30 (j := m) s2 (by omega) (by omega) (by omega) ha1 (ex_0 ?_)))))
            refine ex_ic1 (fun hc114 => ?_) (fun hc114 => by exfalso; omega)
            refine (ex_6_5 (ex_6_5 (ix_41r h9 p1 (ex_4_6 (ix_30 (j := m) s2 (by omega) (by omega) (by omega) ha1 (ex_6_0 (ix_41r (sh_88 hS) (pt_88_0 hS) (ex_6_0 (ix_41r (sh_88 hS) (pt_88_1 hS) ?_)))))))))
            obtain ⟨r139, e139⟩ := k_valG (d := d) (P := P) hT (sh_89 hS) (sh_90 hS) (by decide) (by omega) hw (by decide) hok hs2
            refine (ix_46 (S' := [(.inl ((ss w).getD (-2000000000)))]) rfl h9 e139 rfl rfl (ex_58 (ex_7_7 rfl (ex_4_7 (ex_0 ?_)))))
            refine ex_ic0 (fun hc148 => ?_) (fun hc148 => by exact absurd (by rw [hsv]; rfl) hc148)
            refine (ex_10_6 ⟨by omega, by omega⟩ rfl (ex_28 ?_))
            rw [hstep]
            exact l_last hS ht0 hok m _ (fun k_ => ([some (.inr (.inr (some 88))), some (.inr (.inr (some c))), some (.inl (vb : Int)), some (.inl cv), some (.inl fv), some (.inr (.inr (some t))), some (.inl ((m : Int) + (-1))), some (.inl ((ss w).getD (-2000000000)))] : am_L).getD k_ none) (by omega) (TXB_fr hT (fun q k _ _ => u1_qk (by omega))) (fun j hj => TCl_fr (hcl j hj) (fun q k _ _ => u1_qk (by omega))) (fun k hk => (u1_qk (by decide)).trans (hw k hk)) (LF_trans hf (fun q k _ h2 => u1_qk h2))
          | some v =>
            have hvb := hrb v hsv
            have hvb : -1000000000 ≤ v ∧ v ≤ 1000000000 := hvb
            have hsay : cl_says (cl m) w = some v := by unfold cl_says; rw [if_pos hto, hsm]; exact hsv
            have hstep : law_1 cl vb w m (law_say m cl vb w) = some v := by rw [hl1, hsay]; rfl
            refine (ex_4_6 ?_)
            refine ex_if2 (fun hc53 => by exfalso; omega) (fun hc53 => ?_)
            refine (ex_6_5 (ix_41r h9 p0 (ex_4_6 (ix_30 (j := m) s1 (by omega) (by omega) (by omega) hvm (ex_4_2 ?_)))))
            refine ex_ic1 (fun hc65 => by exfalso; omega) (fun hc65 => ?_)
            refine (ex_6_5 (ix_41r h9 p4 (ex_4_6 (ix_30 (j := m) s5 (by omega) (by omega) (by omega) (htn htt) (ex_0 (ex_ic0 (fun _ => ?_) (fun hc => by exfalso; revert hc; decide)))))))
            refine (ex_6_5 (ix_41r h9 p1 (ex_4_6 (ix_30 (j := m) s2 (by omega) (by omega) (by omega) ha1 (ex_0 ?_)))))
            refine ex_ic1 (fun hc114 => ?_) (fun hc114 => by exfalso; omega)
            refine (ex_6_5 (ex_6_5 (ix_41r h9 p1 (ex_4_6 (ix_30 (j := m) s2 (by omega) (by omega) (by omega) ha1 (ex_6_0 (ix_41r (sh_88 hS) (pt_88_0 hS) (ex_6_0 (ix_41r (sh_88 hS) (pt_88_1 hS) ?_)))))))))
            obtain ⟨r139, e139⟩ := k_valG (d := d) (P := P) hT (sh_89 hS) (sh_90 hS) (by decide) (by omega) hw (by decide) hok hs2
            refine (ix_46 (S' := [(.inl ((ss w).getD (-2000000000)))]) rfl h9 e139 rfl rfl (ex_58 (ex_7_7 rfl (ex_4_7 (ex_0 ?_)))))
            refine ex_ic0 (fun hc148 => by rw [hsv] at hc148; have hc148 : v = -2000000000 := hc148; omega) (fun hc148 => ?_)
            refine (ex_4_7 ?_)
            exact ex_53 ⟨(am_u1 J 90 r139), (by rw [hstep, hsv]), (LF_trans hf (fun q k _ h2 => u1_qk h2))⟩
      | some ts =>
        obtain ⟨a5, b5, ha5, ht2⟩ := hts ts htt
        by_cases ht1 : ts w = some 1
        · have hto : o_test (cl m).2.2 w = true := by rw [htt]; exact decide_eq_true ht1
          cases hsm : (cl m).2.1 with
          | none =>
            have hsay : cl_says (cl m) w = some 1 := by unfold cl_says; rw [if_pos hto, hsm]; rfl
            have hstep : law_1 cl vb w m (law_say m cl vb w) = some 1 := by rw [hl1, hsay]; rfl
            refine (ex_4_6 ?_)
            refine ex_if2 (fun hc53 => by exfalso; omega) (fun hc53 => ?_)
            refine (ex_6_5 (ix_41r h9 p0 (ex_4_6 (ix_30 (j := m) s1 (by omega) (by omega) (by omega) hvm (ex_4_2 ?_)))))
            refine ex_ic1 (fun hc65 => by exfalso; omega) (fun hc65 => ?_)
            refine (ex_6_5 (ix_41r h9 p4 (ex_4_6 (ix_30 (j := m) s5 (by omega) (by omega) (by omega) ha5 (ex_0 ?_)))))
            refine ex_ic0 (fun hc77 => by exfalso; omega) (fun hc77 => ?_)
            refine (ex_6_5 (ex_6_5 (ix_41r h9 p4 (ex_4_6 (ix_30 (j := m) s5 (by omega) (by omega) (by omega) ha5 (ex_6_0 (ix_41r (sh_88 hS) (pt_88_0 hS) (ex_6_0 (ix_41r (sh_88 hS) (pt_88_1 hS) ?_)))))))))
            obtain ⟨r98, e98⟩ := k_valG (d := d) (P := P) hT (sh_89 hS) (sh_90 hS) (by decide) (by omega) hw (by decide) hok ht2
            refine (ix_46 (S' := [(.inl ((ts w).getD (-2000000000)))]) rfl h9 e98 rfl rfl (ex_0 ?_))
            refine ex_ic1 (fun hc102 => by exact absurd (by rw [ht1]; rfl) hc102) (fun hc102 => ?_)
            refine (ex_6_5 (ix_41r h9 p1 (ex_4_6 (ix_30 (j := m) s2 (by omega) (by omega) (by omega) (((u1_qk (by omega))).trans (hsn hsm)) (ex_0 (ex_ic1 (fun hc => by exfalso; revert hc; decide) (fun _ => ?_)))))))
            refine (ex_0 (ex_28 (ex_7_7 rfl (ex_4_7 (ex_0 (ex_ic0 (fun hc => by exfalso; revert hc; decide) (fun _ => ?_)))))))
            refine (ex_4_7 ?_)
            exact ex_53 ⟨(am_u1 J 90 r98), (by rw [hstep]; rfl), (LF_trans hf (fun q k _ h2 => u1_qk h2))⟩
          | some ss =>
            obtain ⟨a, b, ha1, hs2⟩ := hss ss hsm
            have hrb := (hs2.2.2.2.2 w hok).1
            cases hsv : ss w with
            | none =>
              have hsay : cl_says (cl m) w = none := by unfold cl_says; rw [if_pos hto, hsm]; exact hsv
              have hstep : law_1 cl vb w m (law_say m cl vb w) = law_say m cl vb w := by rw [hl1, hsay]; rfl
              refine (ex_4_6 ?_)
              refine ex_if2 (fun hc53 => by exfalso; omega) (fun hc53 => ?_)
              refine (ex_6_5 (ix_41r h9 p0 (ex_4_6 (ix_30 (j := m) s1 (by omega) (by omega) (by omega) hvm (ex_4_2 ?_)))))
              refine ex_ic1 (fun hc65 => by exfalso; omega) (fun hc65 => ?_)
              refine (ex_6_5 (ix_41r h9 p4 (ex_4_6 (ix_30 (j := m) s5 (by omega) (by omega) (by omega) ha5 (ex_0 ?_)))))
              refine ex_ic0 (fun hc77 => by exfalso; omega) (fun hc77 => ?_)
              refine (ex_6_5 (ex_6_5 (ix_41r h9 p4 (ex_4_6 (ix_30 (j := m) s5 (by omega) (by omega) (by omega) ha5 (ex_6_0 (ix_41r (sh_88 hS) (pt_88_0 hS) (ex_6_0 (ix_41r (sh_88 hS) (pt_88_1 hS) ?_)))))))))
              obtain ⟨r98, e98⟩ := k_valG (d := d) (P := P) hT (sh_89 hS) (sh_90 hS) (by decide) (by omega) hw (by decide) hok ht2
              refine (ix_46 (S' := [(.inl ((ts w).getD (-2000000000)))]) rfl h9 e98 rfl rfl (ex_0 ?_))
              refine ex_ic1 (fun hc102 => by exact absurd (by rw [ht1]; rfl) hc102) (fun hc102 => ?_)
              refine (ex_6_5 (ix_41r h9 p1 (ex_4_6 (ix_30 (j := m) s2 (by omega) (by omega) (by omega) (((u1_qk (by omega))).trans ha1) (ex_0 ?_)))))
              refine ex_ic1 (fun hc114 => ?_) (fun hc114 => by exfalso; omega)
              refine (ex_6_5 (ex_6_5 (ix_41r h9 p1 (ex_4_6 (ix_30 (j := m) s2 (by omega) (by omega) (by omega) (((u1_qk (by omega))).trans ha1) (ex_6_0 (ix_41r (sh_88 hS) (pt_88_0 hS) (ex_6_0 (ix_41r (sh_88 hS) (pt_88_1 hS) ?_)))))))))
              obtain ⟨r139, e139⟩ := k_valG (d := d) (P := P) (TXB_fr (J := am_u1 J 90 r98) hT (fun q k _ _ => u1_qk (by omega))) (sh_89 hS) (sh_90 hS) (by decide) (by omega) (fun k hk => (u1_qk (by decide)).trans (hw k hk)) (by decide) hok hs2
              refine (ix_46 (S' := [(.inl ((ss w).getD (-2000000000)))]) rfl h9 e139 rfl rfl (ex_58 (ex_7_7 rfl (ex_4_7 (ex_0 ?_)))))
              refine ex_ic0 (fun hc148 => ?_) (fun hc148 => by exact absurd (by rw [hsv]; rfl) hc148)
              refine (ex_10_6 ⟨by omega, by omega⟩ rfl (ex_28 ?_))
              rw [hstep]
              exact l_last hS ht0 hok m _ (fun k_ => ([some (.inr (.inr (some 88))), some (.inr (.inr (some c))), some (.inl (vb : Int)), some (.inl cv), some (.inl fv), some (.inr (.inr (some t))), some (.inl ((m : Int) + (-1))), some (.inl ((ss w).getD (-2000000000)))] : am_L).getD k_ none) (by omega) (TXB_fr hT (fun q k _ _ => (u1_qk (by omega)).trans (u1_qk (by omega)))) (fun j hj => TCl_fr (hcl j hj) (fun q k _ _ => (u1_qk (by omega)).trans (u1_qk (by omega)))) (fun k hk => (u1_qk (by decide)).trans ((u1_qk (by decide)).trans (hw k hk))) (LF_trans hf (fun q k _ h2 => (u1_qk h2).trans (u1_qk h2)))
            | some v =>
              have hvb := hrb v hsv
              have hvb : -1000000000 ≤ v ∧ v ≤ 1000000000 := hvb
              have hsay : cl_says (cl m) w = some v := by unfold cl_says; rw [if_pos hto, hsm]; exact hsv
              have hstep : law_1 cl vb w m (law_say m cl vb w) = some v := by rw [hl1, hsay]; rfl
              refine (ex_4_6 ?_)
              refine ex_if2 (fun hc53 => by exfalso; omega) (fun hc53 => ?_)
              refine (ex_6_5 (ix_41r h9 p0 (ex_4_6 (ix_30 (j := m) s1 (by omega) (by omega) (by omega) hvm (ex_4_2 ?_)))))
              refine ex_ic1 (fun hc65 => by exfalso; omega) (fun hc65 => ?_)
              refine (ex_6_5 (ix_41r h9 p4 (ex_4_6 (ix_30 (j := m) s5 (by omega) (by omega) (by omega) ha5 (ex_0 ?_)))))
              refine ex_ic0 (fun hc77 => by exfalso; omega) (fun hc77 => ?_)
              refine (ex_6_5 (ex_6_5 (ix_41r h9 p4 (ex_4_6 (ix_30 (j := m) s5 (by omega) (by omega) (by omega) ha5 (ex_6_0 (ix_41r (sh_88 hS) (pt_88_0 hS) (ex_6_0 (ix_41r (sh_88 hS) (pt_88_1 hS) ?_)))))))))
              obtain ⟨r98, e98⟩ := k_valG (d := d) (P := P) hT (sh_89 hS) (sh_90 hS) (by decide) (by omega) hw (by decide) hok ht2
              refine (ix_46 (S' := [(.inl ((ts w).getD (-2000000000)))]) rfl h9 e98 rfl rfl (ex_0 ?_))
              refine ex_ic1 (fun hc102 => by exact absurd (by rw [ht1]; rfl) hc102) (fun hc102 => ?_)
              refine (ex_6_5 (ix_41r h9 p1 (ex_4_6 (ix_30 (j := m) s2 (by omega) (by omega) (by omega) (((u1_qk (by omega))).trans ha1) (ex_0 ?_)))))
              refine ex_ic1 (fun hc114 => ?_) (fun hc114 => by exfalso; omega)
              refine (ex_6_5 (ex_6_5 (ix_41r h9 p1 (ex_4_6 (ix_30 (j := m) s2 (by omega) (by omega) (by omega) (((u1_qk (by omega))).trans ha1) (ex_6_0 (ix_41r (sh_88 hS) (pt_88_0 hS) (ex_6_0 (ix_41r (sh_88 hS) (pt_88_1 hS) ?_)))))))))
              obtain ⟨r139, e139⟩ := k_valG (d := d) (P := P) (TXB_fr (J := am_u1 J 90 r98) hT (fun q k _ _ => u1_qk (by omega))) (sh_89 hS) (sh_90 hS) (by decide) (by omega) (fun k hk => (u1_qk (by decide)).trans (hw k hk)) (by decide) hok hs2
              refine (ix_46 (S' := [(.inl ((ss w).getD (-2000000000)))]) rfl h9 e139 rfl rfl (ex_58 (ex_7_7 rfl (ex_4_7 (ex_0 ?_)))))
              refine ex_ic0 (fun hc148 => by rw [hsv] at hc148; have hc148 : v = -2000000000 := hc148; omega) (fun hc148 => ?_)
              refine (ex_4_7 ?_)
              exact ex_53 ⟨(am_u1 (am_u1 J 90 r98) 90 r139), (by rw [hstep, hsv]), (LF_trans hf (fun q k _ h2 => (u1_qk h2).trans (u1_qk h2)))⟩
        · have hto : ¬ o_test (cl m).2.2 w = true := by rw [htt]; exact fun z => ht1 (of_decide_eq_true z)
          have hsay : cl_says (cl m) w = none := by unfold cl_says; rw [if_neg hto]
          have hstep : law_1 cl vb w m (law_say m cl vb w) = law_say m cl vb w := by rw [hl1, hsay]; rfl
          have hne : ¬ (ts w).getD (-2000000000) = 1 := by
            cases hq : ts w with
            | none => intro z; exact absurd z (by decide)
            | some v => intro z; have z : v = 1 := z; rw [z] at hq; exact ht1 hq
          refine (ex_4_6 ?_)
          refine ex_if2 (fun hc53 => by exfalso; omega) (fun hc53 => ?_)
          refine (ex_6_5 (ix_41r h9 p0 (ex_4_6 (ix_30 (j := m) s1 (by omega) (by omega) (by omega) hvm (ex_4_2 ?_)))))
          refine ex_ic1 (fun hc65 => by exfalso; omega) (fun hc65 => ?_)
          refine (ex_6_5 (ix_41r h9 p4 (ex_4_6 (ix_30 (j := m) s5 (by omega) (by omega) (by omega) ha5 (ex_0 ?_)))))
          refine ex_ic0 (fun hc77 => by exfalso; omega) (fun hc77 => ?_)
          refine (ex_6_5 (ex_6_5 (ix_41r h9 p4 (ex_4_6 (ix_30 (j := m) s5 (by omega) (by omega) (by omega) ha5 (ex_6_0 (ix_41r (sh_88 hS) (pt_88_0 hS) (ex_6_0 (ix_41r (sh_88 hS) (pt_88_1 hS) ?_)))))))))
          obtain ⟨r98, e98⟩ := k_valG (d := d) (P := P) hT (sh_89 hS) (sh_90 hS) (by decide) (by omega) hw (by decide) hok ht2
          refine (ix_46 (S' := [(.inl ((ts w).getD (-2000000000)))]) rfl h9 e98 rfl rfl (ex_0 ?_))
          refine ex_ic1 (fun hc102 => ?_) (fun hc102 => by exact absurd hc102 hne)
          refine (ex_10_6 ⟨by omega, by omega⟩ rfl (ex_28 ?_))
          rw [hstep]
          exact l_last hS ht0 hok m _ (fun k_ => ([some (.inr (.inr (some 88))), some (.inr (.inr (some c))), some (.inl (vb : Int)), some (.inl cv), some (.inl fv), some (.inr (.inr (some t))), some (.inl ((m : Int) + (-1))), (e 7)] : am_L).getD k_ none) (by omega) (TXB_fr hT (fun q k _ _ => u1_qk (by omega))) (fun j hj => TCl_fr (hcl j hj) (fun q k _ _ => u1_qk (by omega))) (fun k hk => (u1_qk (by decide)).trans (hw k hk)) (LF_trans hf (fun q k _ h2 => u1_qk h2))
    · have hstep : law_1 cl vb w m (law_say m cl vb w) = law_say m cl vb w := if_neg (fun z => hv (hvm0.symm.trans z))
      refine (ex_4_6 ?_)
      refine ex_if2 (fun hc53 => by exfalso; omega) (fun hc53 => ?_)
      refine (ex_6_5 (ix_41r h9 p0 (ex_4_6 (ix_30 (j := m) s1 (by omega) (by omega) (by omega) hvm (ex_4_2 ?_)))))
      refine ex_ic1 (fun hc65 => ?_) (fun hc65 => by exfalso; omega)
      refine (ex_10_6 ⟨by omega, by omega⟩ rfl (ex_28 ?_))
      rw [hstep]
      exact l_last hS ht0 hok m _ (fun k_ => ([some (.inr (.inr (some 88))), some (.inr (.inr (some c))), some (.inl (vb : Int)), some (.inl cv), some (.inl fv), some (.inr (.inr (some t))), some (.inl ((m : Int) + (-1))), (e 7)] : am_L).getD k_ none) (by omega) hT hcl hw hf
theorem k_last_y {d : Nat} {G : am_G} {I : Nat → Nat → Int} {P : Nat → Nat → Option Nat} (hS : ST G P) {c : Nat} (hCc : CQ c) {ρ : Nat → Int} {n : Nat} {cl : Nat → Cl} (hE : CE G I P c ρ n cl) {c1 vb : Nat} (hc : c1 < 6) {fv : Int} (hfv : -1 ≤ fv ∧ fv < ρ 1) {i4 t : Nat} (hi4 : i4 < 6) (h4 : ρ 4 = (i4 : Int)) (hpt : P (c + 16) i4 = some t) (hX : TX G I P t n cl) : ∃ I1, am_call am_B am_M (d + 3) 38 [(.inr (.inr (some 88))), (.inr (.inr (some c))), (.inl (vb : Int)), (.inl (c1 : Int)), (.inl fv)] (G, I, P) = some (some (.inl ((law_say n cl vb (wl ρ c1 fv)).getD (-2000000000))), (G, I1, P)) ∧ (LF I I1) := by
  have h5 := RW_n1 hE.2.1
  have h3 := RW_fo hE.2.1
  have h6 := RW_n3 hE.2.1
  obtain ⟨ht0, L, C, sz, sg, tl, hT, hcl⟩ := hX
  have hTT := hT
  obtain ⟨h9, p0, s1, p1, s2, p4, s5, p6, s6, hn5, hnL, hn12, hsz, hszC, hC, hcode⟩ := hTT
  have hok := wl_ok hE.2.1 hc (show -1 ≤ fv ∧ fv < 5 by omega)
  have w : am_ex (am_call am_B am_M (d + 2)) (am_B 38) (am_B 38 0) [some (.inr (.inr (some 88))), some (.inr (.inr (some c))), some (.inl (vb : Int)), some (.inl (c1 : Int)), some (.inl fv), none, none, none] [] (G, I, P) (fun o => ∃ I1, o = (some (.inl ((law_say n cl vb (wl ρ c1 fv)).getD (-2000000000))), (G, I1, P)) ∧ (LF I I1)) := by
    refine (ex_6_1 (ex_6_1 (ix_41i (cs_0 hS hCc) ((CC_fo hE.1).trans h4) ?_)))
    have hb5 : ((0 : Int) ≤ (i4 : Int) ∧ (i4 : Int) < ρ 3) := by omega
    refine (ix_46 (S' := [(.inl 1)]) rfl (cs_0 hS hCc) (k_hasLaw_t hS hCc hE.1 hb5) rfl rfl (ex_if0 (fun hc => by exfalso; revert hc; decide) (fun _ => ?_)))
    refine (ex_6_1 (ix_41r (cs_0 hS hCc) (cp_0_15 hS hCc) (ex_6_1 (ix_41i (cs_0 hS hCc) ((CC_fo hE.1).trans h4) (ix_33 (j := i4) (cs_16 hS hCc) (by omega) (by omega) (by omega) hpt (ex_28 (ex_9_5 rfl (ex_6_5 (ex_27s (ex_6_0 (ex_6_1 (ex_4_3 (ex_4_4 ?_)))))))))))))
    obtain ⟨J, eJ, hw, hfJ⟩ := k_words (d := d) hS hCc hE hc hfv
    refine (ix_46 (S' := []) rfl (sh_88 hS) eJ rfl rfl (ex_6_5 (ix_41i h9 ((hfJ _ _ (by omega)).trans hn5) (ex_0 (ex_sub ⟨by omega, by omega⟩ (ex_7_6 rfl (ex_58 ?_)))))))
    exact l_last hS ht0 hok n J (fun k_ => ([some (.inr (.inr (some 88))), some (.inr (.inr (some c))), some (.inl (vb : Int)), some (.inl (c1 : Int)), some (.inl fv), some (.inr (.inr (some t))), some (.inl ((n : Int) - 1)), none] : am_L).getD k_ none) (Nat.le_refl _) (TXB_fr hT (fun q k _ _ => hfJ q k (by omega))) (fun j hj => TCl_fr (hcl j hj) (fun q k _ _ => hfJ q k (by omega))) hw (fun q k h1 _ => hfJ q k h1)
  obtain ⟨o, e, I1, rfl, h⟩ := am_doQ (as := [(.inr (.inr (some 88))), (.inr (.inr (some c))), (.inl (vb : Int)), (.inl (c1 : Int)), (.inl fv)]) (Nat.le_of_ble_eq_true rfl) rfl w
  exact ⟨I1, e, h⟩
theorem k_last_n {d : Nat} {G : am_G} {I : Nat → Nat → Int} {P : Nat → Nat → Option Nat} (hS : ST G P) {c : Nat} (hCc : CQ c) {ρ : Nat → Int} {n : Nat} {cl : Nat → Cl} (hE : CE G I P c ρ n cl) {c1 vb : Nat} (hc : c1 < 6) {fv : Int} (hfv : -1 ≤ fv ∧ fv < ρ 1) (h4 : ρ 4 = -1) : am_call am_B am_M (d + 3) 38 [(.inr (.inr (some 88))), (.inr (.inr (some c))), (.inl (vb : Int)), (.inl (c1 : Int)), (.inl fv)] (G, I, P) = some (some (.inl (-2000000000)), (G, I, P)) := by
  refine am_doL (L := [some (.inr (.inr (some 88))), some (.inr (.inr (some c))), some (.inl (vb : Int)), some (.inl (c1 : Int)), some (.inl fv), none, none, none]) (Nat.le_of_ble_eq_true rfl) rfl ?_
  refine (ex_6_1 (ex_6_1 (ix_41i (cs_0 hS hCc) (CC_fo hE.1) ?_)))
  have hb5 : ¬ (((0 : Int) ≤ (ρ 4) ∧ (ρ 4) < ρ 3)) := by omega
  refine (ix_46 (S' := [(.inl 0)]) rfl (cs_0 hS hCc) (k_hasLaw_f hS hCc hE.1 hb5) rfl rfl (ex_if0 (fun _ => ?_) (fun hc => by exfalso; revert hc; decide)))
  refine (ex_2 (ex_58 (ex_9_5 rfl (ex_6_5 (ex_27n (ex_0 ?_))))))
  exact ex_53 rfl
theorem k_last {d : Nat} {G : am_G} {I : Nat → Nat → Int} {P : Nat → Nat → Option Nat} (hS : ST G P) {c : Nat} (hCc : CQ c) {ρ : Nat → Int} {n : Nat} {cl : Nat → Cl} (hE : CE G I P c ρ n cl) {c1 vb : Nat} (hc : c1 < 6) {fv : Int} (hfv : -1 ≤ fv ∧ fv < ρ 1) : ∃ I1, am_call am_B am_M (d + 3) 38 [.inr (.inr (some 88)), .inr (.inr (some c)), .inl (vb : Int), .inl (c1 : Int), .inl fv] (G, I, P) = some (some (.inl ((law_say n cl vb (wl ρ c1 fv)).getD (-2000000000))), (G, I1, P)) ∧ LF I I1 := by
  rcases hE.2.2 with ⟨h4, hn⟩ | ⟨i4, t, h1, h2, h3, h5⟩
  · refine ⟨I, ?_, LF_refl⟩
    have := k_last_n (d := d) (vb := vb) hS hCc hE hc hfv h4
    rw [hn]; exact this
  · exact k_last_y hS hCc hE hc hfv h1 h2 h3 h5
