/-! ===== the relation: what class and reference hold between calls ===== -/
theorem k_seasonsc {d : Nat} {G : am_G} {I : Nat → Nat → Int} {P : Nat → Nat → Option Nat} (hS : ST G P) {ρ : Nat → Int} {n : Nat} {cl : Nat → Cl} (hE : CE G I P 65 ρ n cl) (hN : TN G P 65) (h59 : ρ 5 ≤ 999) {seed : Int} {k : Nat} (hk1 : 1 ≤ k) (hk : k ≤ 60) (hs0 : 0 ≤ seed ∧ seed ≤ 1000000) (h00 : 0 < ρ 0) (h01 : 0 < ρ 1) (hLN : LawNow ρ n cl) (hBN : BarN n cl) (hLO : LOs I) (ht1 : I 1 0 = 999) : ∃ I1 P1, am_call am_B am_M (d + 8) 145 [(.inr (.inr (some 64))), (.inl seed), (.inl (k : Int))] (G, I, P) = some (some (.inl (ssn ρ n cl seed (snk ρ k)).2.2), (G, I1, P1)) ∧ (ST G P1 ∧ CC I1 139 (ssn ρ n cl seed (snk ρ k)).1 ∧ SzI ρ n cl (snk ρ k) (ssn ρ n cl seed (snk ρ k)) ∧ LOs I1 ∧ I1 64 16 = 0 ∧ (∀ q j, ¬ (q = 64 ∧ j = 16) → ¬ q = 89 → ¬ q = 90 → ¬ (139 ≤ q ∧ q ≤ 154) → ¬ (157 ≤ q ∧ q ≤ 160) → ¬ (q = 121 ∧ j = 4) → I1 q j = I q j) ∧ (∀ q j, ¬ q = 155 → P1 q j = P q j) ∧ (∀ j, j < 6 → P1 155 j = P 81 j)) := by
  have h0 := RW_n0 hE.2.1
  have h1 := RW_n1 hE.2.1
  have h3 := RW_n3 hE.2.1
  have h8 := RW_sm hE.2.1
  have w : am_ex (am_call am_B am_M (d + 7)) (am_B 145) (am_B 145 0) [some (.inr (.inr (some 64))), some (.inl seed), some (.inl (k : Int))] [] (G, I, P) (fun o => ∃ I1 P1, o = (some (.inl (ssn ρ n cl seed (snk ρ k)).2.2), (G, I1, P1)) ∧ (ST G P1 ∧ CC I1 139 (ssn ρ n cl seed (snk ρ k)).1 ∧ SzI ρ n cl (snk ρ k) (ssn ρ n cl seed (snk ρ k)) ∧ LOs I1 ∧ I1 64 16 = 0 ∧ (∀ q j, ¬ (q = 64 ∧ j = 16) → ¬ q = 89 → ¬ q = 90 → ¬ (139 ≤ q ∧ q ≤ 154) → ¬ (157 ≤ q ∧ q ≤ 160) → ¬ (q = 121 ∧ j = 4) → I1 q j = I q j) ∧ (∀ q j, ¬ q = 155 → P1 q j = P q j) ∧ (∀ j, j < 6 → P1 155 j = P 81 j))) := by
    refine (ex_4_1 (ex_0 ?_))
    have hb4 : ((0 : Int) ≤ seed ∧ (seed : Int) ≤ 1000000) := by omega
    refine (ix_45 (S' := [(.inl 1)]) rfl (k_isWithin_t hb4) rfl rfl (ex_if0 (fun hc => by exfalso; revert hc; decide) (fun _ => ?_)))
    refine (ex_4_2 (ex_0 ?_))
    refine ex_ic2 (fun hc12 => by exfalso; omega) (fun hc12 => ?_)
    refine (ex_4_2 (ex_0 ?_))
    refine ex_ic5 (fun hc18 => ?_) (fun hc18 => by exfalso; omega)
    refine (ex_6_0 (ix_41r (sh_64 hS) (pt_64_0 hS) (ix_41i (v := (ρ 0)) (sh_65 hS) (CC_n0 hE.1) ?_)))
    refine ex_if0 (fun hc34 => by exfalso; omega) (fun hc34 => ?_)
    refine (ex_6_0 (ix_41r (sh_64 hS) (pt_64_0 hS) (ix_41i (v := (ρ 1)) (sh_65 hS) (CC_n1 hE.1) ?_)))
    refine ex_if1 (fun hc44 => ?_) (fun hc44 => by exfalso; omega)
    refine (ex_6_0 (ex_6_0 (ix_41r (sh_64 hS) (pt_64_8 hS) (ex_6_0 (ix_41r (sh_64 hS) (pt_64_0 hS) (ex_4_1 (ex_4_2 ?_)))))))
    obtain ⟨K, Pk, eK, hS, hCK, hZK, hLK, fK, gK, h6K⟩ := k_runS (d := d + 1) hS hE hN h59 (seed := seed) (k := k) hk hs0 h00 h01 hLN hBN hLO ht1
    refine (ix_46 (S' := [(.inl (ssn ρ n cl seed (snk ρ k)).2.2), (.inr (.inr (some 64)))]) rfl (sh_121 hS) eK rfl rfl (ix_46 (S' := [(.inl (ssn ρ n cl seed (snk ρ k)).2.2)]) rfl (sh_64 hS) (k_grant hS) rfl rfl ?_))
    exact ex_53 ⟨_, _, rfl, hS, CC_fr hCK (fun q j a b _ => u2_q (by omega)), hZK, LOs_fr hLK (u2_q (by decide)) (u2_q (by decide)), u2_e, fun q j a b c d e f => (u2_o a).trans (fK q j b c d e f), gK, h6K⟩
  obtain ⟨o, e, I1, P1, rfl, h⟩ := am_doQ (as := [(.inr (.inr (some 64))), (.inl seed), (.inl (k : Int))]) (Nat.le_of_ble_eq_true rfl) rfl w
  exact ⟨I1, P1, e, h⟩
theorem RW_forget {ρ : Nat → Int} (h : RW ρ)  : RW (am_u1 ρ 2 0) := by
  unfold RW
  refine ⟨?_, ?_, ?_, ?_, ?_, ?_, ?_, ?_, ?_, ?_, ?_, ?_, ?_, ?_, ?_, ?_, ?_, ?_, ?_, ?_, ?_, ?_⟩
  · have := RW_n0 h; have := RW_n3 h; unfold am_u1; (repeat' split) <;> omega
  · have := RW_n1 h; have := RW_n3 h; unfold am_u1; (repeat' split) <;> omega
  · have := RW_n2 h; have := RW_n3 h; unfold am_u1; (repeat' split) <;> omega
  · have := RW_n3 h; have := RW_n3 h; unfold am_u1; (repeat' split) <;> omega
  · have := RW_fo h; have := RW_n3 h; unfold am_u1; (repeat' split) <;> omega
  · have := RW_ni h; have := RW_n3 h; unfold am_u1; (repeat' split) <;> omega
  · have := RW_fa h; have := RW_n3 h; unfold am_u1; (repeat' split) <;> omega
  · have := RW_mo h; have := RW_n3 h; unfold am_u1; (repeat' split) <;> omega
  · have := RW_sm h; have := RW_n3 h; unfold am_u1; (repeat' split) <;> omega
  · intro x hx; have := RW_at h x hx; have := RW_n1 h; unfold am_u1; (repeat' split) <;> omega
  · intro x hx; have := RW_en h x hx; have := RW_n1 h; unfold am_u1; (repeat' split) <;> omega
  · intro x hx; have := RW_we h x hx; have := RW_n1 h; unfold am_u1; (repeat' split) <;> omega
  · intro x hx; have := RW_kn h x hx; have := RW_n1 h; unfold am_u1; (repeat' split) <;> omega
  · intro x hx; have := RW_ki h x hx; have := RW_n1 h; unfold am_u1; (repeat' split) <;> omega
  · intro x hx; have := RW_ra h x hx; have := RW_n1 h; unfold am_u1; (repeat' split) <;> omega
  · intro x hx; have := RW_by h x hx; have := RW_n1 h; unfold am_u1; (repeat' split) <;> omega
  · intro x hx; have := RW_ea h x hx; have := RW_n1 h; unfold am_u1; (repeat' split) <;> omega
  · intro x hx; have := RW_ro h x hx; have := RW_n1 h; unfold am_u1; (repeat' split) <;> omega
  · intro b_ o_ hb_ ho_; have := RW_rs h b_ o_ hb_ ho_; unfold am_u1; (repeat' split) <;> omega
  · intro x hx; have := RW_rd h x hx; have := RW_n1 h; unfold am_u1; (repeat' split) <;> omega
  · intro x hx; have := RW_he h x hx; have := RW_n1 h; unfold am_u1; (repeat' split) <;> omega
  · intro k; have := RW_hf h k; have := RW_n2 h; have := RW_n1 h; unfold am_u1; (repeat' split) <;> (intro hk; omega)
theorem RW_heard {ρ : Nat → Int} (h : RW ρ) {f t : Int} {n0 : Nat} (hn : ρ 2 = (n0 : Int)) (h6 : n0 < 6) (hf : 0 ≤ f ∧ f < ρ 1) (ht : 0 ≤ t ∧ t ≤ 9) : RW (am_u1 (am_u1 (am_u1 ρ (88 + 2 * n0) f) (88 + 2 * n0 + 1) t) 2 ((n0 : Int) + 1)) := by
  unfold RW
  refine ⟨?_, ?_, ?_, ?_, ?_, ?_, ?_, ?_, ?_, ?_, ?_, ?_, ?_, ?_, ?_, ?_, ?_, ?_, ?_, ?_, ?_, ?_⟩
  · have := RW_n0 h; have := RW_n3 h; unfold am_u1; (repeat' split) <;> omega
  · have := RW_n1 h; have := RW_n3 h; unfold am_u1; (repeat' split) <;> omega
  · have := RW_n2 h; have := RW_n3 h; unfold am_u1; (repeat' split) <;> omega
  · have := RW_n3 h; have := RW_n3 h; unfold am_u1; (repeat' split) <;> omega
  · have := RW_fo h; have := RW_n3 h; unfold am_u1; (repeat' split) <;> omega
  · have := RW_ni h; have := RW_n3 h; unfold am_u1; (repeat' split) <;> omega
  · have := RW_fa h; have := RW_n3 h; unfold am_u1; (repeat' split) <;> omega
  · have := RW_mo h; have := RW_n3 h; unfold am_u1; (repeat' split) <;> omega
  · have := RW_sm h; have := RW_n3 h; unfold am_u1; (repeat' split) <;> omega
  · intro x hx; have := RW_at h x hx; have := RW_n1 h; unfold am_u1; (repeat' split) <;> omega
  · intro x hx; have := RW_en h x hx; have := RW_n1 h; unfold am_u1; (repeat' split) <;> omega
  · intro x hx; have := RW_we h x hx; have := RW_n1 h; unfold am_u1; (repeat' split) <;> omega
  · intro x hx; have := RW_kn h x hx; have := RW_n1 h; unfold am_u1; (repeat' split) <;> omega
  · intro x hx; have := RW_ki h x hx; have := RW_n1 h; unfold am_u1; (repeat' split) <;> omega
  · intro x hx; have := RW_ra h x hx; have := RW_n1 h; unfold am_u1; (repeat' split) <;> omega
  · intro x hx; have := RW_by h x hx; have := RW_n1 h; unfold am_u1; (repeat' split) <;> omega
  · intro x hx; have := RW_ea h x hx; have := RW_n1 h; unfold am_u1; (repeat' split) <;> omega
  · intro x hx; have := RW_ro h x hx; have := RW_n1 h; unfold am_u1; (repeat' split) <;> omega
  · intro b_ o_ hb_ ho_; have := RW_rs h b_ o_ hb_ ho_; unfold am_u1; (repeat' split) <;> omega
  · intro x hx; have := RW_rd h x hx; have := RW_n1 h; unfold am_u1; (repeat' split) <;> omega
  · intro x hx; have := RW_he h x hx; have := RW_n1 h; unfold am_u1; (repeat' split) <;> omega
  · intro k; have := RW_hf h k; have := RW_n2 h; have := RW_n1 h; unfold am_u1; (repeat' split) <;> (intro hk; omega)
theorem RW_road1 {ρ : Nat → Int} (h : RW ρ) {b o : Nat} {l : Int} (hb : b < 6) (ho : o < 6) (hbo : ¬ b = o) (hl : 0 ≤ l ∧ l ≤ 9) : RW (m_road1 ρ b o l) := by
  unfold RW
  refine ⟨?_, ?_, ?_, ?_, ?_, ?_, ?_, ?_, ?_, ?_, ?_, ?_, ?_, ?_, ?_, ?_, ?_, ?_, ?_, ?_, ?_, ?_⟩
  · have := RW_n0 h; have := RW_n3 h; unfold m_road1 am_u1; (repeat' split) <;> omega
  · have := RW_n1 h; have := RW_n3 h; unfold m_road1 am_u1; (repeat' split) <;> omega
  · have := RW_n2 h; have := RW_n3 h; unfold m_road1 am_u1; (repeat' split) <;> omega
  · have := RW_n3 h; have := RW_n3 h; unfold m_road1 am_u1; (repeat' split) <;> omega
  · have := RW_fo h; have := RW_n3 h; unfold m_road1 am_u1; (repeat' split) <;> omega
  · have := RW_ni h; have := RW_n3 h; unfold m_road1 am_u1; (repeat' split) <;> omega
  · have := RW_fa h; have := RW_n3 h; unfold m_road1 am_u1; (repeat' split) <;> omega
  · have := RW_mo h; have := RW_n3 h; unfold m_road1 am_u1; (repeat' split) <;> omega
  · have := RW_sm h; have := RW_n3 h; unfold m_road1 am_u1; (repeat' split) <;> omega
  · intro x hx; have := RW_at h x hx; have := RW_n1 h; unfold m_road1 am_u1; (repeat' split) <;> omega
  · intro x hx; have := RW_en h x hx; have := RW_n1 h; unfold m_road1 am_u1; (repeat' split) <;> omega
  · intro x hx; have := RW_we h x hx; have := RW_n1 h; unfold m_road1 am_u1; (repeat' split) <;> omega
  · intro x hx; have := RW_kn h x hx; have := RW_n1 h; unfold m_road1 am_u1; (repeat' split) <;> omega
  · intro x hx; have := RW_ki h x hx; have := RW_n1 h; unfold m_road1 am_u1; (repeat' split) <;> omega
  · intro x hx; have := RW_ra h x hx; have := RW_n1 h; unfold m_road1 am_u1; (repeat' split) <;> omega
  · intro x hx; have := RW_by h x hx; have := RW_n1 h; unfold m_road1 am_u1; (repeat' split) <;> omega
  · intro x hx; have := RW_ea h x hx; have := RW_n1 h; unfold m_road1 am_u1; (repeat' split) <;> omega
  · intro x hx; have := RW_ro h x hx; have := RW_n1 h; unfold m_road1 am_u1; (repeat' split) <;> omega
  · intro b_ o_ hb_ ho_; have := RW_rs h b_ o_ hb_ ho_; unfold m_road1 am_u1; (repeat' split) <;> omega
  · intro x hx; have := RW_rd h x hx; have := RW_n1 h; unfold m_road1 am_u1; (repeat' split) <;> omega
  · intro x hx; have := RW_he h x hx; have := RW_n1 h; unfold m_road1 am_u1; (repeat' split) <;> omega
  · intro k; have := RW_hf h k; have := RW_n2 h; have := RW_n1 h; unfold m_road1 am_u1; (repeat' split) <;> (intro hk; omega)
theorem RW_eq {ρ ρ' : Nat → Int} (h : RW ρ) (e : ∀ j, j < 100 → ρ' j = ρ j) : RW ρ' := by
  unfold RW
  refine ⟨?_, ?_, ?_, ?_, ?_, ?_, ?_, ?_, ?_, ?_, ?_, ?_, ?_, ?_, ?_, ?_, ?_, ?_, ?_, ?_, ?_, ?_⟩
  · rw [e 0 (by decide)]; exact RW_n0 h
  · rw [e 1 (by decide)]; exact RW_n1 h
  · rw [e 2 (by decide)]; exact RW_n2 h
  · rw [e 3 (by decide)]; exact RW_n3 h
  · rw [e 4 (by decide), e 3 (by decide)]; exact RW_fo h
  · rw [e 5 (by decide)]; exact RW_ni h
  · rw [e 6 (by decide)]; exact RW_fa h
  · rw [e 7 (by decide)]; exact RW_mo h
  · rw [e 8 (by decide)]; exact RW_sm h
  · intro x hx; rw [e _ (by omega)]; exact RW_at h x hx
  · intro x hx; rw [e _ (by omega)]; exact RW_en h x hx
  · intro x hx; rw [e _ (by omega)]; exact RW_we h x hx
  · intro x hx; rw [e _ (by omega)]; exact RW_kn h x hx
  · intro x hx; rw [e _ (by omega)]; exact RW_ki h x hx
  · intro x hx; rw [e _ (by omega)]; exact RW_ra h x hx
  · intro x hx; rw [e _ (by omega)]; exact RW_by h x hx
  · intro x hx; rw [e _ (by omega)]; exact RW_ea h x hx
  · intro x hx; rw [e _ (by omega)]; exact RW_ro h x hx
  · intro b o hb ho; rw [e _ (by omega), e _ (by omega)]; exact RW_rs h b o hb ho
  · intro x hx; rw [e _ (by omega)]; exact RW_rd h x hx
  · intro x hx; rw [e _ (by omega), e _ (by omega)]; exact RW_he h x hx
  · intro k hk; have := RW_n2 h; rw [e 2 (by decide)] at hk; rw [e _ (by omega), e 1 (by decide)]; exact RW_hf h k hk
/-! laws, tape, images -/
abbrev Lw : Type := Nat → Nat × (Nat → Cl)
def RKk (k : Nat) : Prop := k = 1 ∨ k = 2 ∨ k = 3 ∨ k = 5 ∨ k = 6
def LWS (G : am_G) (I : Nat → Nat → Int) (P : Nat → Nat → Option Nat) (pc : Nat) (ρ : Nat → Int) (ll : Lw) : Prop := ∀ i : Nat, (i : Int) < ρ 3 → ∃ t, P pc i = some t ∧ t + 6 < 64 + G.1 ∧ TX G I P t (ll i).1 (ll i).2
def RLs (ρ : Nat → Int) (ll : Lw) : Prop := ∀ i : Nat, (i : Int) < ρ 3 → RowLaw ρ (100 + 900 * i) (ll i).1 (ll i).2
def ZT (ρ : Nat → Int) : Prop := ∀ j, 5500 ≤ j → ρ j = 0
def TNs (G : am_G) (P : Nat → Nat → Option Nat) (c : Nat) : Prop := ∀ k, k < 6 → P (c + 16) k = none ∨ ∃ t, P (c + 16) k = some t ∧ G.2.2 t = .inr 9 ∧ t < 64 + G.1
theorem TN_of {G : am_G} {P : Nat → Nat → Option Nat} {c : Nat} (h : TNs G P c) : TN G P c := fun k hk => by
  rcases h k hk with e | ⟨t, e, g, _⟩
  · exact Or.inl e
  · exact Or.inr ⟨t, e, g⟩
def nfo (ρ : Nat → Int) (ll : Lw) : Nat := if ρ 4 = -1 then 0 else (ll (ρ 4).toNat).1
def cfo (ρ : Nat → Int) (ll : Lw) : Nat → Cl := (ll (ρ 4).toNat).2
theorem LawNow_of {ρ : Nat → Int} {ll : Lw} (hR : RW ρ) (h : RLs ρ ll) : LawNow ρ (nfo ρ ll) (cfo ρ ll) := by
  have h4 := RW_fo hR
  have h3 := RW_n3 hR
  unfold nfo cfo
  by_cases e : ρ 4 = -1
  · rw [if_pos e]; exact Or.inl ⟨e, rfl⟩
  · rw [if_neg e]; exact Or.inr ⟨(ρ 4).toNat, by omega, by omega, h _ (by omega)⟩
theorem LWn_of {G : am_G} {I : Nat → Nat → Int} {P : Nat → Nat → Option Nat} {c : Nat} {ρ : Nat → Int} {ll : Lw} (hR : RW ρ) (h : LWS G I P (c + 16) ρ ll) : LWn G I P c ρ (nfo ρ ll) (cfo ρ ll) := by
  have h4 := RW_fo hR
  have h3 := RW_n3 hR
  unfold nfo cfo
  by_cases e : ρ 4 = -1
  · rw [if_pos e]; exact Or.inl ⟨e, rfl⟩
  · rw [if_neg e]
    obtain ⟨t, p, _, x⟩ := h (ρ 4).toNat (by omega)
    exact Or.inr ⟨(ρ 4).toNat, t, by omega, by omega, p, x⟩
theorem BarN_row {ρ : Nat → Int} {lw n : Nat} {cl : Nat → Cl} (h : RowLaw ρ lw n cl) : BarN n cl := fun j hj e => by
  obtain ⟨_, _, a1, b1, a2, b2, _, _, _, _, _, _, g, _⟩ := h.2.2 j hj
  exact g.mpr e
theorem BarN_of {ρ : Nat → Int} {ll : Lw} (hR : RW ρ) (h : RLs ρ ll) : BarN (nfo ρ ll) (cfo ρ ll) := by
  have h4 := RW_fo hR
  unfold nfo cfo
  by_cases e : ρ 4 = -1
  · rw [if_pos e]; exact fun j hj => absurd hj (by omega)
  · rw [if_neg e]; exact BarN_row (h _ (by omega))
theorem RLs_eq {ρ ρ' : Nat → Int} {ll : Lw} (h : RLs ρ ll) (e3 : ρ' 3 = ρ 3) (e : ∀ j, 100 ≤ j → ρ' j = ρ j) : RLs ρ' ll := fun i hi => RowLaw_congr (fun j hj _ => e j (by omega)) (h i (by rw [← e3]; exact hi))
theorem LWS_eq {G : am_G} {I J : Nat → Nat → Int} {P P1 : Nat → Nat → Option Nat} {pc pc1 : Nat} {ρ ρ' : Nat → Int} {ll : Lw} (h : LWS G I P pc ρ ll) (h3 : RW ρ) (e3 : ρ' 3 = ρ 3) (hf : ∀ q k, 240 ≤ q → J q k = I q k) (hp : ∀ q k, 240 ≤ q → P1 q k = P q k) (h6 : ∀ j, j < 6 → P1 pc1 j = P pc j) : LWS G J P1 pc1 ρ' ll := fun i hi => by
  have := RW_n3 h3
  rw [e3] at hi
  obtain ⟨t, p, b, x⟩ := h i hi
  exact ⟨t, (h6 i (by omega)).trans p, b, TX_fr2 x hf hp⟩
theorem TNs_eq {G : am_G} {P P1 : Nat → Nat → Option Nat} {c c1 : Nat} (h : TNs G P c) (h6 : ∀ j, j < 6 → P1 (c1 + 16) j = P (c + 16) j) : TNs G P1 c1 := fun k hk => by rw [h6 k hk]; exact h k hk
def IMW (i : Int) (r : Nat → Int) (l : Lw) : Prop := i = 0 ∨ (i = 1 ∧ RW r ∧ r 5 ≤ 999 ∧ RLs r l ∧ ZT r)
def DRW (dk : Int) (dr : Nat → Int) : Prop := (0 ≤ dr 0 ∧ dr 0 ≤ 6) ∧ (0 ≤ dr 1 ∧ dr 1 ≤ 5) ∧ (dk = 0 → dr 0 = 0 ∧ dr 1 = 0)
/-- the state is in order -/
def WF (c : Nat) (ρ : Nat → Int) (lg : List De) (ll : Lw) (tn : Nat) (tb : Nat → Int) (rf : Nat → Int) (ik0 : Int) (ir0 : Nat → Int) (il0 : Lw) (ik1 : Int) (ir1 : Nat → Int) (il1 : Lw) (dk : Int) (dr : Nat → Int) : Prop := WR ρ lg ∧ RLs ρ ll ∧ ZT ρ ∧ TB tb tn ∧ (∀ k, RKk k → 0 ≤ rf k ∧ rf k ≤ (c : Int)) ∧ IMW ik0 ir0 il0 ∧ IMW ik1 ir1 il1 ∧ DRW dk dr
def CTa (I : Nat → Nat → Int) (tn : Nat) (tb : Nat → Int) : Prop := I 64 13 = (tn : Int) ∧ (∀ k, k < tn → I 171 k = sb (tb k))
def CSc (I : Nat → Nat → Int) (fa wr st sp : Int) : Prop := I 64 14 = fa ∧ I 64 15 = wr ∧ I 64 16 = st ∧ I 92 7 = sp
def CIm (G : am_G) (I : Nat → Nat → Int) (P : Nat → Nat → Option Nat) (c k : Nat) (i : Int) (r : Nat → Int) (l : Lw) : Prop := I 83 k = i ∧ TNs G P c ∧ (i = 1 → CC I c r ∧ LWS G I P (c + 16) r l)
def CGs (c : Nat) (G : am_G) : Prop := 176 ≤ G.1 ∧ G.1 ≤ 176 + 7 * c ∧ G.2.1 ≤ 22742 + 504 * c
def SCR (L : Nat) (xs : Nat → Int32) (G : am_G) (I : Nat → Nat → Int) : Prop := G.2.2 0 = .inl (7, L) ∧ (∀ j, j < L → I 0 j = (xs j).toInt)
/-- the class holds the state -/
def CI (L : Nat) (xs : Nat → Int32) (c : Nat) (ρ : Nat → Int) (lg : List De) (ll : Lw) (tn : Nat) (tb : Nat → Int) (fa : Int) (wr : Int) (st : Int) (sp : Int) (rf : Nat → Int) (ik0 : Int) (ir0 : Nat → Int) (il0 : Lw) (ik1 : Int) (ir1 : Nat → Int) (il1 : Lw) (dk : Int) (dr : Nat → Int) (G : am_G) (I : Nat → Nat → Int) (P : Nat → Nat → Option Nat) : Prop := ST G P ∧ KS I ∧ (CC I 65 ρ ∧ CLg I lg ∧ LWS G I P 81 ρ ll ∧ TNs G P 65) ∧ CTa I tn tb ∧ CSc I fa wr st sp ∧ (∀ k, RKk k → I 173 k = rf k) ∧ CIm G I P 174 0 ik0 ir0 il0 ∧ CIm G I P 191 1 ik1 ir1 il1 ∧ (CC I 139 dr ∧ LOs I) ∧ CGs c G ∧ SCR L xs G I
def MTa (I : Nat → Nat → Int) (tn : Nat) (tb : Nat → Int) : Prop := I 208 13 = (tn : Int) ∧ (∀ k, k < tn → I 217 k = tb k)
def MSc (I : Nat → Nat → Int) (fa wr st sp : Int) : Prop := I 208 18 = fa ∧ I 208 11 = wr ∧ I 208 1 = st ∧ I 208 53 = sp
def MIm (I : Nat → Nat → Int) (k : Nat) (i : Int) (r : Nat → Int) : Prop := I 212 k = i ∧ (i = 1 → ∀ j, j < 5500 → I 211 (5500 * k + j) = r j)
def MDr (I : Nat → Nat → Int) (dk : Int) (dr : Nat → Int) : Prop := (dk = 0 ∧ I 208 57 = -1 ∧ I 208 58 = -1) ∨ (dk = 1 ∧ I 208 57 = dr 0 ∧ I 208 58 = dr 1 ∧ ∀ j, j < 25 → I 239 j = dr (5 + j))
/-- the reference holds the state -/
def MI (ρ : Nat → Int) (lg : List De) (ll : Lw) (tn : Nat) (tb : Nat → Int) (fa : Int) (wr : Int) (st : Int) (sp : Int) (rf : Nat → Int) (ik0 : Int) (ir0 : Nat → Int) (il0 : Lw) (ik1 : Int) (ir1 : Nat → Int) (il1 : Lw) (dk : Int) (dr : Nat → Int) (I : Nat → Nat → Int) : Prop := (I 210 = ρ ∧ MLg I ρ lg ∧ I 208 20 = 0) ∧ KM I ∧ MTa I tn tb ∧ MSc I fa wr st sp ∧ (∀ k, RKk k → I 209 k = rf k) ∧ MIm I 0 ik0 ir0 ∧ MIm I 1 ik1 ir1 ∧ MDr I dk dr
/-- cells that matter: the class's, the reference's -/
def CK (q k : Nat) : Prop := (q ≤ 88 ∧ ¬ q = 69) ∨ (q = 92 ∧ k = 7) ∨ (139 ≤ q ∧ q ≤ 160) ∨ (170 ≤ q ∧ q ≤ 207 ∧ ¬ q = 172) ∨ 240 ≤ q
def PK (q : Nat) : Prop := q = 81 ∨ q = 190 ∨ q = 207 ∨ 240 ≤ q
def MK2 (q k : Nat) : Prop := (q = 208 ∧ (k = 1 ∨ k = 8 ∨ k = 11 ∨ k = 13 ∨ k = 18 ∨ k = 20 ∨ k = 53 ∨ k = 57 ∨ k = 58)) ∨ (209 ≤ q ∧ q ≤ 212) ∨ (q = 213 ∧ k < 400) ∨ q = 214 ∨ q = 217 ∨ (223 ≤ q ∧ q ≤ 225) ∨ q = 237 ∨ q = 239
theorem CI_fr {L : Nat} {xs : Nat → Int32} {c : Nat} {ρ : Nat → Int} {lg : List De} {ll : Lw} {tn : Nat} {tb : Nat → Int} {fa : Int} {wr : Int} {st : Int} {sp : Int} {rf : Nat → Int} {ik0 : Int} {ir0 : Nat → Int} {il0 : Lw} {ik1 : Int} {ir1 : Nat → Int} {il1 : Lw} {dk : Int} {dr : Nat → Int} {G : am_G} {I J : Nat → Nat → Int} {P P1 : Nat → Nat → Option Nat} (h : CI L xs c ρ lg ll tn tb fa wr st sp rf ik0 ir0 il0 ik1 ir1 il1 dk dr G I P) (hS : ST G P1) (hR0 : RW ρ) (w6 : IMW ik0 ir0 il0) (w7 : IMW ik1 ir1 il1) (hf : ∀ q k, CK q k → J q k = I q k) (hp : ∀ q k, PK q → P1 q k = P q k) : CI L xs c ρ lg ll tn tb fa wr st sp rf ik0 ir0 il0 ik1 ir1 il1 dk dr G J P1 := by
  obtain ⟨_, hK, ⟨hC, hLg, hLw, hTN⟩, ⟨t1, t2⟩, ⟨s1, s2, s3, s4⟩, hRf, ⟨a1, a2, a3⟩, ⟨b1, b2, b3⟩, ⟨hD, hLO⟩, hG, ⟨x1, x2⟩⟩ := h
  have e24 : ∀ q k, 240 ≤ q → J q k = I q k := fun q k hq => hf q k (by unfold CK; omega)
  have p24 : ∀ q k, 240 ≤ q → P1 q k = P q k := fun q k hq => hp q k (by unfold PK; omega)
  refine ⟨hS, KS_fr hK (fun q k hq => hf q k (by unfold CK; omega)), ⟨CC_fr hC (fun q k h1 h2 h3 => hf q k (by unfold CK; omega)), CLg_fr hLg (fun q k h1 h2 => hf q k (by unfold CK; omega)), LWS_eq hLw hR0 rfl e24 p24 (fun j _ => hp 81 j (by unfold PK; omega)), TNs_eq (c := 65) hTN (fun j _ => hp 81 j (by unfold PK; omega))⟩, ⟨(hf _ _ (by unfold CK; omega)).trans t1, fun k hk => (hf _ _ (by unfold CK; omega)).trans (t2 k hk)⟩, ⟨(hf _ _ (by unfold CK; omega)).trans s1, (hf _ _ (by unfold CK; omega)).trans s2, (hf _ _ (by unfold CK; omega)).trans s3, (hf _ _ (by unfold CK; omega)).trans s4⟩, fun k hk => (hf _ _ (by unfold CK; omega)).trans (hRf k hk), ⟨(hf _ _ (by unfold CK; omega)).trans a1, TNs_eq (c := 174) a2 (fun j _ => hp 190 j (by unfold PK; omega)), fun e => ?_⟩, ⟨(hf _ _ (by unfold CK; omega)).trans b1, TNs_eq (c := 191) b2 (fun j _ => hp 207 j (by unfold PK; omega)), fun e => ?_⟩, ⟨CC_fr hD (fun q k h1 h2 h3 => hf q k (by unfold CK; omega)), LOs_fr hLO (hf _ _ (by unfold CK; omega)) (hf _ _ (by unfold CK; omega))⟩, hG, ⟨x1, fun j hj => (hf _ _ (by unfold CK; omega)).trans (x2 j hj)⟩⟩
  · obtain ⟨g1, g2⟩ := a3 e
    rcases w6 with w6 | w6
    · exact absurd (w6.symm.trans e) (by decide)
    · exact ⟨CC_fr g1 (fun q k h1 h2 h3 => hf q k (by unfold CK; omega)), LWS_eq g2 w6.2.1 rfl e24 p24 (fun j _ => hp 190 j (by unfold PK; omega))⟩
  · obtain ⟨g1, g2⟩ := b3 e
    rcases w7 with w7 | w7
    · exact absurd (w7.symm.trans e) (by decide)
    · exact ⟨CC_fr g1 (fun q k h1 h2 h3 => hf q k (by unfold CK; omega)), LWS_eq g2 w7.2.1 rfl e24 p24 (fun j _ => hp 207 j (by unfold PK; omega))⟩
theorem MI_fr {ρ : Nat → Int} {lg : List De} {ll : Lw} {tn : Nat} {tb : Nat → Int} {fa : Int} {wr : Int} {st : Int} {sp : Int} {rf : Nat → Int} {ik0 : Int} {ir0 : Nat → Int} {il0 : Lw} {ik1 : Int} {ir1 : Nat → Int} {il1 : Lw} {dk : Int} {dr : Nat → Int} {I J : Nat → Nat → Int} (h : MI ρ lg ll tn tb fa wr st sp rf ik0 ir0 il0 ik1 ir1 il1 dk dr I) (hf : ∀ q k, MK2 q k → J q k = I q k) : MI ρ lg ll tn tb fa wr st sp rf ik0 ir0 il0 ik1 ir1 il1 dk dr J := by
  obtain ⟨⟨h1, h2, h3⟩, hK, ⟨t1, t2⟩, ⟨s1, s2, s3, s4⟩, hRf, ⟨a1, a2⟩, ⟨b1, b2⟩, hD⟩ := h
  refine ⟨⟨(funext fun k => hf _ _ (by unfold MK2; omega)).trans h1, MLg_fr h2 (hf _ _ (by unfold MK2; omega)) (fun j hj => hf _ _ (by unfold MK2; omega)) (fun j hj => hf _ _ (by unfold MK2; omega)), (hf _ _ (by unfold MK2; omega)).trans h3⟩, KM_fr hK (fun q k hq => hf q k (by unfold MK2; omega)), ⟨(hf _ _ (by unfold MK2; omega)).trans t1, fun k hk => (hf _ _ (by unfold MK2; omega)).trans (t2 k hk)⟩, ⟨(hf _ _ (by unfold MK2; omega)).trans s1, (hf _ _ (by unfold MK2; omega)).trans s2, (hf _ _ (by unfold MK2; omega)).trans s3, (hf _ _ (by unfold MK2; omega)).trans s4⟩, fun k hk => (hf _ _ (by unfold MK2; omega)).trans (hRf k hk), ⟨(hf _ _ (by unfold MK2; omega)).trans a1, fun e j hj => (hf _ _ (by unfold MK2; omega)).trans (a2 e j hj)⟩, ⟨(hf _ _ (by unfold MK2; omega)).trans b1, fun e j hj => (hf _ _ (by unfold MK2; omega)).trans (b2 e j hj)⟩, ?_⟩
  rcases hD with ⟨e, d1, d2⟩ | ⟨e, d1, d2, d3⟩
  · exact Or.inl ⟨e, (hf _ _ (by unfold MK2; omega)).trans d1, (hf _ _ (by unfold MK2; omega)).trans d2⟩
  · exact Or.inr ⟨e, (hf _ _ (by unfold MK2; omega)).trans d1, (hf _ _ (by unfold MK2; omega)).trans d2, fun j hj => (hf _ _ (by unfold MK2; omega)).trans (d3 j hj)⟩
/-- class and reference hold the same state -/
def REL (L : Nat) (xs : Nat → Int32) (c : Nat) (G : am_G) (I : Nat → Nat → Int) (P : Nat → Nat → Option Nat) : Prop := ∃ (ρ : Nat → Int) (lg : List De) (ll : Lw) (tn : Nat) (tb : Nat → Int) (fa : Int) (wr : Int) (st : Int) (sp : Int) (rf : Nat → Int) (ik0 : Int) (ir0 : Nat → Int) (il0 : Lw) (ik1 : Int) (ir1 : Nat → Int) (il1 : Lw) (dk : Int) (dr : Nat → Int), WF c ρ lg ll tn tb rf ik0 ir0 il0 ik1 ir1 il1 dk dr ∧ CI L xs c ρ lg ll tn tb fa wr st sp rf ik0 ir0 il0 ik1 ir1 il1 dk dr G I P ∧ MI ρ lg ll tn tb fa wr st sp rf ik0 ir0 il0 ik1 ir1 il1 dk dr I
/-- a call of both: the same answer, the relation kept -/
def SP (L : Nat) (xs : Nat → Int32) (c : Nat) (G : am_G) (I : Nat → Nat → Int) (P : Nat → Nat → Option Nat) (mk : Int → am_V) (y1 y2 : Nat) (as : List am_V) : Prop := ∃ (x : Int) (G1 : am_G) (I1 : Nat → Nat → Int) (P1 : Nat → Nat → Option Nat) (I2 : Nat → Nat → Int), am_call am_B am_M 100 y1 (.inr (.inr (some 64)) :: as) (G, I, P) = some (some (mk x), (G1, I1, P1)) ∧ ST G1 P1 ∧ am_call am_B am_M 100 y2 (.inr (.inr (some 208)) :: as) (G1, I1, P1) = some (some (mk x), (G1, I2, P1)) ∧ SCR L xs G1 I1 ∧ REL L xs (c + 1) G1 I2 P1
theorem CGs_s {c : Nat} {G : am_G} (h : CGs c G) : CGs (c + 1) G := ⟨h.1, by have := h.2.1; omega, by have := h.2.2; omega⟩
theorem SP_do {L : Nat} {xs : Nat → Int32} {c : Nat} {ρ : Nat → Int} {lg : List De} {ll : Lw} {tn : Nat} {tb : Nat → Int} {fa : Int} {wr : Int} {st : Int} {sp : Int} {rf : Nat → Int} {ik0 : Int} {ir0 : Nat → Int} {il0 : Lw} {ik1 : Int} {ir1 : Nat → Int} {il1 : Lw} {dk : Int} {dr : Nat → Int} {G G1 : am_G} {I I1 I2 : Nat → Nat → Int} {P P1 : Nat → Nat → Option Nat} {mk : Int → am_V} {y1 y2 : Nat} {as : List am_V} {x : Int} (hW : WF (c + 1) ρ lg ll tn tb rf ik0 ir0 il0 ik1 ir1 il1 dk dr) (k : am_call am_B am_M 100 y1 (.inr (.inr (some 64)) :: as) (G, I, P) = some (some (mk x), (G1, I1, P1))) (hC : CI L xs (c + 1) ρ lg ll tn tb fa wr st sp rf ik0 ir0 il0 ik1 ir1 il1 dk dr G1 I1 P1) (m : am_call am_B am_M 100 y2 (.inr (.inr (some 208)) :: as) (G1, I1, P1) = some (some (mk x), (G1, I2, P1))) (hM : MI ρ lg ll tn tb fa wr st sp rf ik0 ir0 il0 ik1 ir1 il1 dk dr I2) (fr : ∀ q k, ¬ (208 ≤ q ∧ q ≤ 239) → I2 q k = I1 q k) : SP L xs c G I P mk y1 y2 as := by
  refine ⟨x, G1, I1, P1, I2, k, hC.1, m, hC.2.2.2.2.2.2.2.2.2.2, ρ, lg, ll, tn, tb, fa, wr, st, sp, rf, ik0, ir0, il0, ik1, ir1, il1, dk, dr, hW, CI_fr hC hC.1 (WR_0 hW.1).1 hW.2.2.2.2.2.1 hW.2.2.2.2.2.2.1 (fun q k h => fr q k (by unfold CK at h; omega)) (fun _ _ _ => rfl), hM⟩
theorem WF_s {c : Nat} {ρ : Nat → Int} {lg : List De} {ll : Lw} {tn : Nat} {tb : Nat → Int} {rf : Nat → Int} {ik0 : Int} {ir0 : Nat → Int} {il0 : Lw} {ik1 : Int} {ir1 : Nat → Int} {il1 : Lw} {dk : Int} {dr : Nat → Int} (h : WF c ρ lg ll tn tb rf ik0 ir0 il0 ik1 ir1 il1 dk dr) : WF (c + 1) ρ lg ll tn tb rf ik0 ir0 il0 ik1 ir1 il1 dk dr := ⟨h.1, h.2.1, h.2.2.1, h.2.2.2.1, fun k hk => by have := h.2.2.2.2.1 k hk; omega, h.2.2.2.2.2⟩
theorem CI_s {L : Nat} {xs : Nat → Int32} {c : Nat} {ρ : Nat → Int} {lg : List De} {ll : Lw} {tn : Nat} {tb : Nat → Int} {fa : Int} {wr : Int} {st : Int} {sp : Int} {rf : Nat → Int} {ik0 : Int} {ir0 : Nat → Int} {il0 : Lw} {ik1 : Int} {ir1 : Nat → Int} {il1 : Lw} {dk : Int} {dr : Nat → Int} {G : am_G} {I : Nat → Nat → Int} {P : Nat → Nat → Option Nat} (h : CI L xs c ρ lg ll tn tb fa wr st sp rf ik0 ir0 il0 ik1 ir1 il1 dk dr G I P) : CI L xs (c + 1) ρ lg ll tn tb fa wr st sp rf ik0 ir0 il0 ik1 ir1 il1 dk dr G I P := ⟨h.1, h.2.1, h.2.2.1, h.2.2.2.1, h.2.2.2.2.1, h.2.2.2.2.2.1, h.2.2.2.2.2.2.1, h.2.2.2.2.2.2.2.1, h.2.2.2.2.2.2.2.2.1, CGs_s h.2.2.2.2.2.2.2.2.2.1, h.2.2.2.2.2.2.2.2.2.2⟩
/-- a call that asks -/
theorem SP_ro {L : Nat} {xs : Nat → Int32} {c : Nat} {ρ : Nat → Int} {lg : List De} {ll : Lw} {tn : Nat} {tb : Nat → Int} {fa : Int} {wr : Int} {st : Int} {sp : Int} {rf : Nat → Int} {ik0 : Int} {ir0 : Nat → Int} {il0 : Lw} {ik1 : Int} {ir1 : Nat → Int} {il1 : Lw} {dk : Int} {dr : Nat → Int} {G : am_G} {I I1 : Nat → Nat → Int} {P P1 : Nat → Nat → Option Nat} {mk : Int → am_V} {y1 y2 : Nat} {as : List am_V} {x : Int} (hW : WF c ρ lg ll tn tb rf ik0 ir0 il0 ik1 ir1 il1 dk dr) (hC : CI L xs c ρ lg ll tn tb fa wr st sp rf ik0 ir0 il0 ik1 ir1 il1 dk dr G I P) (hM : MI ρ lg ll tn tb fa wr st sp rf ik0 ir0 il0 ik1 ir1 il1 dk dr I) (k : am_call am_B am_M 100 y1 (.inr (.inr (some 64)) :: as) (G, I, P) = some (some (mk x), (G, I1, P1))) (hS : ST G P1) (fk : ∀ q k, CK q k → I1 q k = I q k) (f2 : ∀ q k, 208 ≤ q → q ≤ 239 → I1 q k = I q k) (fp : ∀ q k, PK q → P1 q k = P q k) (m : MI ρ lg ll tn tb fa wr st sp rf ik0 ir0 il0 ik1 ir1 il1 dk dr I1 → ∃ I2, am_call am_B am_M 100 y2 (.inr (.inr (some 208)) :: as) (G, I1, P1) = some (some (mk x), (G, I2, P1)) ∧ (∀ q k, MK2 q k → I2 q k = I1 q k) ∧ (∀ q k, ¬ (208 ≤ q ∧ q ≤ 239) → I2 q k = I1 q k)) : SP L xs c G I P mk y1 y2 as := by
  have hM1 : MI ρ lg ll tn tb fa wr st sp rf ik0 ir0 il0 ik1 ir1 il1 dk dr I1 := MI_fr hM (fun q k h => f2 q k (by unfold MK2 at h; omega) (by unfold MK2 at h; omega))
  obtain ⟨I2, e2, g1, g2⟩ := m hM1
  exact SP_do (WF_s hW) k (CI_s (CI_fr hC hS (WR_0 hW.1).1 hW.2.2.2.2.2.1 hW.2.2.2.2.2.2.1 fk fp)) e2 (MI_fr hM1 g1) g2
theorem fmz {I : Nat → Nat → Int} : ∀ q k, MK2 q k → am_u2 I 208 0 0 q k = I q k := fun q k h => u2_o (by unfold MK2 at h; omega)
theorem frz {I : Nat → Nat → Int} {j : Nat} {v : Int} : ∀ q k, ¬ (208 ≤ q ∧ q ≤ 239) → am_u2 I 208 j v q k = I q k := fun q k h => u2_o (by omega)
/-- a call that is refused -/
theorem SP_rf {L : Nat} {xs : Nat → Int32} {c : Nat} {ρ : Nat → Int} {lg : List De} {ll : Lw} {tn : Nat} {tb : Nat → Int} {fa : Int} {wr : Int} {st : Int} {sp : Int} {rf : Nat → Int} {ik0 : Int} {ir0 : Nat → Int} {il0 : Lw} {ik1 : Int} {ir1 : Nat → Int} {il1 : Lw} {dk : Int} {dr : Nat → Int} {G : am_G} {I I1 : Nat → Nat → Int} {P : Nat → Nat → Option Nat} {y1 y2 : Nat} {as : List am_V} {x : Int} (hW : WF c ρ lg ll tn tb rf ik0 ir0 il0 ik1 ir1 il1 dk dr) (hC : CI L xs c ρ lg ll tn tb fa wr st sp rf ik0 ir0 il0 ik1 ir1 il1 dk dr G I P) (hM : MI ρ lg ll tn tb fa wr st sp rf ik0 ir0 il0 ik1 ir1 il1 dk dr I) (kk : Nat) (hk : RKk kk) (k : am_call am_B am_M 100 y1 (.inr (.inr (some 64)) :: as) (G, I, P) = some (some (.inl x), (G, I1, P))) (hR : RFk kk I I1) (m : MI ρ lg ll tn tb fa wr st sp rf ik0 ir0 il0 ik1 ir1 il1 dk dr I1 → ∃ I2, am_call am_B am_M 100 y2 (.inr (.inr (some 208)) :: as) (G, I1, P) = some (some (.inl x), (G, I2, P)) ∧ RFm kk I1 I2) : SP L xs c G I P Sum.inl y1 y2 as := by
  obtain ⟨r1, r2, r3⟩ := hR
  have f2 : ∀ q k, 208 ≤ q → q ≤ 239 → I1 q k = I q k := fun q k a b => r3 q k (by omega) (by omega) (by omega) (by omega)
  have hM1 : MI ρ lg ll tn tb fa wr st sp rf ik0 ir0 il0 ik1 ir1 il1 dk dr I1 := MI_fr hM (fun q k h => f2 q k (by unfold MK2 at h; omega) (by unfold MK2 at h; omega))
  obtain ⟨I2, e2, g1, g2, g3⟩ := m hM1
  obtain ⟨hS, hK, ⟨c1, c2, c3, c4⟩, ⟨t1, t2⟩, ⟨s1, s2, s3, s4⟩, hRf, hI0, hI1, hD, hG, hX⟩ := hC
  have hCI : CI L xs c ρ lg ll tn tb fa wr st sp rf ik0 ir0 il0 ik1 ir1 il1 dk dr G I P := ⟨hS, hK, ⟨c1, c2, c3, c4⟩, ⟨t1, t2⟩, ⟨s1, s2, s3, s4⟩, hRf, hI0, hI1, hD, hG, hX⟩
  -- the class: all but the count and the status
  have hJ : CI L xs c ρ lg ll tn tb fa wr (-(kk : Int)) sp rf ik0 ir0 il0 ik1 ir1 il1 dk dr G (am_u2 I 64 16 (-(kk : Int))) P := ⟨hS, KS_fr hK (fun q k h => u2_q (by omega)), ⟨CC_w65 c1 (by decide), CLg_fr c2 (fun q k a b => u2_q (by omega)), LWS_eq c3 (WR_0 hW.1).1 rfl (fun q k h => u2_q (by omega)) (fun _ _ _ => rfl) (fun _ _ => rfl), c4⟩, ⟨(u2_k (by decide)).trans t1, fun k hk => (u2_q (by decide)).trans (t2 k hk)⟩, ⟨(u2_k (by decide)).trans s1, (u2_k (by decide)).trans s2, u2_e, (u2_q (by decide)).trans s4⟩, fun k hk => (u2_q (by decide)).trans (hRf k hk), ⟨(u2_q (by decide)).trans hI0.1, hI0.2.1, fun e => ⟨CC_fr (hI0.2.2 e).1 (fun q k a b _ => u2_q (by omega)), (by rcases hW.2.2.2.2.2.1 with w | w; (exact absurd (w.symm.trans e) (by decide)); (exact LWS_eq (hI0.2.2 e).2 w.2.1 rfl (fun q k h => u2_q (by omega)) (fun _ _ _ => rfl) (fun _ _ => rfl)))⟩⟩, ⟨(u2_q (by decide)).trans hI1.1, hI1.2.1, fun e => ⟨CC_fr (hI1.2.2 e).1 (fun q k a b _ => u2_q (by omega)), (by rcases hW.2.2.2.2.2.2.1 with w | w; (exact absurd (w.symm.trans e) (by decide)); (exact LWS_eq (hI1.2.2 e).2 w.2.1 rfl (fun q k h => u2_q (by omega)) (fun _ _ _ => rfl) (fun _ _ => rfl)))⟩⟩, ⟨CC_fr hD.1 (fun q k a b _ => u2_q (by omega)), LOs_fr hD.2 (u2_q (by decide)) (u2_q (by decide))⟩, hG, ⟨hX.1, fun j hj => (u2_q (by decide)).trans (hX.2 j hj)⟩⟩
  have hJ2 : CI L xs (c + 1) ρ lg ll tn tb fa wr (-(kk : Int)) sp (am_u1 rf kk (rf kk + 1)) ik0 ir0 il0 ik1 ir1 il1 dk dr G I1 P := by
    obtain ⟨z1, z2, z3, z4, z5, z6, z7, z8, z9, z10, z11⟩ := hJ
    have fx : ∀ q k, CK q k → ¬ q = 173 → I1 q k = am_u2 I 64 16 (-(kk : Int)) q k := fun q k h n => by
      by_cases e : q = 64 ∧ k = 16
      · obtain ⟨e1, e2⟩ := e; subst e1; subst e2; exact r1.trans u2_e.symm
      · rw [u2_o e]; exact r3 q k (by unfold CK at h; omega) (by unfold CK at h; omega) e (by omega)
    refine ⟨z1, KS_fr z2 (fun q k h => fx q k (by unfold CK; omega) (by omega)), ⟨CC_fr z3.1 (fun q k a b d => fx q k (by unfold CK; omega) (by omega)), CLg_fr z3.2.1 (fun q k a b => fx q k (by unfold CK; omega) (by omega)), LWS_eq z3.2.2.1 (WR_0 hW.1).1 rfl (fun q k h => fx q k (by unfold CK; omega) (by omega)) (fun _ _ _ => rfl) (fun _ _ => rfl), z3.2.2.2⟩, ⟨(fx _ _ (by unfold CK; omega) (by omega)).trans z4.1, fun k hk => (fx _ _ (by unfold CK; omega) (by omega)).trans (z4.2 k hk)⟩, ⟨(fx _ _ (by unfold CK; omega) (by omega)).trans z5.1, (fx _ _ (by unfold CK; omega) (by omega)).trans z5.2.1, (fx _ _ (by unfold CK; omega) (by omega)).trans z5.2.2.1, (fx _ _ (by unfold CK; omega) (by omega)).trans z5.2.2.2⟩, fun k hk => ?_, ⟨(fx _ _ (by unfold CK; omega) (by omega)).trans z7.1, z7.2.1, fun e => ⟨CC_fr (z7.2.2 e).1 (fun q k a b _ => fx q k (by unfold CK; omega) (by omega)), (by rcases hW.2.2.2.2.2.1 with w | w; (exact absurd (w.symm.trans e) (by decide)); (exact LWS_eq (z7.2.2 e).2 w.2.1 rfl (fun q k h => fx q k (by unfold CK; omega) (by omega)) (fun _ _ _ => rfl) (fun _ _ => rfl)))⟩⟩, ⟨(fx _ _ (by unfold CK; omega) (by omega)).trans z8.1, z8.2.1, fun e => ⟨CC_fr (z8.2.2 e).1 (fun q k a b _ => fx q k (by unfold CK; omega) (by omega)), (by rcases hW.2.2.2.2.2.2.1 with w | w; (exact absurd (w.symm.trans e) (by decide)); (exact LWS_eq (z8.2.2 e).2 w.2.1 rfl (fun q k h => fx q k (by unfold CK; omega) (by omega)) (fun _ _ _ => rfl) (fun _ _ => rfl)))⟩⟩, ⟨CC_fr z9.1 (fun q k a b _ => fx q k (by unfold CK; omega) (by omega)), LOs_fr z9.2 (fx _ _ (by unfold CK; omega) (by omega)) (fx _ _ (by unfold CK; omega) (by omega))⟩, CGs_s z10, ⟨z11.1, fun j hj => (fx _ _ (by unfold CK; omega) (by omega)).trans (z11.2 j hj)⟩⟩
    show I1 173 k = am_u1 rf kk (rf kk + 1) k
    unfold am_u1
    by_cases e : k = kk
    · rw [if_pos e, e, r2, hRf kk (e ▸ hk)]
    · rw [if_neg e, ← hRf k hk]; exact r3 173 k (by decide) (by decide) (by omega) (by omega)
  have hM2 : MI ρ lg ll tn tb fa wr (-(kk : Int)) sp (am_u1 rf kk (rf kk + 1)) ik0 ir0 il0 ik1 ir1 il1 dk dr I2 := by
    obtain ⟨⟨h1, h2, h3⟩, hK, ⟨t1, t2⟩, ⟨s1, s2, s3, s4⟩, hRf, ⟨a1, a2⟩, ⟨b1, b2⟩, hD⟩ := hM1
    have fx : ∀ q k, MK2 q k → ¬ q = 209 → ¬ (q = 208 ∧ k = 1) → I2 q k = I1 q k := fun q k h n1 n2 => g3 q k (by unfold MK2 at h; omega) (by unfold MK2 at h; omega) (by unfold MK2 at h; omega) (by omega)
    refine ⟨⟨(funext fun k => fx _ _ (by unfold MK2; omega) (by omega) (by omega)).trans h1, MLg_fr h2 (fx _ _ (by unfold MK2; omega) (by omega) (by omega)) (fun j hj => fx _ _ (by unfold MK2; omega) (by omega) (by omega)) (fun j hj => fx _ _ (by unfold MK2; omega) (by omega) (by omega)), (fx _ _ (by unfold MK2; omega) (by omega) (by omega)).trans h3⟩, KM_fr hK (fun q k hq => fx q k (by unfold MK2; omega) (by omega) (by omega)), ⟨(fx _ _ (by unfold MK2; omega) (by omega) (by omega)).trans t1, fun k hk => (fx _ _ (by unfold MK2; omega) (by omega) (by omega)).trans (t2 k hk)⟩, ⟨(fx _ _ (by unfold MK2; omega) (by omega) (by omega)).trans s1, (fx _ _ (by unfold MK2; omega) (by omega) (by omega)).trans s2, g1, (fx _ _ (by unfold MK2; omega) (by omega) (by omega)).trans s4⟩, fun k hk => ?_, ⟨(fx _ _ (by unfold MK2; omega) (by omega) (by omega)).trans a1, fun e j hj => (fx _ _ (by unfold MK2; omega) (by omega) (by omega)).trans (a2 e j hj)⟩, ⟨(fx _ _ (by unfold MK2; omega) (by omega) (by omega)).trans b1, fun e j hj => (fx _ _ (by unfold MK2; omega) (by omega) (by omega)).trans (b2 e j hj)⟩, ?_⟩
    · show I2 209 k = am_u1 rf kk (rf kk + 1) k
      unfold am_u1
      by_cases e : k = kk
      · rw [if_pos e, e, g2, hRf kk (e ▸ hk)]
      · rw [if_neg e, ← hRf k hk]; exact g3 209 k (by decide) (by decide) (by omega) (by omega)
    · rcases hD with ⟨e, d1, d2⟩ | ⟨e, d1, d2, d3⟩
      · exact Or.inl ⟨e, (fx _ _ (by unfold MK2; omega) (by omega) (by omega)).trans d1, (fx _ _ (by unfold MK2; omega) (by omega) (by omega)).trans d2⟩
      · exact Or.inr ⟨e, (fx _ _ (by unfold MK2; omega) (by omega) (by omega)).trans d1, (fx _ _ (by unfold MK2; omega) (by omega) (by omega)).trans d2, fun j hj => (fx _ _ (by unfold MK2; omega) (by omega) (by omega)).trans (d3 j hj)⟩
  have hW2 : WF (c + 1) ρ lg ll tn tb (am_u1 rf kk (rf kk + 1)) ik0 ir0 il0 ik1 ir1 il1 dk dr := ⟨hW.1, hW.2.1, hW.2.2.1, hW.2.2.2.1, fun k hk => by
    have a := hW.2.2.2.2.1 k hk
    unfold am_u1
    by_cases e : k = kk
    · rw [if_pos e]; subst e; omega
    · rw [if_neg e]; omega, hW.2.2.2.2.2⟩
  exact SP_do hW2 k hJ2 e2 hM2 (fun q k h => g3 q k (by omega) (by omega) (by omega) (by omega))
