/-! ===== the class on paper: nights that would pass ===== -/
theorem cq122 : CQ 122 := Or.inr (Or.inr (Or.inl rfl))
theorem pN_rw {ρ : Nat → Int} {n : Nat} {cl : Nat → Cl} (hR : RW ρ) (h5 : ρ 5 ≤ 999) : ∀ k, k ≤ 100 → RW (m_pN ρ n cl k) ∧ m_pN ρ n cl k 5 = ρ 5 + (k : Int) ∧ (∀ j, ¬ (j = 5 ∨ (9 ≤ j ∧ j < 15)) → m_pN ρ n cl k j = ρ j)
  | 0, _ => ⟨hR, by show ρ 5 = ρ 5 + ((0 : Nat) : Int); omega, fun _ _ => rfl⟩
  | k + 1, hk => by
    obtain ⟨h1, h3, h4⟩ := pN_rw hR h5 k (by omega)
    rw [m_pN_succ]
    refine ⟨RW_pass h1 (by omega), by rw [m_pass_5, h3]; omega, fun j hj => by rw [m_pass_out h1 hj]; exact h4 j hj⟩
def PF2 (I J : Nat → Nat → Int) : Prop := ∀ q k, ¬ q = 89 → ¬ q = 90 → ¬ (122 ≤ q ∧ q ≤ 137) → J q k = I q k
/-- a circuit's copy on paper: pointers -/
def PP2 (P P1 : Nat → Nat → Option Nat) : Prop := (∀ q k, ¬ q = 138 → P1 q k = P q k) ∧ (∀ j, j < 6 → P1 138 j = P 81 j)
theorem cloudIn_f {ρ : Nat → Int} {b : Int} {N c : Nat} (hc : c < N) (hat : ρ (9 + c) = b) (hno : ∀ j, j < c → ¬ ρ (9 + j) = b) : m_cloudIn ρ N b = (c : Int) := by
  have key : ∀ k, k ≤ N → am_it (fun i z => m_cin ρ N b i z) k 0 (-1) = (if N - k ≤ c then (c : Int) else am_it (fun i z => m_cin ρ N b i z) k 0 (-1)) := by
    intro k
    induction k with
    | zero => intro _; rw [if_neg (by omega)]
    | succ k ih =>
      intro hk
      by_cases h : N - (k + 1) ≤ c
      · rw [if_pos h, am_it_succ, Nat.zero_add]
        show m_cin ρ N b k (am_it (fun i z => m_cin ρ N b i z) k 0 (-1)) = _
        unfold m_cin
        by_cases e : N - (k + 1) = c
        · rw [if_pos (by rw [show N - 1 - k = c by omega]; exact hat)]; omega
        · have e2 := ih (by omega)
          rw [if_pos (by omega)] at e2
          rw [if_neg (by exact hno _ (by omega))]
          exact e2
      · rw [if_neg h]
  have := key N (Nat.le_refl _)
  rw [if_pos (by omega)] at this
  exact this
theorem cloudIn_n {ρ : Nat → Int} {b : Int} {N : Nat} (hno : ∀ j, j < N → ¬ ρ (9 + j) = b) : m_cloudIn ρ N b = -1 := by
  refine am_it_inv (f := fun i z => m_cin ρ N b i z) (inv := fun _ z => z = -1) (N := N) (fun i z hi h => ?_) N 0 (-1) (by omega) rfl
  show m_cin ρ N b i z = -1
  unfold m_cin
  rw [if_neg (hno _ (by omega))]; exact h
theorem k_where {d : Nat} {G : am_G} {I : Nat → Nat → Int} {P : Nat → Nat → Option Nat} (hS : ST G P) {ρ : Nat → Int} {n : Nat} {cl : Nat → Cl} (hE : CE G I P 65 ρ n cl) (hN : TN G P 65) (h59 : ρ 5 ≤ 999) {c1 k : Nat} (hc : c1 < 6) (hk : k ≤ 60) : ∃ I1 P1, am_call am_B am_M (d + 5) 54 [(.inr (.inr (some 121))), (.inr (.inr (some 65))), (.inl (c1 : Int)), (.inl (k : Int))] (G, I, P) = some (some (.inl (m_pN ρ n cl k (9 + c1))), (G, I1, P1)) ∧ (ST G P1 ∧ PF2 I I1 ∧ PP2 P P1) := by
  have h06 := RW_n0 hE.2.1
  have w : am_ex (am_call am_B am_M (d + 4)) (am_B 54) (am_B 54 0) [some (.inr (.inr (some 121))), some (.inr (.inr (some 65))), some (.inl (c1 : Int)), some (.inl (k : Int)), none] [] (G, I, P) (fun o => ∃ I1 P1, o = (some (.inl (m_pN ρ n cl k (9 + c1))), (G, I1, P1)) ∧ (ST G P1 ∧ PF2 I I1 ∧ PP2 P P1)) := by
    refine (ex_6_0 (ix_41r (sh_121 hS) (pt_121_1 hS) (ex_6_1 ?_)))
    obtain ⟨JC, P1, eC, hcC, h6C, fC, fP⟩ := k_copy (d := d + 2) hS cq122 cq65 (by decide) hN hE.1
    have hS : ST G P1 := ST_tx hS (fun q k _ h => fP q k (h 122 cq122))
    have hEC : CE G JC P1 122 ρ n cl := ⟨hcC, hE.2.1, LWn_cp hE.2.2 (fun q k h => fC q k (by omega)) (fun q k h => fP q k (by omega)) h6C⟩
    refine (ix_46 (S' := []) rfl (sh_122 hS) eC rfl rfl (ex_0 (ex_7_4 rfl (ex_58 ?_))))
    refine ex_forR (b := 1) (σ := Nat → Int) (k) (fun i s => m_pass s n cl) (fun i s J => CE G J P1 122 s n cl ∧ s = m_pN ρ n cl i ∧ PF2 I J) (fun i s e_i => [some (.inr (.inr (some 121))), some (.inr (.inr (some 65))), some (.inl (c1 : Int)), some (.inl (k : Int)), some (.inl (i : Int))]) ?_ (k) (0) (ρ) (fun k_ => ([some (.inr (.inr (some 121))), some (.inr (.inr (some 65))), some (.inl (c1 : Int)), some (.inl (k : Int)), some (.inl 0)] : am_L).getD k_ none) (JC) (by omega) (⟨hEC, rfl, fun q k _ _ h => fC q k (by omega)⟩) rfl ?_
    · intro i s e_i J hii hvi hki
      obtain ⟨hEi, hsp, hfi⟩ := hvi
      have hok := pN_rw (n := n) (cl := cl) hE.2.1 h59 i (by omega)
      rw [← hsp] at hok
      have h0i := RW_n0 hEi.2.1
      have hs0 : s 0 = ρ 0 := hok.2.2 0 (by omega)
      refine (ex_4_4 (ex_4_3 ?_))
      refine ex_ic3 (fun hc14 => by exfalso; omega) (fun hc14 => ?_)
      refine (ex_6_0 (ix_41r (sh_121 hS) (pt_121_0 hS) (ex_6_0 (ix_41r (sh_121 hS) (pt_121_1 hS) ?_))))
      obtain ⟨J2, e2, hE2, f2⟩ := k_letGo (d := d) hS cq122 hEi (N := (s 0).toNat) (by omega) (by omega)
      refine (ix_46 (S' := []) rfl (sh_88 hS) e2 rfl rfl (ex_10_4 ⟨by omega, by omega⟩ rfl (ex_28 ?_)))
      exact hki (m_pass s n cl) (fun k_ => ([some (.inr (.inr (some 121))), some (.inr (.inr (some 65))), some (.inl (c1 : Int)), some (.inl (k : Int)), some (.inl ((i : Int) + 1))] : am_L).getD k_ none) _ (rfl) (⟨hE2, (by rw [m_pN_succ, ← hsp]), fun q k h1 h2 h3 => (f2 q k h1 h2 (by omega) (by omega)).trans (hfi q k h1 h2 h3)⟩)
    · intro s e_i J hsi hvi
      obtain ⟨hEi, hsp, hfi⟩ := hvi
      refine (ex_4_4 (ex_4_3 ?_))
      refine ex_ic3 (fun hc14 => ?_) (fun hc14 => by exfalso; omega)
      refine (ex_6_0 (ix_41r (sh_121 hS) (pt_121_1 hS) (ix_41r (sh_122 hS) (pt_122_3 hS) (ex_4_2 (ix_30 (j := c1) (v := (s (9 + c1))) (sh_129 hS) (by omega) (by omega) (by omega) (CC_at hEi.1 c1 (by omega)) ?_)))))
      exact ex_53 ⟨_, _, (by rw [hsp]), hS, hfi, ⟨fP, h6C⟩⟩
  obtain ⟨o, e, I1, P1, rfl, h⟩ := am_doQ (as := [(.inr (.inr (some 121))), (.inr (.inr (some 65))), (.inl (c1 : Int)), (.inl (k : Int))]) (Nat.le_of_ble_eq_true rfl) rfl w
  exact ⟨I1, P1, e, h⟩
theorem k_meet {d : Nat} {G : am_G} {I : Nat → Nat → Int} {P : Nat → Nat → Option Nat} (hS : ST G P) {ρ : Nat → Int} {n : Nat} {cl : Nat → Cl} (hE : CE G I P 65 ρ n cl) (hN : TN G P 65) (h59 : ρ 5 ≤ 999) {a b : Nat} (ha : a < 6) (hb : b < 6) : ∃ I1 P1, am_call am_B am_M (d + 5) 56 [(.inr (.inr (some 121))), (.inr (.inr (some 65))), (.inl (a : Int)), (.inl (b : Int))] (G, I, P) = some (some (.inl (if 60 < m_meet ρ n cl a b then -1 else (m_meet ρ n cl a b : Int))), (G, I1, P1)) ∧ (ST G P1 ∧ PF2 I I1 ∧ PP2 P P1) := by
  have h06 := RW_n0 hE.2.1
  have w : am_ex (am_call am_B am_M (d + 4)) (am_B 56) (am_B 56 0) [some (.inr (.inr (some 121))), some (.inr (.inr (some 65))), some (.inl (a : Int)), some (.inl (b : Int)), none] [] (G, I, P) (fun o => ∃ I1 P1, o = (some (.inl (if 60 < m_meet ρ n cl a b then -1 else (m_meet ρ n cl a b : Int))), (G, I1, P1)) ∧ (ST G P1 ∧ PF2 I I1 ∧ PP2 P P1)) := by
    refine (ex_6_0 (ix_41r (sh_121 hS) (pt_121_1 hS) (ex_6_1 ?_)))
    obtain ⟨JC, P1, eC, hcC, h6C, fC, fP⟩ := k_copy (d := d + 2) hS cq122 cq65 (by decide) hN hE.1
    have hS : ST G P1 := ST_tx hS (fun q k _ h => fP q k (h 122 cq122))
    have hEC : CE G JC P1 122 ρ n cl := ⟨hcC, hE.2.1, LWn_cp hE.2.2 (fun q k h => fC q k (by omega)) (fun q k h => fP q k (by omega)) h6C⟩
    refine (ix_46 (S' := []) rfl (sh_122 hS) eC rfl rfl (ex_0 (ex_7_4 rfl (ex_58 ?_))))
    refine ex_forR (b := 1) (σ := Nat → Int) (61) (fun i s => m_pass s n cl) (fun i s J => CE G J P1 122 s n cl ∧ s = m_pN ρ n cl i ∧ PF2 I J ∧ ∀ j, j < i → ¬ (fun i => decide (m_pN ρ n cl i (9 + a) = m_pN ρ n cl i (9 + b))) j = true) (fun i s e_i => [some (.inr (.inr (some 121))), some (.inr (.inr (some 65))), some (.inl (a : Int)), some (.inl (b : Int)), some (.inl (i : Int))]) ?_ (61) (0) (ρ) (fun k_ => ([some (.inr (.inr (some 121))), some (.inr (.inr (some 65))), some (.inl (a : Int)), some (.inl (b : Int)), some (.inl 0)] : am_L).getD k_ none) (JC) (by omega) (⟨hEC, rfl, fun q k _ _ h => fC q k (by omega), fun j hj => absurd hj (by omega)⟩) rfl ?_
    · intro i s e_i J hii hvi hki
      obtain ⟨hEi, hsp, hfi, hno⟩ := hvi
      have hok := pN_rw (n := n) (cl := cl) hE.2.1 h59 i (by omega)
      rw [← hsp] at hok
      have h0i := RW_n0 hEi.2.1
      have hs0 : s 0 = ρ 0 := hok.2.2 0 (by omega)
      refine (ex_4_4 (ex_0 ?_))
      refine ex_ic4 (fun hc15 => by exfalso; omega) (fun hc15 => ?_)
      refine (ex_6_0 (ix_41r (sh_121 hS) (pt_121_1 hS) (ix_41r (sh_122 hS) (pt_122_3 hS) (ex_4_2 (ix_30 (j := a) (v := (s (9 + a))) (sh_129 hS) (by omega) (by omega) (by omega) (CC_at hEi.1 a (by omega)) (ex_6_0 (ix_41r (sh_121 hS) (pt_121_1 hS) (ix_41r (sh_122 hS) (pt_122_3 hS) (ex_4_3 (ix_30 (j := b) (v := (s (9 + b))) (sh_129 hS) (by omega) (by omega) (by omega) (CC_at hEi.1 b (by omega)) ?_))))))))))
      refine ex_ic1 (fun hc36 => ?_) (fun hc36 => ?_)
      · refine (ex_6_0 (ix_41r (sh_121 hS) (pt_121_0 hS) (ex_6_0 (ix_41r (sh_121 hS) (pt_121_1 hS) ?_))))
        obtain ⟨J2, e2, hE2, f2⟩ := k_letGo (d := d) hS cq122 hEi (N := (s 0).toNat) (by omega) (by omega)
        refine (ix_46 (S' := []) rfl (sh_88 hS) e2 rfl rfl (ex_10_4 ⟨by omega, by omega⟩ rfl (ex_28 ?_)))
        exact hki (m_pass s n cl) (fun k_ => ([some (.inr (.inr (some 121))), some (.inr (.inr (some 65))), some (.inl (a : Int)), some (.inl (b : Int)), some (.inl ((i : Int) + 1))] : am_L).getD k_ none) _ (rfl) (⟨hE2, (by rw [m_pN_succ, ← hsp]), fun q k h1 h2 h3 => (f2 q k h1 h2 (by omega) (by omega)).trans (hfi q k h1 h2 h3), fun j hj => (by by_cases hji : j < i; exact hno j hji; have : j = i := (by omega); subst this; rw [decide_eq_true_iff, ← hsp]; exact hc36)⟩)
      · refine (ex_4_4 ?_)
        exact ex_53 ⟨_, _, (by rw [show m_meet ρ n cl a b = i from fnd_at _ 61 0 i (Nat.zero_le _) (by omega) (fun x _ hx => hno x hx) (by rw [decide_eq_true_iff, ← hsp]; exact hc36)]; rw [if_neg (by omega)]), hS, hfi, ⟨fP, h6C⟩⟩
    · intro s e_i J hsi hvi
      obtain ⟨hEi, hsp, hfi, hno⟩ := hvi
      refine (ex_4_4 (ex_0 ?_))
      refine ex_ic4 (fun hc15 => ?_) (fun hc15 => by exfalso; omega)
      refine (ex_0 ?_)
      exact ex_53 ⟨_, _, (by rw [show m_meet ρ n cl a b = 61 from fnd_no _ 61 0 (fun x _ hx => hno x (by omega))]; rfl), hS, hfi, ⟨fP, h6C⟩⟩
  obtain ⟨o, e, I1, P1, rfl, h⟩ := am_doQ (as := [(.inr (.inr (some 121))), (.inr (.inr (some 65))), (.inl (a : Int)), (.inl (b : Int))]) (Nat.le_of_ble_eq_true rfl) rfl w
  exact ⟨I1, P1, e, h⟩
theorem k_first_0 {d : Nat} {G : am_G} {I : Nat → Nat → Int} {P : Nat → Nat → Option Nat} (hS : ST G P) {ρ : Nat → Int} {n : Nat} {cl : Nat → Cl} (hE : CE G I P 65 ρ n cl) (hN : TN G P 65) (h59 : ρ 5 ≤ 999) {b : Int} : ∃ I1 P1, am_call am_B am_M (d + 5) 55 [(.inr (.inr (some 121))), (.inr (.inr (some 65))), (.inl b), (.inl 0)] (G, I, P) = some (some (.inl (if 60 < m_first ρ n cl b then -1 else (m_first ρ n cl b : Int))), (G, I1, P1)) ∧ (ST G P1 ∧ PF2 I I1 ∧ PP2 P P1) := by
  have h06 := RW_n0 hE.2.1
  have w : am_ex (am_call am_B am_M (d + 4)) (am_B 55) (am_B 55 0) [some (.inr (.inr (some 121))), some (.inr (.inr (some 65))), some (.inl b), some (.inl 0), none, none] [] (G, I, P) (fun o => ∃ I1 P1, o = (some (.inl (if 60 < m_first ρ n cl b then -1 else (m_first ρ n cl b : Int))), (G, I1, P1)) ∧ (ST G P1 ∧ PF2 I I1 ∧ PP2 P P1)) := by
    refine (ex_6_0 (ix_41r (sh_121 hS) (pt_121_1 hS) (ex_6_1 ?_)))
    obtain ⟨JC, P1, eC, hcC, h6C, fC, fP⟩ := k_copy (d := d + 2) hS cq122 cq65 (by decide) hN hE.1
    have hS : ST G P1 := ST_tx hS (fun q k _ h => fP q k (h 122 cq122))
    have hEC : CE G JC P1 122 ρ n cl := ⟨hcC, hE.2.1, LWn_cp hE.2.2 (fun q k h => fC q k (by omega)) (fun q k h => fP q k (by omega)) h6C⟩
    refine (ix_46 (S' := []) rfl (sh_122 hS) eC rfl rfl (ex_0 (ex_7_4 rfl (ex_58 ?_))))
    refine ex_forR (b := 1) (σ := Nat → Int) (61) (fun i s => m_pass s n cl) (fun i s J => CE G J P1 122 s n cl ∧ s = m_pN ρ n cl i ∧ PF2 I J ∧ ∀ j, j < i → ¬ (fun i => decide (¬ m_cloudIn (m_pN ρ n cl i) (ρ 0).toNat b = -1)) j = true) (fun i s e_i => [some (.inr (.inr (some 121))), some (.inr (.inr (some 65))), some (.inl b), some (.inl 0), some (.inl (i : Int)), (e_i 5)]) ?_ (61) (0) (ρ) (fun k_ => ([some (.inr (.inr (some 121))), some (.inr (.inr (some 65))), some (.inl b), some (.inl 0), some (.inl 0), none] : am_L).getD k_ none) (JC) (by omega) (⟨hEC, rfl, fun q k _ _ h => fC q k (by omega), fun j hj => absurd hj (by omega)⟩) rfl ?_
    · intro i s e_i J hii hvi hki
      obtain ⟨hEi, hsp, hfi, hno⟩ := hvi
      have hok := pN_rw (n := n) (cl := cl) hE.2.1 h59 i (by omega)
      rw [← hsp] at hok
      have h0i := RW_n0 hEi.2.1
      have hs0 : s 0 = ρ 0 := hok.2.2 0 (by omega)
      refine (ex_4_4 (ex_0 ?_))
      refine ex_ic4 (fun hc15 => by exfalso; omega) (fun hc15 => ?_)
      refine (ex_0 (ex_7_5 rfl (ex_58 ?_)))
      by_cases hq : ∀ j, j < (ρ 0).toNat → ¬ s (9 + j) = b
      · have hcw : m_cloudIn s (ρ 0).toNat b = -1 := cloudIn_n hq
        refine ex_forH (b := 3) (σ := Unit) ((ρ 0).toNat) (fun x s_ => s_) (fun x s_ => True) (fun x s_ e_x => [some (.inr (.inr (some 121))), some (.inr (.inr (some 65))), some (.inl b), some (.inl 0), some (.inl (i : Int)), some (.inl (x : Int))]) (fun x s_ => (G, J, P1)) ?_ ?_ ((ρ 0).toNat) (0) (()) (fun k_ => ([some (.inr (.inr (some 121))), some (.inr (.inr (some 65))), some (.inl b), some (.inl 0), some (.inl (i : Int)), some (.inl 0)] : am_L).getD k_ none) (by omega) (trivial) rfl (rfl) ?_
        · intro x s_ hix hvx
          exact trivial
        · intro x s_ e_x hix hvx s_' hsx hkx
          refine (ex_4_5 (ex_6_0 (ix_41r (sh_121 hS) (pt_121_1 hS) (ix_41i (v := ((ρ 0).toNat : Int)) (sh_122 hS) ((CC_n0 hEi.1).trans (hs0.trans (Int.toNat_of_nonneg h06.1).symm)) ?_))))
          refine ex_ic3 (fun hc30 => by exfalso; omega) (fun hc30 => ?_)
          refine (ex_6_0 (ix_41r (sh_121 hS) (pt_121_1 hS) (ix_41r (sh_122 hS) (pt_122_3 hS) (ex_4_5 (ix_30 (j := x) (v := (s (9 + x))) (sh_129 hS) (by omega) (by omega) (by omega) (CC_at hEi.1 x (by omega)) (ex_4_2 ?_))))))
          refine ex_ic1 (fun hc44 => ?_) (fun hc44 => by exact absurd hc44 (hq x hix))
          refine (ex_10_5 ⟨by omega, by omega⟩ rfl (ex_28 ?_))
          skip
          exact hkx (fun k_ => ([some (.inr (.inr (some 121))), some (.inr (.inr (some 65))), some (.inl b), some (.inl 0), some (.inl (i : Int)), some (.inl ((x : Int) + 1))] : am_L).getD k_ none)
        · intro s_ e_x hsx hvx
          refine (ex_4_5 (ex_6_0 (ix_41r (sh_121 hS) (pt_121_1 hS) (ix_41i (v := ((ρ 0).toNat : Int)) (sh_122 hS) ((CC_n0 hEi.1).trans (hs0.trans (Int.toNat_of_nonneg h06.1).symm)) ?_))))
          refine ex_ic3 (fun hc30 => ?_) (fun hc30 => by exfalso; omega)
          refine (ex_6_0 (ix_41r (sh_121 hS) (pt_121_0 hS) (ex_6_0 (ix_41r (sh_121 hS) (pt_121_1 hS) ?_))))
          obtain ⟨J2, e2, hE2, f2⟩ := k_letGo (d := d) hS cq122 hEi (N := (s 0).toNat) (by omega) (by omega)
          refine (ix_46 (S' := []) rfl (sh_88 hS) e2 rfl rfl (ex_10_4 ⟨by omega, by omega⟩ rfl (ex_28 ?_)))
          exact hki (m_pass s n cl) (fun k_ => ([some (.inr (.inr (some 121))), some (.inr (.inr (some 65))), some (.inl b), some (.inl 0), some (.inl ((i : Int) + 1)), some (.inl (((ρ 0).toNat) : Int))] : am_L).getD k_ none) _ (rfl) (⟨hE2, (by rw [m_pN_succ, ← hsp]), fun q k h1 h2 h3 => (f2 q k h1 h2 (by omega) (by omega)).trans (hfi q k h1 h2 h3), fun j hj => (by by_cases hji : j < i; exact hno j hji; have : j = i := (by omega); subst this; rw [decide_eq_true_iff, ← hsp]; exact fun z => z hcw)⟩)
      · have hq2 : ∃ j, 0 ≤ j ∧ j < 0 + (ρ 0).toNat ∧ decide (s (9 + j) = b) = true := by
          apply Classical.byContradiction
          intro z
          apply hq
          intro j hj q
          exact z ⟨j, by omega, by omega, decide_eq_true q⟩
        obtain ⟨f1, f2, f3⟩ := fnd_ex (fun j => decide (s (9 + j) = b)) (ρ 0).toNat 0 hq2
        obtain ⟨w, hwe⟩ : ∃ w, fnd (fun j => decide (s (9 + j) = b)) (ρ 0).toNat 0 = w := ⟨_, rfl⟩
        rw [hwe] at f1 f2 f3
        have hat : s (9 + w) = b := of_decide_eq_true f1
        have hwN : w < (ρ 0).toNat := by omega
        have hnw : ∀ j, j < w → ¬ s (9 + j) = b := fun j hj z => f3 j (by omega) hj (decide_eq_true z)
        have hcw : m_cloudIn s (ρ 0).toNat b = (w : Int) := cloudIn_f hwN hat hnw
        refine ex_forH (b := 3) (σ := Unit) (w) (fun x s_ => s_) (fun x s_ => True) (fun x s_ e_x => [some (.inr (.inr (some 121))), some (.inr (.inr (some 65))), some (.inl b), some (.inl 0), some (.inl (i : Int)), some (.inl (x : Int))]) (fun x s_ => (G, J, P1)) ?_ ?_ (w) (0) (()) (fun k_ => ([some (.inr (.inr (some 121))), some (.inr (.inr (some 65))), some (.inl b), some (.inl 0), some (.inl (i : Int)), some (.inl 0)] : am_L).getD k_ none) (by omega) (trivial) rfl (rfl) ?_
        · intro x s_ hix hvx
          exact trivial
        · intro x s_ e_x hix hvx s_' hsx hkx
          refine (ex_4_5 (ex_6_0 (ix_41r (sh_121 hS) (pt_121_1 hS) (ix_41i (v := ((ρ 0).toNat : Int)) (sh_122 hS) ((CC_n0 hEi.1).trans (hs0.trans (Int.toNat_of_nonneg h06.1).symm)) ?_))))
          refine ex_ic3 (fun hc30 => by exfalso; omega) (fun hc30 => ?_)
          refine (ex_6_0 (ix_41r (sh_121 hS) (pt_121_1 hS) (ix_41r (sh_122 hS) (pt_122_3 hS) (ex_4_5 (ix_30 (j := x) (v := (s (9 + x))) (sh_129 hS) (by omega) (by omega) (by omega) (CC_at hEi.1 x (by omega)) (ex_4_2 ?_))))))
          refine ex_ic1 (fun hc44 => ?_) (fun hc44 => by exact absurd hc44 (hnw x hix))
          refine (ex_10_5 ⟨by omega, by omega⟩ rfl (ex_28 ?_))
          skip
          exact hkx (fun k_ => ([some (.inr (.inr (some 121))), some (.inr (.inr (some 65))), some (.inl b), some (.inl 0), some (.inl (i : Int)), some (.inl ((x : Int) + 1))] : am_L).getD k_ none)
        · intro s_ e_x hsx hvx
          refine (ex_4_5 (ex_6_0 (ix_41r (sh_121 hS) (pt_121_1 hS) (ix_41i (v := ((ρ 0).toNat : Int)) (sh_122 hS) ((CC_n0 hEi.1).trans (hs0.trans (Int.toNat_of_nonneg h06.1).symm)) ?_))))
          refine ex_ic3 (fun hc30 => by exfalso; omega) (fun hc30 => ?_)
          refine (ex_6_0 (ix_41r (sh_121 hS) (pt_121_1 hS) (ix_41r (sh_122 hS) (pt_122_3 hS) (ex_4_5 (ix_30 (j := (w)) (v := (s (9 + (w)))) (sh_129 hS) (by omega) (by omega) (by omega) (CC_at hEi.1 (w) (by omega)) (ex_4_2 ?_))))))
          refine ex_ic1 (fun hc44 => by exact absurd hat hc44) (fun hc44 => ?_)
          refine (ex_4_3 (ex_if0 (fun _ => ?_) (fun hc => by exfalso; revert hc; decide)))
          refine (ex_4_4 (ex_58 ?_))
          exact ex_53 ⟨_, _, (by rw [show m_first ρ n cl b = i from fnd_at _ 61 0 i (Nat.zero_le _) (by omega) (fun x _ hx => hno x hx) (by rw [decide_eq_true_iff, ← hsp, hcw]; omega)]; rw [if_neg (by omega)]), hS, hfi, ⟨fP, h6C⟩⟩
    · intro s e_i J hsi hvi
      obtain ⟨hEi, hsp, hfi, hno⟩ := hvi
      refine (ex_4_4 (ex_0 ?_))
      refine ex_ic4 (fun hc15 => ?_) (fun hc15 => by exfalso; omega)
      refine (ex_0 ?_)
      exact ex_53 ⟨_, _, (by rw [show m_first ρ n cl b = 61 from fnd_no _ 61 0 (fun x _ hx => hno x (by omega))]; rfl), hS, hfi, ⟨fP, h6C⟩⟩
  obtain ⟨o, e, I1, P1, rfl, h⟩ := am_doQ (as := [(.inr (.inr (some 121))), (.inr (.inr (some 65))), (.inl b), (.inl 0)]) (Nat.le_of_ble_eq_true rfl) rfl w
  exact ⟨I1, P1, e, h⟩
theorem k_first_1 {d : Nat} {G : am_G} {I : Nat → Nat → Int} {P : Nat → Nat → Option Nat} (hS : ST G P) {ρ : Nat → Int} {n : Nat} {cl : Nat → Cl} (hE : CE G I P 65 ρ n cl) (hN : TN G P 65) (h59 : ρ 5 ≤ 999) {b : Int} : ∃ I1 P1, am_call am_B am_M (d + 5) 55 [(.inr (.inr (some 121))), (.inr (.inr (some 65))), (.inl b), (.inl 1)] (G, I, P) = some (some (.inl (if 60 < m_first ρ n cl b then -1 else m_cloudIn (m_pN ρ n cl (m_first ρ n cl b)) (ρ 0).toNat b)), (G, I1, P1)) ∧ (ST G P1 ∧ PF2 I I1 ∧ PP2 P P1) := by
  have h06 := RW_n0 hE.2.1
  have w : am_ex (am_call am_B am_M (d + 4)) (am_B 55) (am_B 55 0) [some (.inr (.inr (some 121))), some (.inr (.inr (some 65))), some (.inl b), some (.inl 1), none, none] [] (G, I, P) (fun o => ∃ I1 P1, o = (some (.inl (if 60 < m_first ρ n cl b then -1 else m_cloudIn (m_pN ρ n cl (m_first ρ n cl b)) (ρ 0).toNat b)), (G, I1, P1)) ∧ (ST G P1 ∧ PF2 I I1 ∧ PP2 P P1)) := by
    refine (ex_6_0 (ix_41r (sh_121 hS) (pt_121_1 hS) (ex_6_1 ?_)))
    obtain ⟨JC, P1, eC, hcC, h6C, fC, fP⟩ := k_copy (d := d + 2) hS cq122 cq65 (by decide) hN hE.1
    have hS : ST G P1 := ST_tx hS (fun q k _ h => fP q k (h 122 cq122))
    have hEC : CE G JC P1 122 ρ n cl := ⟨hcC, hE.2.1, LWn_cp hE.2.2 (fun q k h => fC q k (by omega)) (fun q k h => fP q k (by omega)) h6C⟩
    refine (ix_46 (S' := []) rfl (sh_122 hS) eC rfl rfl (ex_0 (ex_7_4 rfl (ex_58 ?_))))
    refine ex_forR (b := 1) (σ := Nat → Int) (61) (fun i s => m_pass s n cl) (fun i s J => CE G J P1 122 s n cl ∧ s = m_pN ρ n cl i ∧ PF2 I J ∧ ∀ j, j < i → ¬ (fun i => decide (¬ m_cloudIn (m_pN ρ n cl i) (ρ 0).toNat b = -1)) j = true) (fun i s e_i => [some (.inr (.inr (some 121))), some (.inr (.inr (some 65))), some (.inl b), some (.inl 1), some (.inl (i : Int)), (e_i 5)]) ?_ (61) (0) (ρ) (fun k_ => ([some (.inr (.inr (some 121))), some (.inr (.inr (some 65))), some (.inl b), some (.inl 1), some (.inl 0), none] : am_L).getD k_ none) (JC) (by omega) (⟨hEC, rfl, fun q k _ _ h => fC q k (by omega), fun j hj => absurd hj (by omega)⟩) rfl ?_
    · intro i s e_i J hii hvi hki
      obtain ⟨hEi, hsp, hfi, hno⟩ := hvi
      have hok := pN_rw (n := n) (cl := cl) hE.2.1 h59 i (by omega)
      rw [← hsp] at hok
      have h0i := RW_n0 hEi.2.1
      have hs0 : s 0 = ρ 0 := hok.2.2 0 (by omega)
      refine (ex_4_4 (ex_0 ?_))
      refine ex_ic4 (fun hc15 => by exfalso; omega) (fun hc15 => ?_)
      refine (ex_0 (ex_7_5 rfl (ex_58 ?_)))
      by_cases hq : ∀ j, j < (ρ 0).toNat → ¬ s (9 + j) = b
      · have hcw : m_cloudIn s (ρ 0).toNat b = -1 := cloudIn_n hq
        refine ex_forH (b := 3) (σ := Unit) ((ρ 0).toNat) (fun x s_ => s_) (fun x s_ => True) (fun x s_ e_x => [some (.inr (.inr (some 121))), some (.inr (.inr (some 65))), some (.inl b), some (.inl 1), some (.inl (i : Int)), some (.inl (x : Int))]) (fun x s_ => (G, J, P1)) ?_ ?_ ((ρ 0).toNat) (0) (()) (fun k_ => ([some (.inr (.inr (some 121))), some (.inr (.inr (some 65))), some (.inl b), some (.inl 1), some (.inl (i : Int)), some (.inl 0)] : am_L).getD k_ none) (by omega) (trivial) rfl (rfl) ?_
        · intro x s_ hix hvx
          exact trivial
        · intro x s_ e_x hix hvx s_' hsx hkx
          refine (ex_4_5 (ex_6_0 (ix_41r (sh_121 hS) (pt_121_1 hS) (ix_41i (v := ((ρ 0).toNat : Int)) (sh_122 hS) ((CC_n0 hEi.1).trans (hs0.trans (Int.toNat_of_nonneg h06.1).symm)) ?_))))
          refine ex_ic3 (fun hc30 => by exfalso; omega) (fun hc30 => ?_)
          refine (ex_6_0 (ix_41r (sh_121 hS) (pt_121_1 hS) (ix_41r (sh_122 hS) (pt_122_3 hS) (ex_4_5 (ix_30 (j := x) (v := (s (9 + x))) (sh_129 hS) (by omega) (by omega) (by omega) (CC_at hEi.1 x (by omega)) (ex_4_2 ?_))))))
          refine ex_ic1 (fun hc44 => ?_) (fun hc44 => by exact absurd hc44 (hq x hix))
          refine (ex_10_5 ⟨by omega, by omega⟩ rfl (ex_28 ?_))
          skip
          exact hkx (fun k_ => ([some (.inr (.inr (some 121))), some (.inr (.inr (some 65))), some (.inl b), some (.inl 1), some (.inl (i : Int)), some (.inl ((x : Int) + 1))] : am_L).getD k_ none)
        · intro s_ e_x hsx hvx
          refine (ex_4_5 (ex_6_0 (ix_41r (sh_121 hS) (pt_121_1 hS) (ix_41i (v := ((ρ 0).toNat : Int)) (sh_122 hS) ((CC_n0 hEi.1).trans (hs0.trans (Int.toNat_of_nonneg h06.1).symm)) ?_))))
          refine ex_ic3 (fun hc30 => ?_) (fun hc30 => by exfalso; omega)
          refine (ex_6_0 (ix_41r (sh_121 hS) (pt_121_0 hS) (ex_6_0 (ix_41r (sh_121 hS) (pt_121_1 hS) ?_))))
          obtain ⟨J2, e2, hE2, f2⟩ := k_letGo (d := d) hS cq122 hEi (N := (s 0).toNat) (by omega) (by omega)
          refine (ix_46 (S' := []) rfl (sh_88 hS) e2 rfl rfl (ex_10_4 ⟨by omega, by omega⟩ rfl (ex_28 ?_)))
          exact hki (m_pass s n cl) (fun k_ => ([some (.inr (.inr (some 121))), some (.inr (.inr (some 65))), some (.inl b), some (.inl 1), some (.inl ((i : Int) + 1)), some (.inl (((ρ 0).toNat) : Int))] : am_L).getD k_ none) _ (rfl) (⟨hE2, (by rw [m_pN_succ, ← hsp]), fun q k h1 h2 h3 => (f2 q k h1 h2 (by omega) (by omega)).trans (hfi q k h1 h2 h3), fun j hj => (by by_cases hji : j < i; exact hno j hji; have : j = i := (by omega); subst this; rw [decide_eq_true_iff, ← hsp]; exact fun z => z hcw)⟩)
      · have hq2 : ∃ j, 0 ≤ j ∧ j < 0 + (ρ 0).toNat ∧ decide (s (9 + j) = b) = true := by
          apply Classical.byContradiction
          intro z
          apply hq
          intro j hj q
          exact z ⟨j, by omega, by omega, decide_eq_true q⟩
        obtain ⟨f1, f2, f3⟩ := fnd_ex (fun j => decide (s (9 + j) = b)) (ρ 0).toNat 0 hq2
        obtain ⟨w, hwe⟩ : ∃ w, fnd (fun j => decide (s (9 + j) = b)) (ρ 0).toNat 0 = w := ⟨_, rfl⟩
        rw [hwe] at f1 f2 f3
        have hat : s (9 + w) = b := of_decide_eq_true f1
        have hwN : w < (ρ 0).toNat := by omega
        have hnw : ∀ j, j < w → ¬ s (9 + j) = b := fun j hj z => f3 j (by omega) hj (decide_eq_true z)
        have hcw : m_cloudIn s (ρ 0).toNat b = (w : Int) := cloudIn_f hwN hat hnw
        refine ex_forH (b := 3) (σ := Unit) (w) (fun x s_ => s_) (fun x s_ => True) (fun x s_ e_x => [some (.inr (.inr (some 121))), some (.inr (.inr (some 65))), some (.inl b), some (.inl 1), some (.inl (i : Int)), some (.inl (x : Int))]) (fun x s_ => (G, J, P1)) ?_ ?_ (w) (0) (()) (fun k_ => ([some (.inr (.inr (some 121))), some (.inr (.inr (some 65))), some (.inl b), some (.inl 1), some (.inl (i : Int)), some (.inl 0)] : am_L).getD k_ none) (by omega) (trivial) rfl (rfl) ?_
        · intro x s_ hix hvx
          exact trivial
        · intro x s_ e_x hix hvx s_' hsx hkx
          refine (ex_4_5 (ex_6_0 (ix_41r (sh_121 hS) (pt_121_1 hS) (ix_41i (v := ((ρ 0).toNat : Int)) (sh_122 hS) ((CC_n0 hEi.1).trans (hs0.trans (Int.toNat_of_nonneg h06.1).symm)) ?_))))
          refine ex_ic3 (fun hc30 => by exfalso; omega) (fun hc30 => ?_)
          refine (ex_6_0 (ix_41r (sh_121 hS) (pt_121_1 hS) (ix_41r (sh_122 hS) (pt_122_3 hS) (ex_4_5 (ix_30 (j := x) (v := (s (9 + x))) (sh_129 hS) (by omega) (by omega) (by omega) (CC_at hEi.1 x (by omega)) (ex_4_2 ?_))))))
          refine ex_ic1 (fun hc44 => ?_) (fun hc44 => by exact absurd hc44 (hnw x hix))
          refine (ex_10_5 ⟨by omega, by omega⟩ rfl (ex_28 ?_))
          skip
          exact hkx (fun k_ => ([some (.inr (.inr (some 121))), some (.inr (.inr (some 65))), some (.inl b), some (.inl 1), some (.inl (i : Int)), some (.inl ((x : Int) + 1))] : am_L).getD k_ none)
        · intro s_ e_x hsx hvx
          refine (ex_4_5 (ex_6_0 (ix_41r (sh_121 hS) (pt_121_1 hS) (ix_41i (v := ((ρ 0).toNat : Int)) (sh_122 hS) ((CC_n0 hEi.1).trans (hs0.trans (Int.toNat_of_nonneg h06.1).symm)) ?_))))
          refine ex_ic3 (fun hc30 => by exfalso; omega) (fun hc30 => ?_)
          refine (ex_6_0 (ix_41r (sh_121 hS) (pt_121_1 hS) (ix_41r (sh_122 hS) (pt_122_3 hS) (ex_4_5 (ix_30 (j := (w)) (v := (s (9 + (w)))) (sh_129 hS) (by omega) (by omega) (by omega) (CC_at hEi.1 (w) (by omega)) (ex_4_2 ?_))))))
          refine ex_ic1 (fun hc44 => by exact absurd hat hc44) (fun hc44 => ?_)
          refine (ex_4_3 (ex_if0 (fun hc => by exfalso; revert hc; decide) (fun _ => ?_)))
          refine (ex_4_5 (ex_28 ?_))
          exact ex_53 ⟨_, _, (by rw [show m_first ρ n cl b = i from fnd_at _ 61 0 i (Nat.zero_le _) (by omega) (fun x _ hx => hno x hx) (by rw [decide_eq_true_iff, ← hsp, hcw]; omega)]; rw [if_neg (by omega), ← hsp, hcw]), hS, hfi, ⟨fP, h6C⟩⟩
    · intro s e_i J hsi hvi
      obtain ⟨hEi, hsp, hfi, hno⟩ := hvi
      refine (ex_4_4 (ex_0 ?_))
      refine ex_ic4 (fun hc15 => ?_) (fun hc15 => by exfalso; omega)
      refine (ex_0 ?_)
      exact ex_53 ⟨_, _, (by rw [show m_first ρ n cl b = 61 from fnd_no _ 61 0 (fun x _ hx => hno x (by omega))]; rfl), hS, hfi, ⟨fP, h6C⟩⟩
  obtain ⟨o, e, I1, P1, rfl, h⟩ := am_doQ (as := [(.inr (.inr (some 121))), (.inr (.inr (some 65))), (.inl b), (.inl 1)]) (Nat.le_of_ble_eq_true rfl) rfl w
  exact ⟨I1, P1, e, h⟩
theorem k_under {d : Nat} {G : am_G} {I : Nat → Nat → Int} {P : Nat → Nat → Option Nat} (hS : ST G P) {ρ : Nat → Int} {n : Nat} {cl : Nat → Cl} (hE : CE G I P 65 ρ n cl) (hN : TN G P 65) (h59 : ρ 5 ≤ 999) {lw : Int} : ∃ I1 P1, am_call am_B am_M (d + 3) 58 [(.inr (.inr (some 121))), (.inr (.inr (some 65))), (.inl lw)] (G, I, P) = some (some (.inr (.inr (some 122))), (G, I1, P1)) ∧ (ST G P1 ∧ CC I1 122 (am_u1 ρ 4 lw) ∧ PF2 I I1 ∧ PP2 P P1) := by
  have w : am_ex (am_call am_B am_M (d + 2)) (am_B 58) (am_B 58 0) [some (.inr (.inr (some 121))), some (.inr (.inr (some 65))), some (.inl lw)] [] (G, I, P) (fun o => ∃ I1 P1, o = (some (.inr (.inr (some 122))), (G, I1, P1)) ∧ (ST G P1 ∧ CC I1 122 (am_u1 ρ 4 lw) ∧ PF2 I I1 ∧ PP2 P P1)) := by
    refine (ex_6_0 (ix_41r (sh_121 hS) (pt_121_1 hS) (ex_6_1 ?_)))
    obtain ⟨JC, P1, eC, hcC, h6C, fC, fP⟩ := k_copy (d := d) hS cq122 cq65 (by decide) hN hE.1
    have hS : ST G P1 := ST_tx hS (fun q k _ h => fP q k (h 122 cq122))
    have hEC : CE G JC P1 122 ρ n cl := ⟨hcC, hE.2.1, LWn_cp hE.2.2 (fun q k h => fC q k (by omega)) (fun q k h => fP q k (by omega)) h6C⟩
    refine (ix_46 (S' := []) rfl (sh_122 hS) eC rfl rfl (ex_6_0 (ix_41r (sh_121 hS) (pt_121_1 hS) (ex_4_2 (ix_42i (sh_122 hS) (ex_6_0 (ix_41r (sh_121 hS) (pt_121_1 hS) ?_)))))))
    exact ex_55 ⟨_, _, rfl, hS, CCs_fo hcC, fun q k _ _ h => (u2_q (by omega)).trans (fC q k (by omega)), ⟨fP, h6C⟩⟩
  obtain ⟨o, e, I1, P1, rfl, h⟩ := am_doQ (as := [(.inr (.inr (some 121))), (.inr (.inr (some 65))), (.inl lw)]) (Nat.le_of_ble_eq_true rfl) rfl w
  exact ⟨I1, P1, e, h⟩
