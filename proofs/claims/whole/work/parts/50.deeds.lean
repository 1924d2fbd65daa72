/-! ===== the class: copies as rows; the log; what is done ===== -/
theorem TX_frP {G : am_G} {I J : Nat → Nat → Int} {P Q : Nat → Nat → Option Nat} {t n : Nat} {cl : Nat → Cl} (h : TX G I P t n cl) (hf : ∀ q k, 240 ≤ q → J q k = I q k) (hp : ∀ q k, 240 ≤ q → Q q k = P q k) : TX G J Q t n cl := by
  obtain ⟨h1, L, C, sz, sg, tl, h2, h3⟩ := TX_fr h hf
  refine ⟨h1, L, C, sz, sg, tl, ?_, h3⟩
  obtain ⟨h9, p0, s1, p1, s2, p4, s5, p6, s6, r⟩ := h2
  exact ⟨h9, (hp _ _ h1).trans p0, s1, (hp _ _ h1).trans p1, s2, (hp _ _ h1).trans p4, s5, (hp _ _ h1).trans p6, s6, r⟩
theorem ST_tx {G : am_G} {P Q : Nat → Nat → Option Nat} (h : ST G P) (hq : ∀ q k, q < 240 → (∀ c, CQ c → ¬ q = c + 16) → Q q k = P q k) : ST G Q := by
  refine ⟨h.1, h.2.1, fun w hw => ?_⟩
  have key : ∀ w ∈ st_pt, w.1 < 240 ∧ ¬ w.1 = 81 ∧ ¬ w.1 = 109 ∧ ¬ w.1 = 138 ∧ ¬ w.1 = 155 ∧ ¬ w.1 = 190 ∧ ¬ w.1 = 207 := by decide +kernel
  obtain ⟨k1, k2⟩ := key w hw
  rw [hq w.1 w.2.1 k1 (fun c hc => by unfold CQ at hc; omega)]
  exact h.2.2 w hw
/-- a copied circuit -/
theorem k_copy {d : Nat} {G : am_G} {I : Nat → Nat → Int} {P : Nat → Nat → Option Nat} (hS : ST G P) {c b : Nat} (hCc : CQ c) (hCb : CQ b) (hco : ¬ c = b) (hN : TN G P b) {ρ : Nat → Int} (h : CC I b ρ) : ∃ I1 P1, am_call am_B am_M (d + 2) 11 [.inr (.inr (some c)), .inr (.inr (some b))] (G, I, P) = some (none, (G, I1, P1)) ∧ CC I1 c ρ ∧ (∀ j, j < 6 → P1 (c + 16) j = P (b + 16) j) ∧ (∀ q k, (q < c ∨ c + 15 < q) → I1 q k = I q k) ∧ (∀ q k, ¬ q = c + 16 → P1 q k = P q k) := by
  obtain ⟨I1, P1, e, ⟨q_ro, q_nr, q_sm, q_ki, q_ra, q_at, q_by, q_ea, q_en, q_we, q_kn, q_h1, q_h2, q_te, q_n0, q_n1, q_n2, q_n3, q_fo⟩, h2, h3, h4⟩ := k_copyFrom (d := d) hS hCc hCb hco hN
  exact ⟨I1, P1, e, ⟨q_n0.trans (CC_n0 h), q_n1.trans (CC_n1 h), q_n2.trans (CC_n2 h), q_n3.trans (CC_n3 h), q_fo.trans (CC_fo h), q_sm.trans (CC_sm h), fun j hj => (q_ki j hj).trans (CC_ki h j hj), fun j hj => (q_ra j hj).trans (CC_ra h j hj), fun j hj => (q_at j hj).trans (CC_at h j hj), fun j hj => (q_by j hj).trans (CC_by h j hj), fun j hj => (q_ea j hj).trans (CC_ea h j hj), fun j hj => (q_en j hj).trans (CC_en h j hj), fun j hj => (q_we j hj).trans (CC_we h j hj), fun j hj => (q_kn j hj).trans (CC_kn h j hj), fun j hj => (q_te j hj).trans (CC_te h j hj), fun j hj => (q_ro j hj).trans (CC_ro h j hj), fun j hj => (q_nr j hj).trans (CC_nr h j hj), fun j hj => (q_h1 j hj).trans (CC_h1 h j hj), fun j hj => (q_h2 j hj).trans (CC_h2 h j hj)⟩, h2, h3, h4⟩
theorem LWn_cp {G : am_G} {I J : Nat → Nat → Int} {P Q : Nat → Nat → Option Nat} {c b n : Nat} {ρ : Nat → Int} {cl : Nat → Cl} (h : LWn G I P b ρ n cl) (hf : ∀ q k, 240 ≤ q → J q k = I q k) (hp : ∀ q k, 240 ≤ q → Q q k = P q k) (h6 : ∀ j, j < 6 → Q (c + 16) j = P (b + 16) j) : LWn G J Q c ρ n cl := by
  rcases h with h | ⟨i4, t, h1, h2, h3, h4⟩
  · exact Or.inl h
  · exact Or.inr ⟨i4, t, h1, h2, (h6 i4 h1).trans h3, TX_frP h4 hf hp⟩
theorem k_logCopy_110 {d : Nat} {G : am_G} {I : Nat → Nat → Int} {P : Nat → Nat → Option Nat} (hS : ST G P) : ∃ I1, am_call am_B am_M (d + 1) 48 [(.inr (.inr (some 110))), (.inr (.inr (some 84)))] (G, I, P) = some (none, (G, I1, P)) ∧ ((∀ j, j < 16 → I1 111 j = I 85 j) ∧ (∀ j, j < 16 → I1 112 j = I 86 j) ∧ (∀ j, j < 16 → I1 113 j = I 87 j) ∧ I1 110 3 = I 84 3 ∧ I1 110 4 = I 84 4 ∧ (∀ q k, (q < 110 ∨ 113 < q) → I1 q k = I q k)) := by
  have w : am_ex (am_call am_B am_M (d + 0)) (am_B 48) (am_B 48 0) [some (.inr (.inr (some 110))), some (.inr (.inr (some 84)))] [] (G, I, P) (fun o => ∃ I1, o = (none, (G, I1, P)) ∧ ((∀ j, j < 16 → I1 111 j = I 85 j) ∧ (∀ j, j < 16 → I1 112 j = I 86 j) ∧ (∀ j, j < 16 → I1 113 j = I 87 j) ∧ I1 110 3 = I 84 3 ∧ I1 110 4 = I 84 4 ∧ (∀ q k, (q < 110 ∨ 113 < q) → I1 q k = I q k))) := by
    refine (ex_6_1 (ix_41r (sh_84 hS) (pt_84_0 hS) (ex_0 (ex_6_0 (ix_41r (sh_110 hS) (pt_110_0 hS) (ex_0 (ex_0 (ix_52 (sj := 0) (dj := 0) (nj := 16) (sh_85 hS) (sh_111 hS) ⟨by decide, by decide, by decide, by decide, by decide, by decide⟩ rfl rfl rfl ?_))))))))
    generalize hJ12 : am_u1 I 111 (am_cp (I 85) (I 111) 0 0 16) = J12
    refine (ex_6_1 (ix_41r (sh_84 hS) (pt_84_1 hS) (ex_0 (ex_6_0 (ix_41r (sh_110 hS) (pt_110_1 hS) (ex_0 (ex_0 (ix_52 (sj := 0) (dj := 0) (nj := 16) (sh_86 hS) (sh_112 hS) ⟨by decide, by decide, by decide, by decide, by decide, by decide⟩ rfl rfl rfl ?_))))))))
    generalize hJ27 : am_u1 J12 112 (am_cp (J12 86) (J12 112) 0 0 16) = J27
    refine (ex_6_1 (ix_41r (sh_84 hS) (pt_84_2 hS) (ex_0 (ex_6_0 (ix_41r (sh_110 hS) (pt_110_2 hS) (ex_0 (ex_0 (ix_52 (sj := 0) (dj := 0) (nj := 16) (sh_87 hS) (sh_113 hS) ⟨by decide, by decide, by decide, by decide, by decide, by decide⟩ rfl rfl rfl ?_))))))))
    generalize hJ42 : am_u1 J27 113 (am_cp (J27 87) (J27 113) 0 0 16) = J42
    refine (ex_6_0 (ex_6_1 (ix_41i (v := (I 84 3)) (sh_84 hS) ((((congrFun (congrFun hJ42.symm _) _).trans (u1_qk (by omega)))).trans ((((congrFun (congrFun hJ27.symm _) _).trans (u1_qk (by omega)))).trans (((congrFun (congrFun hJ12.symm _) _).trans (u1_qk (by omega)))))) (ix_42i (sh_110 hS) (ex_6_0 (ex_6_1 (ix_41i (v := (I 84 4)) (sh_84 hS) ((u2_q (by decide)).trans ((((congrFun (congrFun hJ42.symm _) _).trans (u1_qk (by omega)))).trans ((((congrFun (congrFun hJ27.symm _) _).trans (u1_qk (by omega)))).trans (((congrFun (congrFun hJ12.symm _) _).trans (u1_qk (by omega))))))) (ix_42i (sh_110 hS) ?_))))))))
    exact ex_56 ⟨_, rfl, fun j hj => ((u2_q (by decide)).trans ((u2_q (by decide)).trans ((((congrFun (congrFun hJ42.symm _) _).trans (u1_qk (by omega)))).trans ((((congrFun (congrFun hJ27.symm _) _).trans (u1_qk (by omega)))).trans (((congrFun (congrFun hJ12.symm _) _).trans ((congrFun u1_e _).trans (cp_00 (by omega))))))))), fun j hj => ((u2_q (by decide)).trans ((u2_q (by decide)).trans ((((congrFun (congrFun hJ42.symm _) _).trans (u1_qk (by omega)))).trans ((((congrFun (congrFun hJ27.symm _) _).trans ((congrFun u1_e _).trans (cp_00 (by omega))))).trans (((congrFun (congrFun hJ12.symm _) _).trans (u1_qk (by omega)))))))), fun j hj => ((u2_q (by decide)).trans ((u2_q (by decide)).trans ((((congrFun (congrFun hJ42.symm _) _).trans ((congrFun u1_e _).trans (cp_00 (by omega))))).trans ((((congrFun (congrFun hJ27.symm _) _).trans (u1_qk (by omega)))).trans (((congrFun (congrFun hJ12.symm _) _).trans (u1_qk (by omega)))))))), ((u2_k (by decide)).trans u2_e), u2_e, fun zz k hz => ((u2_q (by omega)).trans ((u2_q (by omega)).trans ((((congrFun (congrFun hJ42.symm _) _).trans (u1_qk (by omega)))).trans ((((congrFun (congrFun hJ27.symm _) _).trans (u1_qk (by omega)))).trans (((congrFun (congrFun hJ12.symm _) _).trans (u1_qk (by omega))))))))⟩
  obtain ⟨o, e, I1, rfl, h⟩ := am_doQ (as := [(.inr (.inr (some 110))), (.inr (.inr (some 84)))]) (Nat.le_of_ble_eq_true rfl) rfl w
  exact ⟨I1, e, h⟩
theorem k_logCopy_84 {d : Nat} {G : am_G} {I : Nat → Nat → Int} {P : Nat → Nat → Option Nat} (hS : ST G P) : ∃ I1, am_call am_B am_M (d + 1) 48 [(.inr (.inr (some 84))), (.inr (.inr (some 110)))] (G, I, P) = some (none, (G, I1, P)) ∧ ((∀ j, j < 16 → I1 85 j = I 111 j) ∧ (∀ j, j < 16 → I1 86 j = I 112 j) ∧ (∀ j, j < 16 → I1 87 j = I 113 j) ∧ I1 84 3 = I 110 3 ∧ I1 84 4 = I 110 4 ∧ (∀ q k, (q < 84 ∨ 87 < q) → I1 q k = I q k)) := by
  have w : am_ex (am_call am_B am_M (d + 0)) (am_B 48) (am_B 48 0) [some (.inr (.inr (some 84))), some (.inr (.inr (some 110)))] [] (G, I, P) (fun o => ∃ I1, o = (none, (G, I1, P)) ∧ ((∀ j, j < 16 → I1 85 j = I 111 j) ∧ (∀ j, j < 16 → I1 86 j = I 112 j) ∧ (∀ j, j < 16 → I1 87 j = I 113 j) ∧ I1 84 3 = I 110 3 ∧ I1 84 4 = I 110 4 ∧ (∀ q k, (q < 84 ∨ 87 < q) → I1 q k = I q k))) := by
    refine (ex_6_1 (ix_41r (sh_110 hS) (pt_110_0 hS) (ex_0 (ex_6_0 (ix_41r (sh_84 hS) (pt_84_0 hS) (ex_0 (ex_0 (ix_52 (sj := 0) (dj := 0) (nj := 16) (sh_111 hS) (sh_85 hS) ⟨by decide, by decide, by decide, by decide, by decide, by decide⟩ rfl rfl rfl ?_))))))))
    generalize hJ12 : am_u1 I 85 (am_cp (I 111) (I 85) 0 0 16) = J12
    refine (ex_6_1 (ix_41r (sh_110 hS) (pt_110_1 hS) (ex_0 (ex_6_0 (ix_41r (sh_84 hS) (pt_84_1 hS) (ex_0 (ex_0 (ix_52 (sj := 0) (dj := 0) (nj := 16) (sh_112 hS) (sh_86 hS) ⟨by decide, by decide, by decide, by decide, by decide, by decide⟩ rfl rfl rfl ?_))))))))
    generalize hJ27 : am_u1 J12 86 (am_cp (J12 112) (J12 86) 0 0 16) = J27
    refine (ex_6_1 (ix_41r (sh_110 hS) (pt_110_2 hS) (ex_0 (ex_6_0 (ix_41r (sh_84 hS) (pt_84_2 hS) (ex_0 (ex_0 (ix_52 (sj := 0) (dj := 0) (nj := 16) (sh_113 hS) (sh_87 hS) ⟨by decide, by decide, by decide, by decide, by decide, by decide⟩ rfl rfl rfl ?_))))))))
    generalize hJ42 : am_u1 J27 87 (am_cp (J27 113) (J27 87) 0 0 16) = J42
    refine (ex_6_0 (ex_6_1 (ix_41i (v := (I 110 3)) (sh_110 hS) ((((congrFun (congrFun hJ42.symm _) _).trans (u1_qk (by omega)))).trans ((((congrFun (congrFun hJ27.symm _) _).trans (u1_qk (by omega)))).trans (((congrFun (congrFun hJ12.symm _) _).trans (u1_qk (by omega)))))) (ix_42i (sh_84 hS) (ex_6_0 (ex_6_1 (ix_41i (v := (I 110 4)) (sh_110 hS) ((u2_q (by decide)).trans ((((congrFun (congrFun hJ42.symm _) _).trans (u1_qk (by omega)))).trans ((((congrFun (congrFun hJ27.symm _) _).trans (u1_qk (by omega)))).trans (((congrFun (congrFun hJ12.symm _) _).trans (u1_qk (by omega))))))) (ix_42i (sh_84 hS) ?_))))))))
    exact ex_56 ⟨_, rfl, fun j hj => ((u2_q (by decide)).trans ((u2_q (by decide)).trans ((((congrFun (congrFun hJ42.symm _) _).trans (u1_qk (by omega)))).trans ((((congrFun (congrFun hJ27.symm _) _).trans (u1_qk (by omega)))).trans (((congrFun (congrFun hJ12.symm _) _).trans ((congrFun u1_e _).trans (cp_00 (by omega))))))))), fun j hj => ((u2_q (by decide)).trans ((u2_q (by decide)).trans ((((congrFun (congrFun hJ42.symm _) _).trans (u1_qk (by omega)))).trans ((((congrFun (congrFun hJ27.symm _) _).trans ((congrFun u1_e _).trans (cp_00 (by omega))))).trans (((congrFun (congrFun hJ12.symm _) _).trans (u1_qk (by omega)))))))), fun j hj => ((u2_q (by decide)).trans ((u2_q (by decide)).trans ((((congrFun (congrFun hJ42.symm _) _).trans ((congrFun u1_e _).trans (cp_00 (by omega))))).trans ((((congrFun (congrFun hJ27.symm _) _).trans (u1_qk (by omega)))).trans (((congrFun (congrFun hJ12.symm _) _).trans (u1_qk (by omega)))))))), ((u2_k (by decide)).trans u2_e), u2_e, fun zz k hz => ((u2_q (by omega)).trans ((u2_q (by omega)).trans ((((congrFun (congrFun hJ42.symm _) _).trans (u1_qk (by omega)))).trans ((((congrFun (congrFun hJ27.symm _) _).trans (u1_qk (by omega)))).trans (((congrFun (congrFun hJ12.symm _) _).trans (u1_qk (by omega))))))))⟩
  obtain ⟨o, e, I1, rfl, h⟩ := am_doQ (as := [(.inr (.inr (some 84))), (.inr (.inr (some 110)))]) (Nat.le_of_ble_eq_true rfl) rfl w
  exact ⟨I1, e, h⟩
theorem k_keep_n {d : Nat} {G : am_G} {I : Nat → Nat → Int} {P : Nat → Nat → Option Nat} (hS : ST G P) {nx u : Nat} (hnx : I 84 3 = (nx : Int)) (hn16 : nx < 16) (hu : I 84 4 = (u : Int)) (hu16 : u ≤ 16) {dv wv bv : Int} : am_call am_B am_M (d + 1) 41 [(.inr (.inr (some 84))), (.inl dv), (.inl wv), (.inl bv)] (G, I, P) = some (none, (G, (am_u2 (am_u2 (am_u2 (am_u2 (am_u2 I 85 nx dv) 86 nx wv) 87 nx bv) 84 3 (((nx + 1) % 16 : Nat) : Int)) 84 4 ((rem_n u : Nat) : Int)), P)) := by
  refine am_doL (L := [some (.inr (.inr (some 84))), some (.inl dv), some (.inl wv), some (.inl bv)]) (Nat.le_of_ble_eq_true rfl) rfl ?_
  refine (ex_6_0 (ix_41r (sh_84 hS) (pt_84_0 hS) (ex_6_0 (ix_41i (v := (nx : Int)) (sh_84 hS) hnx (ex_4_1 (ix_34 (j := nx) (sh_85 hS) (by omega) (by omega) (by omega) (ex_6_0 (ix_41r (sh_84 hS) (pt_84_1 hS) (ex_6_0 (ix_41i (v := (nx : Int)) (sh_84 hS) ((u2_q (by decide)).trans hnx) (ex_4_2 (ix_34 (j := nx) (sh_86 hS) (by omega) (by omega) (by omega) (ex_6_0 (ix_41r (sh_84 hS) (pt_84_2 hS) (ex_6_0 (ix_41i (v := (nx : Int)) (sh_84 hS) ((u2_q (by decide)).trans ((u2_q (by decide)).trans hnx)) (ex_4_3 (ix_34 (j := nx) (sh_87 hS) (by omega) (by omega) (by omega) (ex_6_0 (ex_6_0 (ix_41i (v := (nx : Int)) (sh_84 hS) ((u2_q (by decide)).trans ((u2_q (by decide)).trans ((u2_q (by decide)).trans hnx))) (ex_0 (ex_add ⟨by omega, by omega⟩ (ex_0 (ex_12 (v := (((nx + 1) % 16 : Nat) : Int)) (by decide) ((am_d4r (by omega) (by decide) (by omega) (by decide)).trans (by omega)) (ix_42i (sh_84 hS) (ex_6_0 (ex_0 (ex_6_0 (ix_41i (v := (u : Int)) (sh_84 hS) ((u2_k (by decide)).trans ((u2_q (by decide)).trans ((u2_q (by decide)).trans ((u2_q (by decide)).trans hu)))) (ex_0 (ex_add ⟨by omega, by omega⟩ (ex_min (v := ((rem_n u) : Int)) rfl (by unfold rem_n; (repeat' split) <;> omega) (ix_42i (sh_84 hS) ?_))))))))))))))))))))))))))))))))))
  exact ex_56 rfl
theorem k_keep_s {d : Nat} {G : am_G} {I : Nat → Nat → Int} {P : Nat → Nat → Option Nat} (hS : ST G P) {nx u : Nat} (hnx : I 157 3 = (nx : Int)) (hn16 : nx < 16) (hu : I 157 4 = (u : Int)) (hu16 : u ≤ 16) {dv wv bv : Int} : am_call am_B am_M (d + 1) 41 [(.inr (.inr (some 157))), (.inl dv), (.inl wv), (.inl bv)] (G, I, P) = some (none, (G, (am_u2 (am_u2 (am_u2 (am_u2 (am_u2 I 158 nx dv) 159 nx wv) 160 nx bv) 157 3 (((nx + 1) % 16 : Nat) : Int)) 157 4 ((rem_n u : Nat) : Int)), P)) := by
  refine am_doL (L := [some (.inr (.inr (some 157))), some (.inl dv), some (.inl wv), some (.inl bv)]) (Nat.le_of_ble_eq_true rfl) rfl ?_
  refine (ex_6_0 (ix_41r (sh_157 hS) (pt_157_0 hS) (ex_6_0 (ix_41i (v := (nx : Int)) (sh_157 hS) hnx (ex_4_1 (ix_34 (j := nx) (sh_158 hS) (by omega) (by omega) (by omega) (ex_6_0 (ix_41r (sh_157 hS) (pt_157_1 hS) (ex_6_0 (ix_41i (v := (nx : Int)) (sh_157 hS) ((u2_q (by decide)).trans hnx) (ex_4_2 (ix_34 (j := nx) (sh_159 hS) (by omega) (by omega) (by omega) (ex_6_0 (ix_41r (sh_157 hS) (pt_157_2 hS) (ex_6_0 (ix_41i (v := (nx : Int)) (sh_157 hS) ((u2_q (by decide)).trans ((u2_q (by decide)).trans hnx)) (ex_4_3 (ix_34 (j := nx) (sh_160 hS) (by omega) (by omega) (by omega) (ex_6_0 (ex_6_0 (ix_41i (v := (nx : Int)) (sh_157 hS) ((u2_q (by decide)).trans ((u2_q (by decide)).trans ((u2_q (by decide)).trans hnx))) (ex_0 (ex_add ⟨by omega, by omega⟩ (ex_0 (ex_12 (v := (((nx + 1) % 16 : Nat) : Int)) (by decide) ((am_d4r (by omega) (by decide) (by omega) (by decide)).trans (by omega)) (ix_42i (sh_157 hS) (ex_6_0 (ex_0 (ex_6_0 (ix_41i (v := (u : Int)) (sh_157 hS) ((u2_k (by decide)).trans ((u2_q (by decide)).trans ((u2_q (by decide)).trans ((u2_q (by decide)).trans hu)))) (ex_0 (ex_add ⟨by omega, by omega⟩ (ex_min (v := ((rem_n u) : Int)) rfl (by unfold rem_n; (repeat' split) <;> omega) (ix_42i (sh_157 hS) ?_))))))))))))))))))))))))))))))))))
  exact ex_56 rfl
/-- what a deed leaves in the log -/
def LGk (I J : Nat → Nat → Int) (lg nx u : Nat) (d w b : Int) : Prop := (∀ j, J (lg + 1) j = am_u1 (I (lg + 1)) nx d j) ∧ (∀ j, J (lg + 2) j = am_u1 (I (lg + 2)) nx w j) ∧ (∀ j, J (lg + 3) j = am_u1 (I (lg + 3)) nx b j) ∧ J lg 3 = (((nx + 1) % 16 : Nat) : Int) ∧ J lg 4 = ((rem_n u : Nat) : Int)
/-- all but a circuit, its log and where sums are worked out -/
def DFK (I J : Nat → Nat → Int) (c lg : Nat) : Prop := ∀ q k, ¬ (lg ≤ q ∧ q ≤ lg + 3) → ¬ q = 89 → ¬ q = 90 → ¬ (c ≤ q ∧ q ≤ c + 15) → J q k = I q k
theorem LGk_keep {I : Nat → Nat → Int} {lg nx u : Nat} {d w b : Int} : LGk I (am_u2 (am_u2 (am_u2 (am_u2 (am_u2 I (lg + 1) nx d) (lg + 2) nx w) (lg + 3) nx b) lg 3 (((nx + 1) % 16 : Nat) : Int)) lg 4 ((rem_n u : Nat) : Int)) lg nx u d w b := by
  refine ⟨fun j => ?_, fun j => ?_, fun j => ?_, ?_, u2_e⟩
  · rw [u2_q (by omega), u2_q (by omega), u2_q (by omega), u2_q (by omega), u2_at]; rfl
  · rw [u2_q (by omega), u2_q (by omega), u2_q (by omega), u2_at, u2_q (by omega)]; rfl
  · rw [u2_q (by omega), u2_q (by omega), u2_at, u2_q (by omega), u2_q (by omega)]; rfl
  · rw [u2_k (by decide), u2_e]
theorem keep_fr {I : Nat → Nat → Int} {lg nx u : Nat} {d w b : Int} {q k : Nat} (h : ¬ (lg ≤ q ∧ q ≤ lg + 3)) : (am_u2 (am_u2 (am_u2 (am_u2 (am_u2 I (lg + 1) nx d) (lg + 2) nx w) (lg + 3) nx b) lg 3 (((nx + 1) % 16 : Nat) : Int)) lg 4 ((rem_n u : Nat) : Int)) q k = I q k := by
  rw [u2_q (by omega), u2_q (by omega), u2_q (by omega), u2_q (by omega), u2_q (by omega)]
theorem LGk_fr {I I' J K : Nat → Nat → Int} {lg nx u : Nat} {d w b : Int} (h : LGk I' J lg nx u d w b) (h0 : ∀ q k, lg ≤ q → q ≤ lg + 3 → I' q k = I q k) (hf : ∀ q k, lg ≤ q → q ≤ lg + 3 → K q k = J q k) : LGk I K lg nx u d w b := by
  obtain ⟨a1, a2, a3, a4, a5⟩ := h
  have e : ∀ i, i = 1 ∨ i = 2 ∨ i = 3 → I' (lg + i) = I (lg + i) := fun i hi => funext fun k => h0 _ _ (by omega) (by omega)
  rw [e 1 (Or.inl rfl)] at a1
  rw [e 2 (Or.inr (Or.inl rfl))] at a2
  rw [e 3 (Or.inr (Or.inr rfl))] at a3
  exact ⟨fun j => (hf _ _ (by omega) (by omega)).trans (a1 j), fun j => (hf _ _ (by omega) (by omega)).trans (a2 j), fun j => (hf _ _ (by omega) (by omega)).trans (a3 j), (hf _ _ (by omega) (by omega)).trans a4, (hf _ _ (by omega) (by omega)).trans a5⟩
theorem cq139 : CQ 139 := Or.inr (Or.inr (Or.inr (Or.inl rfl)))
theorem k_engage_n_n {d : Nat} {G : am_G} {I : Nat → Nat → Int} {P : Nat → Nat → Option Nat} (hS : ST G P) {ρ : Nat → Int} {n : Nat} {cl : Nat → Cl} (hE : CE G I P 65 ρ n cl) {f : Int} (hb : ¬ (0 ≤ f ∧ f < ρ 1)) : am_call am_B am_M (d + 2) 23 [(.inr (.inr (some 91))), (.inl f)] (G, I, P) = some (some (.inl (-2)), (G, I, P)) := by
  refine am_doL (L := [some (.inr (.inr (some 91))), some (.inl f)]) (Nat.le_of_ble_eq_true rfl) rfl ?_
  refine (ex_6_0 (ix_41r (sh_91 hS) (pt_91_0 hS) (ex_4_1 ?_)))
  have hb5 : ¬ (((0 : Int) ≤ f ∧ f < ρ 1)) := by omega
  refine (ix_46 (S' := [(.inl 0)]) rfl (sh_65 hS) (k_hasFolk_f hS cq65 hE.1 hb5) rfl rfl (ex_if1 (fun hc => by exfalso; revert hc; decide) (fun _ => ?_)))
  refine (ex_0 ?_)
  exact ex_53 rfl
theorem k_engage_n {d : Nat} {G : am_G} {I : Nat → Nat → Int} {P : Nat → Nat → Option Nat} (hS : ST G P) {ρ : Nat → Int} {n : Nat} {cl : Nat → Cl} (hE : CE G I P 65 ρ n cl) {f : Nat} (hf1 : (f : Int) < ρ 1) {nx u : Nat} (hnx : I 84 3 = (nx : Int)) (hn16 : nx < 16) (hu : I 84 4 = (u : Int)) (hu16 : u ≤ 16) : ∃ I1, am_call am_B am_M (d + 2) 23 [(.inr (.inr (some 91))), (.inl (f : Int))] (G, I, P) = some (some (.inl (1 - ρ (15 + f))), (G, I1, P)) ∧ (CE G I1 P 65 ((am_u1 ρ (15 + f) (1 - ρ (15 + f)))) n cl ∧ LGk I I1 84 nx u 1 (f : Int) (ρ (15 + f)) ∧ DFK I I1 65 84) := by
  have h5 := RW_n1 hE.2.1
  have hf : f < 5 := by omega
  have hen := RW_en hE.2.1 f hf
  have w : am_ex (am_call am_B am_M (d + 1)) (am_B 23) (am_B 23 0) [some (.inr (.inr (some 91))), some (.inl (f : Int))] [] (G, I, P) (fun o => ∃ I1, o = (some (.inl (1 - ρ (15 + f))), (G, I1, P)) ∧ (CE G I1 P 65 ((am_u1 ρ (15 + f) (1 - ρ (15 + f)))) n cl ∧ LGk I I1 84 nx u 1 (f : Int) (ρ (15 + f)) ∧ DFK I I1 65 84)) := by
    refine (ex_6_0 (ix_41r (sh_91 hS) (pt_91_0 hS) (ex_4_1 ?_)))
    have hb5 : ((0 : Int) ≤ (f : Int) ∧ (f : Int) < ρ 1) := by omega
    refine (ix_46 (S' := [(.inl 1)]) rfl (sh_65 hS) (k_hasFolk_t hS cq65 hE.1 hb5) rfl rfl (ex_if1 (fun _ => ?_) (fun hc => by exfalso; revert hc; decide)))
    refine (ex_6_0 (ix_41r (sh_91 hS) (pt_91_1 hS) (ex_0 (ex_4_1 (ex_6_0 (ix_41r (sh_91 hS) (pt_91_0 hS) (ix_41r (sh_65 hS) (pt_65_7 hS) (ex_4_1 (ix_30 (j := f) (v := (ρ (15 + f))) (sh_75 hS) (by omega) (by omega) (by omega) (CC_en hE.1 f (by omega)) (ix_46 (S' := []) rfl (sh_84 hS) (k_keep_n hS hnx hn16 hu hu16) rfl rfl (ex_6_0 (ix_41r (sh_91 hS) (pt_91_0 hS) (ix_41r (sh_65 hS) (pt_65_7 hS) (ex_4_1 (ex_0 (ex_6_0 (ix_41r (sh_91 hS) (pt_91_0 hS) (ix_41r (sh_65 hS) (pt_65_7 hS) (ex_4_1 (ix_30 (j := f) (v := (ρ (15 + f))) (sh_75 hS) (by omega) (by omega) (by omega) (((keep_fr (lg := 84) (by omega))).trans (CC_en hE.1 f (by omega))) (ex_sub ⟨by omega, by omega⟩ (ix_34 (j := f) (sh_75 hS) (by omega) (by omega) (by omega) (ex_6_0 (ix_41r (sh_91 hS) (pt_91_0 hS) (ix_41r (sh_65 hS) (pt_65_7 hS) (ex_4_1 (ix_30 (j := f) (v := (1 - (ρ (15 + f)))) (sh_75 hS) (by omega) (by omega) (by omega) u2_e ?_)))))))))))))))))))))))))))
    exact ex_53 ⟨_, rfl, CE_set hE (CCs_en (CC_fr hE.1 (fun q k _ _ _ => keep_fr (lg := 84) (by omega))) hf) (RWs_en hE.2.1 hf (by omega)) (by unfold am_u1; rw [if_neg (by omega)]) (fun q k h => (u2_q (by omega)).trans (keep_fr (lg := 84) (by omega))), LGk_fr (LGk_keep (lg := 84)) (fun _ _ _ _ => rfl) (fun q k _ _ => u2_q (by omega)), fun q k h1 h2 h3 h4 => (u2_q (by omega)).trans (keep_fr (lg := 84) h1)⟩
  obtain ⟨o, e, I1, rfl, h⟩ := am_doQ (as := [(.inr (.inr (some 91))), (.inl (f : Int))]) (Nat.le_of_ble_eq_true rfl) rfl w
  exact ⟨I1, e, h⟩
theorem k_smash_n_n {d : Nat} {G : am_G} {I : Nat → Nat → Int} {P : Nat → Nat → Option Nat} {b : Int} (hb : ¬ (0 ≤ b ∧ b < 6)) : am_call am_B am_M (d + 3) 24 [(.inr (.inr (some 91))), (.inl b)] (G, I, P) = some (some (.inl (-1)), (G, I, P)) := by
  refine am_doL (L := [some (.inr (.inr (some 91))), some (.inl b)]) (Nat.le_of_ble_eq_true rfl) rfl ?_
  refine (ex_4_1 ?_)
  have hb1 : ¬ (((0 : Int) ≤ b ∧ (b : Int) < 6)) := by omega
  refine (ix_45 (S' := [(.inl 0)]) rfl (k_isBox_f hb1) rfl rfl (ex_if1 (fun hc => by exfalso; revert hc; decide) (fun _ => ?_)))
  refine (ex_0 ?_)
  exact ex_53 rfl
theorem k_smash_n {d : Nat} {G : am_G} {I : Nat → Nat → Int} {P : Nat → Nat → Option Nat} (hS : ST G P) {ρ : Nat → Int} {n : Nat} {cl : Nat → Cl} (hE : CE G I P 65 ρ n cl) {b : Nat} (hb : b < 6) {nx u : Nat} (hnx : I 84 3 = (nx : Int)) (hn16 : nx < 16) (hu : I 84 4 = (u : Int)) (hu16 : u ≤ 16) : ∃ I1, am_call am_B am_M (d + 3) 24 [(.inr (.inr (some 91))), (.inl (b : Int))] (G, I, P) = some (some (.inl ((((ρ 8).toNat ^^^ 2 ^ b) >>> b &&& 1 : Nat) : Int)), (G, I1, P)) ∧ (CE G I1 P 65 ((am_u1 ρ 8 (((ρ 8).toNat ^^^ 2 ^ b) : Nat))) n cl ∧ LGk I I1 84 nx u 2 (b : Int) (ρ 8) ∧ DFK I I1 65 84) := by
  have h8 := RW_sm hE.2.1
  have hx : ((ρ 8).toNat ^^^ 2 ^ b) < 64 := Nat.xor_lt_two_pow (n := 6) (by omega) (Nat.pow_lt_pow_right (by decide) hb)
  have hx2 : 2 ^ b < 64 := Nat.pow_lt_pow_right (m := b) (n := 6) (by decide) hb
  have w : am_ex (am_call am_B am_M (d + 2)) (am_B 24) (am_B 24 0) [some (.inr (.inr (some 91))), some (.inl (b : Int))] [] (G, I, P) (fun o => ∃ I1, o = (some (.inl ((((ρ 8).toNat ^^^ 2 ^ b) >>> b &&& 1 : Nat) : Int)), (G, I1, P)) ∧ (CE G I1 P 65 ((am_u1 ρ 8 (((ρ 8).toNat ^^^ 2 ^ b) : Nat))) n cl ∧ LGk I I1 84 nx u 2 (b : Int) (ρ 8) ∧ DFK I I1 65 84)) := by
    refine (ex_4_1 ?_)
    have hb1 : ((0 : Int) ≤ (b : Int) ∧ ((b : Int) : Int) < 6) := by omega
    refine (ix_45 (S' := [(.inl 1)]) rfl (k_isBox_t hb1) rfl rfl (ex_if1 (fun _ => ?_) (fun hc => by exfalso; revert hc; decide)))
    refine (ex_6_0 (ix_41r (sh_91 hS) (pt_91_1 hS) (ex_0 (ex_4_1 (ex_6_0 (ix_41r (sh_91 hS) (pt_91_0 hS) (ix_41r (sh_65 hS) (pt_65_0 hS) (ix_41i (v := ((ρ 8).toNat : Int)) (sh_66 hS) ((CC_sm hE.1).trans (Int.toNat_of_nonneg h8.1).symm) (ix_46 (S' := []) rfl (sh_84 hS) (k_keep_n hS hnx hn16 hu hu16) rfl rfl (ex_6_0 (ix_41r (sh_91 hS) (pt_91_0 hS) (ix_41r (sh_65 hS) (pt_65_0 hS) (ex_22 rfl (ix_41i (v := ((ρ 8).toNat : Int)) (sh_66 hS) (((keep_fr (lg := 84) (by omega))).trans ((CC_sm hE.1).trans (Int.toNat_of_nonneg h8.1).symm)) (ex_0 (ex_4_1 (ex_11e (am_shl1 (k := b) (by omega)) (ex_11e (am_xor (a := (ρ 8).toNat) (b := (2 ^ b)) (by omega) (Nat.pow_lt_pow_right (by decide) (by omega))) (ix_42i (sh_66 hS) (ex_6_0 (ix_41r (sh_91 hS) (pt_91_0 hS) (ix_41r (sh_65 hS) (pt_65_0 hS) (ix_41i (v := ((((ρ 8).toNat ^^^ (2 ^ b)) : Nat) : Int)) (sh_66 hS) u2_e (ex_4_1 (ex_11e (am_shr (a := ((ρ 8).toNat ^^^ (2 ^ b))) (k := b) (by omega) (Nat.xor_lt_two_pow (by omega) (Nat.pow_lt_pow_right (by decide) (by omega)))) (ex_0 (ex_11e (am_and (a := (((ρ 8).toNat ^^^ (2 ^ b)) >>> b)) (b := 1) (Nat.lt_of_le_of_lt (Nat.shiftRight_le _ _) (Nat.xor_lt_two_pow (by omega) (Nat.pow_lt_pow_right (by decide) (by omega)))) (by decide)) ?_)))))))))))))))))))))))))))
    exact ex_53 ⟨_, rfl, CE_set hE (CCs_sm (CC_fr hE.1 (fun q k _ _ _ => keep_fr (lg := 84) (by omega)))) (RWs_sm hE.2.1 ⟨by omega, by omega⟩) (by unfold am_u1; rw [if_neg (by omega)]) (fun q k h => (u2_q (by omega)).trans (keep_fr (lg := 84) (by omega))), LGk_fr (by rw [← Int.toNat_of_nonneg h8.1]; exact LGk_keep (lg := 84)) (fun _ _ _ _ => rfl) (fun q k _ _ => u2_q (by omega)), fun q k h1 h2 h3 h4 => (u2_q (by omega)).trans (keep_fr (lg := 84) h1)⟩
  obtain ⟨o, e, I1, rfl, h⟩ := am_doQ (as := [(.inr (.inr (some 91))), (.inl (b : Int))]) (Nat.le_of_ble_eq_true rfl) rfl w
  exact ⟨I1, e, h⟩
theorem k_ring_n_n {d : Nat} {G : am_G} {I : Nat → Nat → Int} {P : Nat → Nat → Option Nat} (hS : ST G P) {ρ : Nat → Int} {n : Nat} {cl : Nat → Cl} (hE : CE G I P 65 ρ n cl) {c1 f : Int} (hb : ¬ ((0 ≤ c1 ∧ c1 < ρ 0) ∧ (0 ≤ f ∧ f < ρ 1))) : am_call am_B am_M (d + 5) 22 [(.inr (.inr (some 91))), (.inl c1), (.inl f)] (G, I, P) = some (some (.inl (-2)), (G, I, P)) := by
  refine am_doL (L := [some (.inr (.inr (some 91))), some (.inl c1), some (.inl f), none, none, none]) (Nat.le_of_ble_eq_true rfl) rfl ?_
  refine (ex_6_0 (ix_41r (sh_91 hS) (pt_91_0 hS) (ex_4_1 ?_)))
  by_cases hb5 : ((0 : Int) ≤ c1 ∧ c1 < ρ 0)
  · refine (ix_46 (S' := [(.inl 1)]) rfl (sh_65 hS) (k_hasCloud_t hS cq65 hE.1 hb5) rfl rfl (ex_if0 (fun hc => by exfalso; revert hc; decide) (fun _ => ?_)))
    refine (ex_6_0 (ix_41r (sh_91 hS) (pt_91_0 hS) (ex_4_2 ?_)))
    have hb16 : ¬ (((0 : Int) ≤ f ∧ f < ρ 1)) := by omega
    refine (ix_46 (S' := [(.inl 0)]) rfl (sh_65 hS) (k_hasFolk_f hS cq65 hE.1 hb16) rfl rfl (ex_if1 (fun hc => by exfalso; revert hc; decide) (fun _ => ?_)))
    refine (ex_0 ?_)
    exact ex_53 rfl
  · refine (ix_46 (S' := [(.inl 0)]) rfl (sh_65 hS) (k_hasCloud_f hS cq65 hE.1 hb5) rfl rfl (ex_if0 (fun _ => ?_) (fun hc => by exfalso; revert hc; decide)))
    refine (ex_0 ?_)
    exact ex_53 rfl
theorem k_ring_n_c {d : Nat} {G : am_G} {I : Nat → Nat → Int} {P : Nat → Nat → Option Nat} (hS : ST G P) {ρ : Nat → Int} {n : Nat} {cl : Nat → Cl} (hE : CE G I P 65 ρ n cl) {c1 f : Nat} (hc1 : (c1 : Int) < ρ 0) (hf1 : (f : Int) < ρ 1) (hBN : BarN n cl) (hcan : ¬ m_can ρ n cl c1 f) : ∃ I1, am_call am_B am_M (d + 5) 22 [(.inr (.inr (some 91))), (.inl (c1 : Int)), (.inl (f : Int))] (G, I, P) = some (some (.inl (-3)), (G, I1, P)) ∧ (LF I I1) := by
  have h5 := RW_n1 hE.2.1
  have h06 := RW_n0 hE.2.1
  have hc : c1 < 6 := by omega
  have hf : f < 5 := by omega
  have w : am_ex (am_call am_B am_M (d + 4)) (am_B 22) (am_B 22 0) [some (.inr (.inr (some 91))), some (.inl (c1 : Int)), some (.inl (f : Int)), none, none, none] [] (G, I, P) (fun o => ∃ I1, o = (some (.inl (-3)), (G, I1, P)) ∧ (LF I I1)) := by
    refine (ex_6_0 (ix_41r (sh_91 hS) (pt_91_0 hS) (ex_4_1 ?_)))
    have hb5 : ((0 : Int) ≤ (c1 : Int) ∧ (c1 : Int) < ρ 0) := by omega
    refine (ix_46 (S' := [(.inl 1)]) rfl (sh_65 hS) (k_hasCloud_t hS cq65 hE.1 hb5) rfl rfl (ex_if0 (fun hc => by exfalso; revert hc; decide) (fun _ => ?_)))
    refine (ex_6_0 (ix_41r (sh_91 hS) (pt_91_0 hS) (ex_4_2 ?_)))
    have hb16 : ((0 : Int) ≤ (f : Int) ∧ (f : Int) < ρ 1) := by omega
    refine (ix_46 (S' := [(.inl 1)]) rfl (sh_65 hS) (k_hasFolk_t hS cq65 hE.1 hb16) rfl rfl (ex_if1 (fun _ => ?_) (fun hc => by exfalso; revert hc; decide)))
    refine (ex_6_0 (ix_41r (sh_91 hS) (pt_91_2 hS) (ex_6_0 (ix_41r (sh_91 hS) (pt_91_0 hS) (ex_4_1 (ex_4_2 ?_))))))
    obtain ⟨K, eK, fK⟩ := k_can_f (d := d) hS cq65 hE hc hf1 hBN hcan
    have hEK := CE_LF cq65 hE fK
    refine (ix_46 (S' := [(.inl 0)]) rfl (sh_88 hS) eK rfl rfl (ex_if1 (fun hc => by exfalso; revert hc; decide) (fun _ => ?_)))
    refine (ex_0 ?_)
    exact ex_53 ⟨K, rfl, fK⟩
  obtain ⟨o, e, I1, rfl, h⟩ := am_doQ (as := [(.inr (.inr (some 91))), (.inl (c1 : Int)), (.inl (f : Int))]) (Nat.le_of_ble_eq_true rfl) rfl w
  exact ⟨I1, e, h⟩
theorem k_ring_n_0 {d : Nat} {G : am_G} {I : Nat → Nat → Int} {P : Nat → Nat → Option Nat} (hS : ST G P) {ρ : Nat → Int} {n : Nat} {cl : Nat → Cl} (hE : CE G I P 65 ρ n cl) {c1 f : Nat} (hc1 : (c1 : Int) < ρ 0) (hf1 : (f : Int) < ρ 1) (hBN : BarN n cl) (hcan : m_can ρ n cl c1 f) (he : ρ (15 + f) = 0) {nx u : Nat} (hnx : I 84 3 = (nx : Int)) (hn16 : nx < 16) (hu : I 84 4 = (u : Int)) (hu16 : u ≤ 16) : ∃ I1, am_call am_B am_M (d + 5) 22 [(.inr (.inr (some 91))), (.inl (c1 : Int)), (.inl (f : Int))] (G, I, P) = some (some (.inl (m_told ρ n cl c1 f)), (G, I1, P)) ∧ (CE G I1 P 65 (am_u1 ρ (25 + f) (m_within (ρ (25 + f) + (m_told ρ n cl c1 f)) 0 999)) n cl ∧ LGk I I1 84 nx u 0 (f : Int) (ρ (25 + f)) ∧ DFK I I1 65 84) := by
  have h5 := RW_n1 hE.2.1
  have h06 := RW_n0 hE.2.1
  have hc : c1 < 6 := by omega
  have hf : f < 5 := by omega
  have hh := RW_kn hE.2.1 f hf
  have hvb := m_told_b (ρ := ρ) (n := n) (cl := cl) (c := c1) (f := f)
  have w : am_ex (am_call am_B am_M (d + 4)) (am_B 22) (am_B 22 0) [some (.inr (.inr (some 91))), some (.inl (c1 : Int)), some (.inl (f : Int)), none, none, none] [] (G, I, P) (fun o => ∃ I1, o = (some (.inl (m_told ρ n cl c1 f)), (G, I1, P)) ∧ (CE G I1 P 65 (am_u1 ρ (25 + f) (m_within (ρ (25 + f) + (m_told ρ n cl c1 f)) 0 999)) n cl ∧ LGk I I1 84 nx u 0 (f : Int) (ρ (25 + f)) ∧ DFK I I1 65 84)) := by
    refine (ex_6_0 (ix_41r (sh_91 hS) (pt_91_0 hS) (ex_4_1 ?_)))
    have hb5 : ((0 : Int) ≤ (c1 : Int) ∧ (c1 : Int) < ρ 0) := by omega
    refine (ix_46 (S' := [(.inl 1)]) rfl (sh_65 hS) (k_hasCloud_t hS cq65 hE.1 hb5) rfl rfl (ex_if0 (fun hc => by exfalso; revert hc; decide) (fun _ => ?_)))
    refine (ex_6_0 (ix_41r (sh_91 hS) (pt_91_0 hS) (ex_4_2 ?_)))
    have hb16 : ((0 : Int) ≤ (f : Int) ∧ (f : Int) < ρ 1) := by omega
    refine (ix_46 (S' := [(.inl 1)]) rfl (sh_65 hS) (k_hasFolk_t hS cq65 hE.1 hb16) rfl rfl (ex_if1 (fun _ => ?_) (fun hc => by exfalso; revert hc; decide)))
    refine (ex_6_0 (ix_41r (sh_91 hS) (pt_91_2 hS) (ex_6_0 (ix_41r (sh_91 hS) (pt_91_0 hS) (ex_4_1 (ex_4_2 ?_))))))
    obtain ⟨K, eK, fK⟩ := k_can_t (d := d) hS cq65 hE hc hf1 hBN hcan
    have hEK := CE_LF cq65 hE fK
    refine (ix_46 (S' := [(.inl 1)]) rfl (sh_88 hS) eK rfl rfl (ex_if1 (fun _ => ?_) (fun hc => by exfalso; revert hc; decide)))
    refine (ex_6_0 (ix_41r (sh_91 hS) (pt_91_0 hS) (ix_41r (sh_65 hS) (pt_65_7 hS) (ex_4_2 (ix_30 (j := f) (v := 0) (sh_75 hS) (by omega) (by omega) (by omega) ((CC_en hEK.1 f hf).trans he) (ex_if0 (fun _ => ?_) (fun hc => by exfalso; revert hc; decide)))))))
    refine (ex_0 (ex_58 (ex_7_3 rfl (ex_4_3 (ex_if0 (fun _ => ?_) (fun hc => by exfalso; revert hc; decide))))))
    refine (ex_6_0 (ix_41r (sh_91 hS) (pt_91_2 hS) (ex_6_0 (ix_41r (sh_91 hS) (pt_91_0 hS) (ex_4_1 (ex_4_2 ?_))))))
    obtain ⟨J, eJ, fJ⟩ := k_told (d := d) hS cq65 hEK hc hf1
    have hEJ := CE_LF cq65 hEK fJ
    have hnx2 : J 84 3 = (nx : Int) := (fJ _ _ (by decide) (by decide)).trans ((fK _ _ (by decide) (by decide)).trans hnx)
    have hu2 : J 84 4 = (u : Int) := (fJ _ _ (by decide) (by decide)).trans ((fK _ _ (by decide) (by decide)).trans hu)
    refine (ix_46 (S' := [(.inl (m_told ρ n cl c1 f))]) rfl (sh_88 hS) eJ rfl rfl (ex_58 (ex_7_4 rfl (ex_4_3 (ex_if0 (fun _ => ?_) (fun hc => by exfalso; revert hc; decide))))))
    refine (ex_6_0 (ix_41r (sh_91 hS) (pt_91_0 hS) (ix_41r (sh_65 hS) (pt_65_9 hS) (ex_58 (ex_9_5 rfl (ex_6_0 (ix_41r (sh_91 hS) (pt_91_1 hS) (ex_0 (ex_4_3 (ex_if0 (fun _ => ?_) (fun hc => by exfalso; revert hc; decide)))))))))))
    refine (ex_4_2 (ex_58 (ex_6_5 (ex_4_2 (ix_30 (j := f) (v := (ρ (25 + f))) (sh_77 hS) (by omega) (by omega) (by omega) (((fJ _ _ (by omega) (by omega))).trans (((fK _ _ (by omega) (by omega))).trans (CC_kn hE.1 f (by omega)))) (ix_46 (S' := []) rfl (sh_84 hS) (k_keep_n hS hnx2 hn16 hu2 hu16) rfl rfl (ex_6_5 (ex_4_2 (ex_0 (ex_6_5 (ex_4_2 (ix_30 (j := f) (v := (ρ (25 + f))) (sh_77 hS) (by omega) (by omega) (by omega) (((keep_fr (lg := 84) (by omega))).trans (((fJ _ _ (by omega) (by omega))).trans (((fK _ _ (by omega) (by omega))).trans (CC_kn hE.1 f (by omega))))) (ex_4_4 (ex_add ⟨by omega, by omega⟩ (ex_min (v := (m_within (ρ (25 + f) + (m_told ρ n cl c1 f)) 0 999)) rfl (by unfold m_within; (repeat' split) <;> omega) (ix_34 (j := f) (sh_77 hS) (by omega) (by omega) (by omega) (ex_4_4 ?_)))))))))))))))))
    exact ex_53 ⟨_, rfl, CE_set hEJ (CCs_kn (CC_fr hEJ.1 (fun q k _ _ _ => keep_fr (lg := 84) (by omega))) hf) (RWs_kn hE.2.1 hf (m_within_b (by decide))) (by unfold am_u1; rw [if_neg (by omega)]) (fun q k h => (u2_q (by omega)).trans (keep_fr (lg := 84) (by omega))), LGk_fr (LGk_keep (lg := 84)) (fun q k _ _ => (fJ q k (by omega) (by omega)).trans (fK q k (by omega) (by omega))) (fun q k _ _ => u2_q (by omega)), fun q k h1 h2 h3 h4 => (u2_q (by omega)).trans ((keep_fr (lg := 84) h1).trans ((fJ q k h2 h3).trans (fK q k h2 h3)))⟩
  obtain ⟨o, e, I1, rfl, h⟩ := am_doQ (as := [(.inr (.inr (some 91))), (.inl (c1 : Int)), (.inl (f : Int))]) (Nat.le_of_ble_eq_true rfl) rfl w
  exact ⟨I1, e, h⟩
theorem k_ring_n_1 {d : Nat} {G : am_G} {I : Nat → Nat → Int} {P : Nat → Nat → Option Nat} (hS : ST G P) {ρ : Nat → Int} {n : Nat} {cl : Nat → Cl} (hE : CE G I P 65 ρ n cl) {c1 f : Nat} (hc1 : (c1 : Int) < ρ 0) (hf1 : (f : Int) < ρ 1) (hBN : BarN n cl) (hcan : m_can ρ n cl c1 f) (he : ρ (15 + f) = 1) {nx u : Nat} (hnx : I 84 3 = (nx : Int)) (hn16 : nx < 16) (hu : I 84 4 = (u : Int)) (hu16 : u ≤ 16) : ∃ I1, am_call am_B am_M (d + 5) 22 [(.inr (.inr (some 91))), (.inl (c1 : Int)), (.inl (f : Int))] (G, I, P) = some (some (.inl (m_soak ρ n cl c1 f)), (G, I1, P)) ∧ (CE G I1 P 65 (am_u1 ρ (20 + f) (m_within (ρ (20 + f) + (m_soak ρ n cl c1 f)) 0 999)) n cl ∧ LGk I I1 84 nx u 0 ((f : Int) + 5) (ρ (20 + f)) ∧ DFK I I1 65 84) := by
  have h5 := RW_n1 hE.2.1
  have h06 := RW_n0 hE.2.1
  have hc : c1 < 6 := by omega
  have hf : f < 5 := by omega
  have hh := RW_we hE.2.1 f hf
  have hvb := m_soak_b (ρ := ρ) (n := n) (cl := cl) (c := c1) (f := f)
  have w : am_ex (am_call am_B am_M (d + 4)) (am_B 22) (am_B 22 0) [some (.inr (.inr (some 91))), some (.inl (c1 : Int)), some (.inl (f : Int)), none, none, none] [] (G, I, P) (fun o => ∃ I1, o = (some (.inl (m_soak ρ n cl c1 f)), (G, I1, P)) ∧ (CE G I1 P 65 (am_u1 ρ (20 + f) (m_within (ρ (20 + f) + (m_soak ρ n cl c1 f)) 0 999)) n cl ∧ LGk I I1 84 nx u 0 ((f : Int) + 5) (ρ (20 + f)) ∧ DFK I I1 65 84)) := by
    refine (ex_6_0 (ix_41r (sh_91 hS) (pt_91_0 hS) (ex_4_1 ?_)))
    have hb5 : ((0 : Int) ≤ (c1 : Int) ∧ (c1 : Int) < ρ 0) := by omega
    refine (ix_46 (S' := [(.inl 1)]) rfl (sh_65 hS) (k_hasCloud_t hS cq65 hE.1 hb5) rfl rfl (ex_if0 (fun hc => by exfalso; revert hc; decide) (fun _ => ?_)))
    refine (ex_6_0 (ix_41r (sh_91 hS) (pt_91_0 hS) (ex_4_2 ?_)))
    have hb16 : ((0 : Int) ≤ (f : Int) ∧ (f : Int) < ρ 1) := by omega
    refine (ix_46 (S' := [(.inl 1)]) rfl (sh_65 hS) (k_hasFolk_t hS cq65 hE.1 hb16) rfl rfl (ex_if1 (fun _ => ?_) (fun hc => by exfalso; revert hc; decide)))
    refine (ex_6_0 (ix_41r (sh_91 hS) (pt_91_2 hS) (ex_6_0 (ix_41r (sh_91 hS) (pt_91_0 hS) (ex_4_1 (ex_4_2 ?_))))))
    obtain ⟨K, eK, fK⟩ := k_can_t (d := d) hS cq65 hE hc hf1 hBN hcan
    have hEK := CE_LF cq65 hE fK
    refine (ix_46 (S' := [(.inl 1)]) rfl (sh_88 hS) eK rfl rfl (ex_if1 (fun _ => ?_) (fun hc => by exfalso; revert hc; decide)))
    refine (ex_6_0 (ix_41r (sh_91 hS) (pt_91_0 hS) (ix_41r (sh_65 hS) (pt_65_7 hS) (ex_4_2 (ix_30 (j := f) (v := 1) (sh_75 hS) (by omega) (by omega) (by omega) ((CC_en hEK.1 f hf).trans he) (ex_if0 (fun hc => by exfalso; revert hc; decide) (fun _ => ?_)))))))
    refine (ex_0 (ex_28 (ex_7_3 rfl (ex_4_3 (ex_if0 (fun hc => by exfalso; revert hc; decide) (fun _ => ?_))))))
    refine (ex_6_0 (ix_41r (sh_91 hS) (pt_91_2 hS) (ex_6_0 (ix_41r (sh_91 hS) (pt_91_0 hS) (ex_4_1 (ex_4_2 ?_))))))
    obtain ⟨J, eJ, fJ⟩ := k_soak (d := d) hS cq65 hEK hc hf1
    have hEJ := CE_LF cq65 hEK fJ
    have hnx2 : J 84 3 = (nx : Int) := (fJ _ _ (by decide) (by decide)).trans ((fK _ _ (by decide) (by decide)).trans hnx)
    have hu2 : J 84 4 = (u : Int) := (fJ _ _ (by decide) (by decide)).trans ((fK _ _ (by decide) (by decide)).trans hu)
    refine (ix_46 (S' := [(.inl (m_soak ρ n cl c1 f))]) rfl (sh_88 hS) eJ rfl rfl (ex_28 (ex_7_4 rfl (ex_4_3 (ex_if0 (fun hc => by exfalso; revert hc; decide) (fun _ => ?_))))))
    refine (ex_6_0 (ix_41r (sh_91 hS) (pt_91_0 hS) (ix_41r (sh_65 hS) (pt_65_8 hS) (ex_28 (ex_9_5 rfl (ex_6_0 (ix_41r (sh_91 hS) (pt_91_1 hS) (ex_0 (ex_4_3 (ex_if0 (fun hc => by exfalso; revert hc; decide) (fun _ => ?_)))))))))))
    refine (ex_4_2 (ex_0 (ex_add ⟨by omega, by omega⟩ (ex_28 (ex_6_5 (ex_4_2 (ix_30 (j := f) (v := (ρ (20 + f))) (sh_76 hS) (by omega) (by omega) (by omega) (((fJ _ _ (by omega) (by omega))).trans (((fK _ _ (by omega) (by omega))).trans (CC_we hE.1 f (by omega)))) (ix_46 (S' := []) rfl (sh_84 hS) (k_keep_n hS hnx2 hn16 hu2 hu16) rfl rfl (ex_6_5 (ex_4_2 (ex_0 (ex_6_5 (ex_4_2 (ix_30 (j := f) (v := (ρ (20 + f))) (sh_76 hS) (by omega) (by omega) (by omega) (((keep_fr (lg := 84) (by omega))).trans (((fJ _ _ (by omega) (by omega))).trans (((fK _ _ (by omega) (by omega))).trans (CC_we hE.1 f (by omega))))) (ex_4_4 (ex_add ⟨by omega, by omega⟩ (ex_min (v := (m_within (ρ (20 + f) + (m_soak ρ n cl c1 f)) 0 999)) rfl (by unfold m_within; (repeat' split) <;> omega) (ix_34 (j := f) (sh_76 hS) (by omega) (by omega) (by omega) (ex_4_4 ?_)))))))))))))))))))
    exact ex_53 ⟨_, rfl, CE_set hEJ (CCs_we (CC_fr hEJ.1 (fun q k _ _ _ => keep_fr (lg := 84) (by omega))) hf) (RWs_we hE.2.1 hf (m_within_b (by decide))) (by unfold am_u1; rw [if_neg (by omega)]) (fun q k h => (u2_q (by omega)).trans (keep_fr (lg := 84) (by omega))), LGk_fr (LGk_keep (lg := 84)) (fun q k _ _ => (fJ q k (by omega) (by omega)).trans (fK q k (by omega) (by omega))) (fun q k _ _ => u2_q (by omega)), fun q k h1 h2 h3 h4 => (u2_q (by omega)).trans ((keep_fr (lg := 84) h1).trans ((fJ q k h2 h3).trans (fK q k h2 h3)))⟩
  obtain ⟨o, e, I1, rfl, h⟩ := am_doQ (as := [(.inr (.inr (some 91))), (.inl (c1 : Int)), (.inl (f : Int))]) (Nat.le_of_ble_eq_true rfl) rfl w
  exact ⟨I1, e, h⟩
theorem k_engage_s_n {d : Nat} {G : am_G} {I : Nat → Nat → Int} {P : Nat → Nat → Option Nat} (hS : ST G P) {ρ : Nat → Int} {n : Nat} {cl : Nat → Cl} (hE : CE G I P 139 ρ n cl) {f : Int} (hb : ¬ (0 ≤ f ∧ f < ρ 1)) : am_call am_B am_M (d + 2) 23 [(.inr (.inr (some 156))), (.inl f)] (G, I, P) = some (some (.inl (-2)), (G, I, P)) := by
  refine am_doL (L := [some (.inr (.inr (some 156))), some (.inl f)]) (Nat.le_of_ble_eq_true rfl) rfl ?_
  refine (ex_6_0 (ix_41r (sh_156 hS) (pt_156_0 hS) (ex_4_1 ?_)))
  have hb5 : ¬ (((0 : Int) ≤ f ∧ f < ρ 1)) := by omega
  refine (ix_46 (S' := [(.inl 0)]) rfl (sh_139 hS) (k_hasFolk_f hS cq139 hE.1 hb5) rfl rfl (ex_if1 (fun hc => by exfalso; revert hc; decide) (fun _ => ?_)))
  refine (ex_0 ?_)
  exact ex_53 rfl
theorem k_engage_s {d : Nat} {G : am_G} {I : Nat → Nat → Int} {P : Nat → Nat → Option Nat} (hS : ST G P) {ρ : Nat → Int} {n : Nat} {cl : Nat → Cl} (hE : CE G I P 139 ρ n cl) {f : Nat} (hf1 : (f : Int) < ρ 1) {nx u : Nat} (hnx : I 157 3 = (nx : Int)) (hn16 : nx < 16) (hu : I 157 4 = (u : Int)) (hu16 : u ≤ 16) : ∃ I1, am_call am_B am_M (d + 2) 23 [(.inr (.inr (some 156))), (.inl (f : Int))] (G, I, P) = some (some (.inl (1 - ρ (15 + f))), (G, I1, P)) ∧ (CE G I1 P 139 ((am_u1 ρ (15 + f) (1 - ρ (15 + f)))) n cl ∧ LGk I I1 157 nx u 1 (f : Int) (ρ (15 + f)) ∧ DFK I I1 139 157) := by
  have h5 := RW_n1 hE.2.1
  have hf : f < 5 := by omega
  have hen := RW_en hE.2.1 f hf
  have w : am_ex (am_call am_B am_M (d + 1)) (am_B 23) (am_B 23 0) [some (.inr (.inr (some 156))), some (.inl (f : Int))] [] (G, I, P) (fun o => ∃ I1, o = (some (.inl (1 - ρ (15 + f))), (G, I1, P)) ∧ (CE G I1 P 139 ((am_u1 ρ (15 + f) (1 - ρ (15 + f)))) n cl ∧ LGk I I1 157 nx u 1 (f : Int) (ρ (15 + f)) ∧ DFK I I1 139 157)) := by
    refine (ex_6_0 (ix_41r (sh_156 hS) (pt_156_0 hS) (ex_4_1 ?_)))
    have hb5 : ((0 : Int) ≤ (f : Int) ∧ (f : Int) < ρ 1) := by omega
    refine (ix_46 (S' := [(.inl 1)]) rfl (sh_139 hS) (k_hasFolk_t hS cq139 hE.1 hb5) rfl rfl (ex_if1 (fun _ => ?_) (fun hc => by exfalso; revert hc; decide)))
    refine (ex_6_0 (ix_41r (sh_156 hS) (pt_156_1 hS) (ex_0 (ex_4_1 (ex_6_0 (ix_41r (sh_156 hS) (pt_156_0 hS) (ix_41r (sh_139 hS) (pt_139_7 hS) (ex_4_1 (ix_30 (j := f) (v := (ρ (15 + f))) (sh_149 hS) (by omega) (by omega) (by omega) (CC_en hE.1 f (by omega)) (ix_46 (S' := []) rfl (sh_157 hS) (k_keep_s hS hnx hn16 hu hu16) rfl rfl (ex_6_0 (ix_41r (sh_156 hS) (pt_156_0 hS) (ix_41r (sh_139 hS) (pt_139_7 hS) (ex_4_1 (ex_0 (ex_6_0 (ix_41r (sh_156 hS) (pt_156_0 hS) (ix_41r (sh_139 hS) (pt_139_7 hS) (ex_4_1 (ix_30 (j := f) (v := (ρ (15 + f))) (sh_149 hS) (by omega) (by omega) (by omega) (((keep_fr (lg := 157) (by omega))).trans (CC_en hE.1 f (by omega))) (ex_sub ⟨by omega, by omega⟩ (ix_34 (j := f) (sh_149 hS) (by omega) (by omega) (by omega) (ex_6_0 (ix_41r (sh_156 hS) (pt_156_0 hS) (ix_41r (sh_139 hS) (pt_139_7 hS) (ex_4_1 (ix_30 (j := f) (v := (1 - (ρ (15 + f)))) (sh_149 hS) (by omega) (by omega) (by omega) u2_e ?_)))))))))))))))))))))))))))
    exact ex_53 ⟨_, rfl, CE_set hE (CCs_en (CC_fr hE.1 (fun q k _ _ _ => keep_fr (lg := 157) (by omega))) hf) (RWs_en hE.2.1 hf (by omega)) (by unfold am_u1; rw [if_neg (by omega)]) (fun q k h => (u2_q (by omega)).trans (keep_fr (lg := 157) (by omega))), LGk_fr (LGk_keep (lg := 157)) (fun _ _ _ _ => rfl) (fun q k _ _ => u2_q (by omega)), fun q k h1 h2 h3 h4 => (u2_q (by omega)).trans (keep_fr (lg := 157) h1)⟩
  obtain ⟨o, e, I1, rfl, h⟩ := am_doQ (as := [(.inr (.inr (some 156))), (.inl (f : Int))]) (Nat.le_of_ble_eq_true rfl) rfl w
  exact ⟨I1, e, h⟩
theorem k_smash_s_n {d : Nat} {G : am_G} {I : Nat → Nat → Int} {P : Nat → Nat → Option Nat} {b : Int} (hb : ¬ (0 ≤ b ∧ b < 6)) : am_call am_B am_M (d + 3) 24 [(.inr (.inr (some 156))), (.inl b)] (G, I, P) = some (some (.inl (-1)), (G, I, P)) := by
  refine am_doL (L := [some (.inr (.inr (some 156))), some (.inl b)]) (Nat.le_of_ble_eq_true rfl) rfl ?_
  refine (ex_4_1 ?_)
  have hb1 : ¬ (((0 : Int) ≤ b ∧ (b : Int) < 6)) := by omega
  refine (ix_45 (S' := [(.inl 0)]) rfl (k_isBox_f hb1) rfl rfl (ex_if1 (fun hc => by exfalso; revert hc; decide) (fun _ => ?_)))
  refine (ex_0 ?_)
  exact ex_53 rfl
theorem k_smash_s {d : Nat} {G : am_G} {I : Nat → Nat → Int} {P : Nat → Nat → Option Nat} (hS : ST G P) {ρ : Nat → Int} {n : Nat} {cl : Nat → Cl} (hE : CE G I P 139 ρ n cl) {b : Nat} (hb : b < 6) {nx u : Nat} (hnx : I 157 3 = (nx : Int)) (hn16 : nx < 16) (hu : I 157 4 = (u : Int)) (hu16 : u ≤ 16) : ∃ I1, am_call am_B am_M (d + 3) 24 [(.inr (.inr (some 156))), (.inl (b : Int))] (G, I, P) = some (some (.inl ((((ρ 8).toNat ^^^ 2 ^ b) >>> b &&& 1 : Nat) : Int)), (G, I1, P)) ∧ (CE G I1 P 139 ((am_u1 ρ 8 (((ρ 8).toNat ^^^ 2 ^ b) : Nat))) n cl ∧ LGk I I1 157 nx u 2 (b : Int) (ρ 8) ∧ DFK I I1 139 157) := by
  have h8 := RW_sm hE.2.1
  have hx : ((ρ 8).toNat ^^^ 2 ^ b) < 64 := Nat.xor_lt_two_pow (n := 6) (by omega) (Nat.pow_lt_pow_right (by decide) hb)
  have hx2 : 2 ^ b < 64 := Nat.pow_lt_pow_right (m := b) (n := 6) (by decide) hb
  have w : am_ex (am_call am_B am_M (d + 2)) (am_B 24) (am_B 24 0) [some (.inr (.inr (some 156))), some (.inl (b : Int))] [] (G, I, P) (fun o => ∃ I1, o = (some (.inl ((((ρ 8).toNat ^^^ 2 ^ b) >>> b &&& 1 : Nat) : Int)), (G, I1, P)) ∧ (CE G I1 P 139 ((am_u1 ρ 8 (((ρ 8).toNat ^^^ 2 ^ b) : Nat))) n cl ∧ LGk I I1 157 nx u 2 (b : Int) (ρ 8) ∧ DFK I I1 139 157)) := by
    refine (ex_4_1 ?_)
    have hb1 : ((0 : Int) ≤ (b : Int) ∧ ((b : Int) : Int) < 6) := by omega
    refine (ix_45 (S' := [(.inl 1)]) rfl (k_isBox_t hb1) rfl rfl (ex_if1 (fun _ => ?_) (fun hc => by exfalso; revert hc; decide)))
    refine (ex_6_0 (ix_41r (sh_156 hS) (pt_156_1 hS) (ex_0 (ex_4_1 (ex_6_0 (ix_41r (sh_156 hS) (pt_156_0 hS) (ix_41r (sh_139 hS) (pt_139_0 hS) (ix_41i (v := ((ρ 8).toNat : Int)) (sh_140 hS) ((CC_sm hE.1).trans (Int.toNat_of_nonneg h8.1).symm) (ix_46 (S' := []) rfl (sh_157 hS) (k_keep_s hS hnx hn16 hu hu16) rfl rfl (ex_6_0 (ix_41r (sh_156 hS) (pt_156_0 hS) (ix_41r (sh_139 hS) (pt_139_0 hS) (ex_22 rfl (ix_41i (v := ((ρ 8).toNat : Int)) (sh_140 hS) (((keep_fr (lg := 157) (by omega))).trans ((CC_sm hE.1).trans (Int.toNat_of_nonneg h8.1).symm)) (ex_0 (ex_4_1 (ex_11e (am_shl1 (k := b) (by omega)) (ex_11e (am_xor (a := (ρ 8).toNat) (b := (2 ^ b)) (by omega) (Nat.pow_lt_pow_right (by decide) (by omega))) (ix_42i (sh_140 hS) (ex_6_0 (ix_41r (sh_156 hS) (pt_156_0 hS) (ix_41r (sh_139 hS) (pt_139_0 hS) (ix_41i (v := ((((ρ 8).toNat ^^^ (2 ^ b)) : Nat) : Int)) (sh_140 hS) u2_e (ex_4_1 (ex_11e (am_shr (a := ((ρ 8).toNat ^^^ (2 ^ b))) (k := b) (by omega) (Nat.xor_lt_two_pow (by omega) (Nat.pow_lt_pow_right (by decide) (by omega)))) (ex_0 (ex_11e (am_and (a := (((ρ 8).toNat ^^^ (2 ^ b)) >>> b)) (b := 1) (Nat.lt_of_le_of_lt (Nat.shiftRight_le _ _) (Nat.xor_lt_two_pow (by omega) (Nat.pow_lt_pow_right (by decide) (by omega)))) (by decide)) ?_)))))))))))))))))))))))))))
    exact ex_53 ⟨_, rfl, CE_set hE (CCs_sm (CC_fr hE.1 (fun q k _ _ _ => keep_fr (lg := 157) (by omega)))) (RWs_sm hE.2.1 ⟨by omega, by omega⟩) (by unfold am_u1; rw [if_neg (by omega)]) (fun q k h => (u2_q (by omega)).trans (keep_fr (lg := 157) (by omega))), LGk_fr (by rw [← Int.toNat_of_nonneg h8.1]; exact LGk_keep (lg := 157)) (fun _ _ _ _ => rfl) (fun q k _ _ => u2_q (by omega)), fun q k h1 h2 h3 h4 => (u2_q (by omega)).trans (keep_fr (lg := 157) h1)⟩
  obtain ⟨o, e, I1, rfl, h⟩ := am_doQ (as := [(.inr (.inr (some 156))), (.inl (b : Int))]) (Nat.le_of_ble_eq_true rfl) rfl w
  exact ⟨I1, e, h⟩
theorem k_ring_s_n {d : Nat} {G : am_G} {I : Nat → Nat → Int} {P : Nat → Nat → Option Nat} (hS : ST G P) {ρ : Nat → Int} {n : Nat} {cl : Nat → Cl} (hE : CE G I P 139 ρ n cl) {c1 f : Int} (hb : ¬ ((0 ≤ c1 ∧ c1 < ρ 0) ∧ (0 ≤ f ∧ f < ρ 1))) : am_call am_B am_M (d + 5) 22 [(.inr (.inr (some 156))), (.inl c1), (.inl f)] (G, I, P) = some (some (.inl (-2)), (G, I, P)) := by
  refine am_doL (L := [some (.inr (.inr (some 156))), some (.inl c1), some (.inl f), none, none, none]) (Nat.le_of_ble_eq_true rfl) rfl ?_
  refine (ex_6_0 (ix_41r (sh_156 hS) (pt_156_0 hS) (ex_4_1 ?_)))
  by_cases hb5 : ((0 : Int) ≤ c1 ∧ c1 < ρ 0)
  · refine (ix_46 (S' := [(.inl 1)]) rfl (sh_139 hS) (k_hasCloud_t hS cq139 hE.1 hb5) rfl rfl (ex_if0 (fun hc => by exfalso; revert hc; decide) (fun _ => ?_)))
    refine (ex_6_0 (ix_41r (sh_156 hS) (pt_156_0 hS) (ex_4_2 ?_)))
    have hb16 : ¬ (((0 : Int) ≤ f ∧ f < ρ 1)) := by omega
    refine (ix_46 (S' := [(.inl 0)]) rfl (sh_139 hS) (k_hasFolk_f hS cq139 hE.1 hb16) rfl rfl (ex_if1 (fun hc => by exfalso; revert hc; decide) (fun _ => ?_)))
    refine (ex_0 ?_)
    exact ex_53 rfl
  · refine (ix_46 (S' := [(.inl 0)]) rfl (sh_139 hS) (k_hasCloud_f hS cq139 hE.1 hb5) rfl rfl (ex_if0 (fun _ => ?_) (fun hc => by exfalso; revert hc; decide)))
    refine (ex_0 ?_)
    exact ex_53 rfl
theorem k_ring_s_c {d : Nat} {G : am_G} {I : Nat → Nat → Int} {P : Nat → Nat → Option Nat} (hS : ST G P) {ρ : Nat → Int} {n : Nat} {cl : Nat → Cl} (hE : CE G I P 139 ρ n cl) {c1 f : Nat} (hc1 : (c1 : Int) < ρ 0) (hf1 : (f : Int) < ρ 1) (hBN : BarN n cl) (hcan : ¬ m_can ρ n cl c1 f) : ∃ I1, am_call am_B am_M (d + 5) 22 [(.inr (.inr (some 156))), (.inl (c1 : Int)), (.inl (f : Int))] (G, I, P) = some (some (.inl (-3)), (G, I1, P)) ∧ (LF I I1) := by
  have h5 := RW_n1 hE.2.1
  have h06 := RW_n0 hE.2.1
  have hc : c1 < 6 := by omega
  have hf : f < 5 := by omega
  have w : am_ex (am_call am_B am_M (d + 4)) (am_B 22) (am_B 22 0) [some (.inr (.inr (some 156))), some (.inl (c1 : Int)), some (.inl (f : Int)), none, none, none] [] (G, I, P) (fun o => ∃ I1, o = (some (.inl (-3)), (G, I1, P)) ∧ (LF I I1)) := by
    refine (ex_6_0 (ix_41r (sh_156 hS) (pt_156_0 hS) (ex_4_1 ?_)))
    have hb5 : ((0 : Int) ≤ (c1 : Int) ∧ (c1 : Int) < ρ 0) := by omega
    refine (ix_46 (S' := [(.inl 1)]) rfl (sh_139 hS) (k_hasCloud_t hS cq139 hE.1 hb5) rfl rfl (ex_if0 (fun hc => by exfalso; revert hc; decide) (fun _ => ?_)))
    refine (ex_6_0 (ix_41r (sh_156 hS) (pt_156_0 hS) (ex_4_2 ?_)))
    have hb16 : ((0 : Int) ≤ (f : Int) ∧ (f : Int) < ρ 1) := by omega
    refine (ix_46 (S' := [(.inl 1)]) rfl (sh_139 hS) (k_hasFolk_t hS cq139 hE.1 hb16) rfl rfl (ex_if1 (fun _ => ?_) (fun hc => by exfalso; revert hc; decide)))
    refine (ex_6_0 (ix_41r (sh_156 hS) (pt_156_2 hS) (ex_6_0 (ix_41r (sh_156 hS) (pt_156_0 hS) (ex_4_1 (ex_4_2 ?_))))))
    obtain ⟨K, eK, fK⟩ := k_can_f (d := d) hS cq139 hE hc hf1 hBN hcan
    have hEK := CE_LF cq139 hE fK
    refine (ix_46 (S' := [(.inl 0)]) rfl (sh_88 hS) eK rfl rfl (ex_if1 (fun hc => by exfalso; revert hc; decide) (fun _ => ?_)))
    refine (ex_0 ?_)
    exact ex_53 ⟨K, rfl, fK⟩
  obtain ⟨o, e, I1, rfl, h⟩ := am_doQ (as := [(.inr (.inr (some 156))), (.inl (c1 : Int)), (.inl (f : Int))]) (Nat.le_of_ble_eq_true rfl) rfl w
  exact ⟨I1, e, h⟩
theorem k_ring_s_0 {d : Nat} {G : am_G} {I : Nat → Nat → Int} {P : Nat → Nat → Option Nat} (hS : ST G P) {ρ : Nat → Int} {n : Nat} {cl : Nat → Cl} (hE : CE G I P 139 ρ n cl) {c1 f : Nat} (hc1 : (c1 : Int) < ρ 0) (hf1 : (f : Int) < ρ 1) (hBN : BarN n cl) (hcan : m_can ρ n cl c1 f) (he : ρ (15 + f) = 0) {nx u : Nat} (hnx : I 157 3 = (nx : Int)) (hn16 : nx < 16) (hu : I 157 4 = (u : Int)) (hu16 : u ≤ 16) : ∃ I1, am_call am_B am_M (d + 5) 22 [(.inr (.inr (some 156))), (.inl (c1 : Int)), (.inl (f : Int))] (G, I, P) = some (some (.inl (m_told ρ n cl c1 f)), (G, I1, P)) ∧ (CE G I1 P 139 (am_u1 ρ (25 + f) (m_within (ρ (25 + f) + (m_told ρ n cl c1 f)) 0 999)) n cl ∧ LGk I I1 157 nx u 0 (f : Int) (ρ (25 + f)) ∧ DFK I I1 139 157) := by
  have h5 := RW_n1 hE.2.1
  have h06 := RW_n0 hE.2.1
  have hc : c1 < 6 := by omega
  have hf : f < 5 := by omega
  have hh := RW_kn hE.2.1 f hf
  have hvb := m_told_b (ρ := ρ) (n := n) (cl := cl) (c := c1) (f := f)
  have w : am_ex (am_call am_B am_M (d + 4)) (am_B 22) (am_B 22 0) [some (.inr (.inr (some 156))), some (.inl (c1 : Int)), some (.inl (f : Int)), none, none, none] [] (G, I, P) (fun o => ∃ I1, o = (some (.inl (m_told ρ n cl c1 f)), (G, I1, P)) ∧ (CE G I1 P 139 (am_u1 ρ (25 + f) (m_within (ρ (25 + f) + (m_told ρ n cl c1 f)) 0 999)) n cl ∧ LGk I I1 157 nx u 0 (f : Int) (ρ (25 + f)) ∧ DFK I I1 139 157)) := by
    refine (ex_6_0 (ix_41r (sh_156 hS) (pt_156_0 hS) (ex_4_1 ?_)))
    have hb5 : ((0 : Int) ≤ (c1 : Int) ∧ (c1 : Int) < ρ 0) := by omega
    refine (ix_46 (S' := [(.inl 1)]) rfl (sh_139 hS) (k_hasCloud_t hS cq139 hE.1 hb5) rfl rfl (ex_if0 (fun hc => by exfalso; revert hc; decide) (fun _ => ?_)))
    refine (ex_6_0 (ix_41r (sh_156 hS) (pt_156_0 hS) (ex_4_2 ?_)))
    have hb16 : ((0 : Int) ≤ (f : Int) ∧ (f : Int) < ρ 1) := by omega
    refine (ix_46 (S' := [(.inl 1)]) rfl (sh_139 hS) (k_hasFolk_t hS cq139 hE.1 hb16) rfl rfl (ex_if1 (fun _ => ?_) (fun hc => by exfalso; revert hc; decide)))
    refine (ex_6_0 (ix_41r (sh_156 hS) (pt_156_2 hS) (ex_6_0 (ix_41r (sh_156 hS) (pt_156_0 hS) (ex_4_1 (ex_4_2 ?_))))))
    obtain ⟨K, eK, fK⟩ := k_can_t (d := d) hS cq139 hE hc hf1 hBN hcan
    have hEK := CE_LF cq139 hE fK
    refine (ix_46 (S' := [(.inl 1)]) rfl (sh_88 hS) eK rfl rfl (ex_if1 (fun _ => ?_) (fun hc => by exfalso; revert hc; decide)))
    refine (ex_6_0 (ix_41r (sh_156 hS) (pt_156_0 hS) (ix_41r (sh_139 hS) (pt_139_7 hS) (ex_4_2 (ix_30 (j := f) (v := 0) (sh_149 hS) (by omega) (by omega) (by omega) ((CC_en hEK.1 f hf).trans he) (ex_if0 (fun _ => ?_) (fun hc => by exfalso; revert hc; decide)))))))
    refine (ex_0 (ex_58 (ex_7_3 rfl (ex_4_3 (ex_if0 (fun _ => ?_) (fun hc => by exfalso; revert hc; decide))))))
    refine (ex_6_0 (ix_41r (sh_156 hS) (pt_156_2 hS) (ex_6_0 (ix_41r (sh_156 hS) (pt_156_0 hS) (ex_4_1 (ex_4_2 ?_))))))
    obtain ⟨J, eJ, fJ⟩ := k_told (d := d) hS cq139 hEK hc hf1
    have hEJ := CE_LF cq139 hEK fJ
    have hnx2 : J 157 3 = (nx : Int) := (fJ _ _ (by decide) (by decide)).trans ((fK _ _ (by decide) (by decide)).trans hnx)
    have hu2 : J 157 4 = (u : Int) := (fJ _ _ (by decide) (by decide)).trans ((fK _ _ (by decide) (by decide)).trans hu)
    refine (ix_46 (S' := [(.inl (m_told ρ n cl c1 f))]) rfl (sh_88 hS) eJ rfl rfl (ex_58 (ex_7_4 rfl (ex_4_3 (ex_if0 (fun _ => ?_) (fun hc => by exfalso; revert hc; decide))))))
    refine (ex_6_0 (ix_41r (sh_156 hS) (pt_156_0 hS) (ix_41r (sh_139 hS) (pt_139_9 hS) (ex_58 (ex_9_5 rfl (ex_6_0 (ix_41r (sh_156 hS) (pt_156_1 hS) (ex_0 (ex_4_3 (ex_if0 (fun _ => ?_) (fun hc => by exfalso; revert hc; decide)))))))))))
    refine (ex_4_2 (ex_58 (ex_6_5 (ex_4_2 (ix_30 (j := f) (v := (ρ (25 + f))) (sh_151 hS) (by omega) (by omega) (by omega) (((fJ _ _ (by omega) (by omega))).trans (((fK _ _ (by omega) (by omega))).trans (CC_kn hE.1 f (by omega)))) (ix_46 (S' := []) rfl (sh_157 hS) (k_keep_s hS hnx2 hn16 hu2 hu16) rfl rfl (ex_6_5 (ex_4_2 (ex_0 (ex_6_5 (ex_4_2 (ix_30 (j := f) (v := (ρ (25 + f))) (sh_151 hS) (by omega) (by omega) (by omega) (((keep_fr (lg := 157) (by omega))).trans (((fJ _ _ (by omega) (by omega))).trans (((fK _ _ (by omega) (by omega))).trans (CC_kn hE.1 f (by omega))))) (ex_4_4 (ex_add ⟨by omega, by omega⟩ (ex_min (v := (m_within (ρ (25 + f) + (m_told ρ n cl c1 f)) 0 999)) rfl (by unfold m_within; (repeat' split) <;> omega) (ix_34 (j := f) (sh_151 hS) (by omega) (by omega) (by omega) (ex_4_4 ?_)))))))))))))))))
    exact ex_53 ⟨_, rfl, CE_set hEJ (CCs_kn (CC_fr hEJ.1 (fun q k _ _ _ => keep_fr (lg := 157) (by omega))) hf) (RWs_kn hE.2.1 hf (m_within_b (by decide))) (by unfold am_u1; rw [if_neg (by omega)]) (fun q k h => (u2_q (by omega)).trans (keep_fr (lg := 157) (by omega))), LGk_fr (LGk_keep (lg := 157)) (fun q k _ _ => (fJ q k (by omega) (by omega)).trans (fK q k (by omega) (by omega))) (fun q k _ _ => u2_q (by omega)), fun q k h1 h2 h3 h4 => (u2_q (by omega)).trans ((keep_fr (lg := 157) h1).trans ((fJ q k h2 h3).trans (fK q k h2 h3)))⟩
  obtain ⟨o, e, I1, rfl, h⟩ := am_doQ (as := [(.inr (.inr (some 156))), (.inl (c1 : Int)), (.inl (f : Int))]) (Nat.le_of_ble_eq_true rfl) rfl w
  exact ⟨I1, e, h⟩
theorem k_ring_s_1 {d : Nat} {G : am_G} {I : Nat → Nat → Int} {P : Nat → Nat → Option Nat} (hS : ST G P) {ρ : Nat → Int} {n : Nat} {cl : Nat → Cl} (hE : CE G I P 139 ρ n cl) {c1 f : Nat} (hc1 : (c1 : Int) < ρ 0) (hf1 : (f : Int) < ρ 1) (hBN : BarN n cl) (hcan : m_can ρ n cl c1 f) (he : ρ (15 + f) = 1) {nx u : Nat} (hnx : I 157 3 = (nx : Int)) (hn16 : nx < 16) (hu : I 157 4 = (u : Int)) (hu16 : u ≤ 16) : ∃ I1, am_call am_B am_M (d + 5) 22 [(.inr (.inr (some 156))), (.inl (c1 : Int)), (.inl (f : Int))] (G, I, P) = some (some (.inl (m_soak ρ n cl c1 f)), (G, I1, P)) ∧ (CE G I1 P 139 (am_u1 ρ (20 + f) (m_within (ρ (20 + f) + (m_soak ρ n cl c1 f)) 0 999)) n cl ∧ LGk I I1 157 nx u 0 ((f : Int) + 5) (ρ (20 + f)) ∧ DFK I I1 139 157) := by
  have h5 := RW_n1 hE.2.1
  have h06 := RW_n0 hE.2.1
  have hc : c1 < 6 := by omega
  have hf : f < 5 := by omega
  have hh := RW_we hE.2.1 f hf
  have hvb := m_soak_b (ρ := ρ) (n := n) (cl := cl) (c := c1) (f := f)
  have w : am_ex (am_call am_B am_M (d + 4)) (am_B 22) (am_B 22 0) [some (.inr (.inr (some 156))), some (.inl (c1 : Int)), some (.inl (f : Int)), none, none, none] [] (G, I, P) (fun o => ∃ I1, o = (some (.inl (m_soak ρ n cl c1 f)), (G, I1, P)) ∧ (CE G I1 P 139 (am_u1 ρ (20 + f) (m_within (ρ (20 + f) + (m_soak ρ n cl c1 f)) 0 999)) n cl ∧ LGk I I1 157 nx u 0 ((f : Int) + 5) (ρ (20 + f)) ∧ DFK I I1 139 157)) := by
    refine (ex_6_0 (ix_41r (sh_156 hS) (pt_156_0 hS) (ex_4_1 ?_)))
    have hb5 : ((0 : Int) ≤ (c1 : Int) ∧ (c1 : Int) < ρ 0) := by omega
    refine (ix_46 (S' := [(.inl 1)]) rfl (sh_139 hS) (k_hasCloud_t hS cq139 hE.1 hb5) rfl rfl (ex_if0 (fun hc => by exfalso; revert hc; decide) (fun _ => ?_)))
    refine (ex_6_0 (ix_41r (sh_156 hS) (pt_156_0 hS) (ex_4_2 ?_)))
    have hb16 : ((0 : Int) ≤ (f : Int) ∧ (f : Int) < ρ 1) := by omega
    refine (ix_46 (S' := [(.inl 1)]) rfl (sh_139 hS) (k_hasFolk_t hS cq139 hE.1 hb16) rfl rfl (ex_if1 (fun _ => ?_) (fun hc => by exfalso; revert hc; decide)))
    refine (ex_6_0 (ix_41r (sh_156 hS) (pt_156_2 hS) (ex_6_0 (ix_41r (sh_156 hS) (pt_156_0 hS) (ex_4_1 (ex_4_2 ?_))))))
    obtain ⟨K, eK, fK⟩ := k_can_t (d := d) hS cq139 hE hc hf1 hBN hcan
    have hEK := CE_LF cq139 hE fK
    refine (ix_46 (S' := [(.inl 1)]) rfl (sh_88 hS) eK rfl rfl (ex_if1 (fun _ => ?_) (fun hc => by exfalso; revert hc; decide)))
    refine (ex_6_0 (ix_41r (sh_156 hS) (pt_156_0 hS) (ix_41r (sh_139 hS) (pt_139_7 hS) (ex_4_2 (ix_30 (j := f) (v := 1) (sh_149 hS) (by omega) (by omega) (by omega) ((CC_en hEK.1 f hf).trans he) (ex_if0 (fun hc => by exfalso; revert hc; decide) (fun _ => ?_)))))))
    refine (ex_0 (ex_28 (ex_7_3 rfl (ex_4_3 (ex_if0 (fun hc => by exfalso; revert hc; decide) (fun _ => ?_))))))
    refine (ex_6_0 (ix_41r (sh_156 hS) (pt_156_2 hS) (ex_6_0 (ix_41r (sh_156 hS) (pt_156_0 hS) (ex_4_1 (ex_4_2 ?_))))))
    obtain ⟨J, eJ, fJ⟩ := k_soak (d := d) hS cq139 hEK hc hf1
    have hEJ := CE_LF cq139 hEK fJ
    have hnx2 : J 157 3 = (nx : Int) := (fJ _ _ (by decide) (by decide)).trans ((fK _ _ (by decide) (by decide)).trans hnx)
    have hu2 : J 157 4 = (u : Int) := (fJ _ _ (by decide) (by decide)).trans ((fK _ _ (by decide) (by decide)).trans hu)
    refine (ix_46 (S' := [(.inl (m_soak ρ n cl c1 f))]) rfl (sh_88 hS) eJ rfl rfl (ex_28 (ex_7_4 rfl (ex_4_3 (ex_if0 (fun hc => by exfalso; revert hc; decide) (fun _ => ?_))))))
    refine (ex_6_0 (ix_41r (sh_156 hS) (pt_156_0 hS) (ix_41r (sh_139 hS) (pt_139_8 hS) (ex_28 (ex_9_5 rfl (ex_6_0 (ix_41r (sh_156 hS) (pt_156_1 hS) (ex_0 (ex_4_3 (ex_if0 (fun hc => by exfalso; revert hc; decide) (fun _ => ?_)))))))))))
    refine (ex_4_2 (ex_0 (ex_add ⟨by omega, by omega⟩ (ex_28 (ex_6_5 (ex_4_2 (ix_30 (j := f) (v := (ρ (20 + f))) (sh_150 hS) (by omega) (by omega) (by omega) (((fJ _ _ (by omega) (by omega))).trans (((fK _ _ (by omega) (by omega))).trans (CC_we hE.1 f (by omega)))) (ix_46 (S' := []) rfl (sh_157 hS) (k_keep_s hS hnx2 hn16 hu2 hu16) rfl rfl (ex_6_5 (ex_4_2 (ex_0 (ex_6_5 (ex_4_2 (ix_30 (j := f) (v := (ρ (20 + f))) (sh_150 hS) (by omega) (by omega) (by omega) (((keep_fr (lg := 157) (by omega))).trans (((fJ _ _ (by omega) (by omega))).trans (((fK _ _ (by omega) (by omega))).trans (CC_we hE.1 f (by omega))))) (ex_4_4 (ex_add ⟨by omega, by omega⟩ (ex_min (v := (m_within (ρ (20 + f) + (m_soak ρ n cl c1 f)) 0 999)) rfl (by unfold m_within; (repeat' split) <;> omega) (ix_34 (j := f) (sh_150 hS) (by omega) (by omega) (by omega) (ex_4_4 ?_)))))))))))))))))))
    exact ex_53 ⟨_, rfl, CE_set hEJ (CCs_we (CC_fr hEJ.1 (fun q k _ _ _ => keep_fr (lg := 157) (by omega))) hf) (RWs_we hE.2.1 hf (m_within_b (by decide))) (by unfold am_u1; rw [if_neg (by omega)]) (fun q k h => (u2_q (by omega)).trans (keep_fr (lg := 157) (by omega))), LGk_fr (LGk_keep (lg := 157)) (fun q k _ _ => (fJ q k (by omega) (by omega)).trans (fK q k (by omega) (by omega))) (fun q k _ _ => u2_q (by omega)), fun q k h1 h2 h3 h4 => (u2_q (by omega)).trans ((keep_fr (lg := 157) h1).trans ((fJ q k h2 h3).trans (fK q k h2 h3)))⟩
  obtain ⟨o, e, I1, rfl, h⟩ := am_doQ (as := [(.inr (.inr (some 156))), (.inl (c1 : Int)), (.inl (f : Int))]) (Nat.le_of_ble_eq_true rfl) rfl w
  exact ⟨I1, e, h⟩
