/-! ===== the reference on paper: nights that would pass ===== -/
def m_pN (ρ : Nat → Int) (n : Nat) (cl : Nat → Cl) (k : Nat) : Nat → Int := am_it (fun _ ρ => m_pass ρ n cl) k 0 ρ
theorem m_pN_succ (ρ : Nat → Int) (n : Nat) (cl : Nat → Cl) (k : Nat) : m_pN ρ n cl (k + 1) = m_pass (m_pN ρ n cl k) n cl := am_it_succ (fun _ ρ => m_pass ρ n cl) k 0 ρ
theorem m_pass_out {ρ : Nat → Int} {n : Nat} {cl : Nat → Cl} (h : RW ρ) {j : Nat} (hj : ¬ (j = 5 ∨ (9 ≤ j ∧ j < 15))) : m_pass ρ n cl j = ρ j := by
  have h0 := RW_n0 h
  unfold m_pass am_u1
  rw [if_neg (by omega), cp_out (by omega)]
theorem m_pass_5 {ρ : Nat → Int} {n : Nat} {cl : Nat → Cl} : m_pass ρ n cl 5 = ρ 5 + 1 := by
  unfold m_pass am_u1; rw [if_pos rfl]
theorem m_pass_at {ρ : Nat → Int} {n : Nat} {cl : Nat → Cl} {c : Nat} : m_pass ρ n cl (9 + c) = if (c : Int) < ρ 0 then m_goes ρ n cl c else ρ (9 + c) := by
  unfold m_pass am_u1
  rw [if_neg (by omega)]
  by_cases h : (c : Int) < ρ 0
  · rw [if_pos h, cp_in (by omega), show 0 + (9 + c - 9) = c by omega]
  · rw [if_neg h, cp_out (by omega)]
theorem RW_pass {ρ : Nat → Int} {n : Nat} {cl : Nat → Cl} (h : RW ρ) (h5 : ρ 5 ≤ 1099) : RW (m_pass ρ n cl) := by
  have e : ∀ j, ¬ (j = 5 ∨ (9 ≤ j ∧ j < 15)) → m_pass ρ n cl j = ρ j := fun j hj => m_pass_out h hj
  have q := RW_ni h
  unfold RW
  refine ⟨?_, ?_, ?_, ?_, ?_, ?_, ?_, ?_, ?_, ?_, ?_, ?_, ?_, ?_, ?_, ?_, ?_, ?_, ?_, ?_, ?_, ?_⟩
  · rw [e 0 (by omega)]; exact RW_n0 h
  · rw [e 1 (by omega)]; exact RW_n1 h
  · rw [e 2 (by omega)]; exact RW_n2 h
  · rw [e 3 (by omega)]; exact RW_n3 h
  · rw [e 4 (by omega), e 3 (by omega)]; exact RW_fo h
  · rw [m_pass_5]; omega
  · rw [e 6 (by omega)]; exact RW_fa h
  · rw [e 7 (by omega)]; exact RW_mo h
  · rw [e 8 (by omega)]; exact RW_sm h
  · intro c hc
    rw [m_pass_at]
    split
    · exact m_goes_b h hc
    · exact RW_at h c hc
  · intro f hf; rw [e _ (by omega)]; exact RW_en h f hf
  · intro f hf; rw [e _ (by omega)]; exact RW_we h f hf
  · intro f hf; rw [e _ (by omega)]; exact RW_kn h f hf
  · intro f hf; rw [e _ (by omega)]; exact RW_ki h f hf
  · intro f hf; rw [e _ (by omega)]; exact RW_ra h f hf
  · intro f hf; rw [e _ (by omega)]; exact RW_by h f hf
  · intro f hf; rw [e _ (by omega)]; exact RW_ea h f hf
  · intro f hf; rw [e _ (by omega)]; exact RW_ro h f hf
  · intro b o hb ho; rw [e _ (by omega), e _ (by omega)]; exact RW_rs h b o hb ho
  · intro b hb; rw [e _ (by omega)]; exact RW_rd h b hb
  · intro k hk; rw [e _ (by omega), e _ (by omega)]; exact RW_he h k hk
  · intro k hk; rw [e 2 (by omega)] at hk; have := RW_n2 h; rw [e _ (by omega), e 1 (by omega)]; exact RW_hf h k hk
theorem RowLaw_congr {ρ ρ' : Nat → Int} {lw n : Nat} {cl : Nat → Cl} (e : ∀ j, lw ≤ j → j < lw + 900 → ρ' j = ρ j) (h : RowLaw ρ lw n cl) : RowLaw ρ' lw n cl := by
  obtain ⟨h1, h2, h3⟩ := h
  refine ⟨by rw [e _ (by omega) (by omega)]; exact h1, h2, fun j hj => ?_⟩
  obtain ⟨g1, g2, a1, b1, a2, b2, g3, g4, g5, g6, g7, g8, g9, g10, g11, g12⟩ := h3 j hj
  have ec : ∀ k, k < 400 → opL ρ' lw k = opL ρ lw k ∧ argL ρ' lw k = argL ρ lw k := fun k hk => ⟨e _ (by omega) (by omega), e _ (by omega) (by omega)⟩
  refine ⟨by rw [e _ (by omega) (by omega)]; exact g1, g2, a1, b1, a2, b2, by rw [e _ (by omega) (by omega)]; exact g3, by rw [e _ (by omega) (by omega)]; exact g4, by rw [e _ (by omega) (by omega)]; exact g5, by rw [e _ (by omega) (by omega)]; exact g6, g7, g8, g9, fun s hs w hw => mseg_congr ec (g10 s hs w hw), g11, fun t ht => ⟨(g12 t ht).1, fun w hw => ⟨((g12 t ht).2 w hw).1, mseg_congr ec ((g12 t ht).2 w hw).2⟩⟩⟩
theorem LawNow_congr {ρ ρ' : Nat → Int} {n : Nat} {cl : Nat → Cl} (e4 : ρ' 4 = ρ 4) (e : ∀ j, 100 ≤ j → ρ' j = ρ j) (h : LawNow ρ n cl) : LawNow ρ' n cl := by
  rcases h with ⟨h1, h2⟩ | ⟨i4, h1, h2, h3⟩
  · exact Or.inl ⟨e4.trans h1, h2⟩
  · exact Or.inr ⟨i4, h1, e4.trans h2, RowLaw_congr (fun j h1 h2 => e j (by omega)) h3⟩
theorem LawNow_pass {ρ : Nat → Int} {n : Nat} {cl : Nat → Cl} (hR : RW ρ) (h : LawNow ρ n cl) : LawNow (m_pass ρ n cl) n cl := LawNow_congr (m_pass_out hR (by omega)) (fun j hj => m_pass_out hR (by omega)) h
/-- what nights on paper keep -/
theorem pN_ok {ρ : Nat → Int} {n : Nat} {cl : Nat → Cl} (hR : RW ρ) (hL : LawNow ρ n cl) (h5 : ρ 5 ≤ 999) : ∀ k, k ≤ 100 → RW (m_pN ρ n cl k) ∧ LawNow (m_pN ρ n cl k) n cl ∧ m_pN ρ n cl k 5 = ρ 5 + (k : Int) ∧ (∀ j, ¬ (j = 5 ∨ (9 ≤ j ∧ j < 15)) → m_pN ρ n cl k j = ρ j)
  | 0, _ => ⟨hR, hL, by show ρ 5 = ρ 5 + ((0 : Nat) : Int); omega, fun _ _ => rfl⟩
  | k + 1, hk => by
    obtain ⟨h1, h2, h3, h4⟩ := pN_ok hR hL h5 k (by omega)
    rw [m_pN_succ]
    refine ⟨RW_pass h1 (by omega), LawNow_pass h1 h2, by rw [m_pass_5, h3]; omega, fun j hj => by rw [m_pass_out h1 hj]; exact h4 j hj⟩
/-- all but the row, the slot for paper and the places where sums are worked out -/
def QF (I J : Nat → Nat → Int) : Prop := ∀ q k, ¬ q = 228 → ¬ q = 226 → ¬ q = 210 → ¬ q = 229 → ¬ (q = 208 ∧ (k = 34 ∨ k = 38 ∨ k = 39 ∨ k = 40)) → J q k = I q k
theorem QF_refl {I : Nat → Nat → Int} : QF I I := fun _ _ _ _ _ _ _ => rfl
theorem QF_trans {I J K : Nat → Nat → Int} (h : QF I J) (h2 : QF J K) : QF I K := fun q k a b c d e => (h2 q k a b c d e).trans (h q k a b c d e)
theorem QF_TF {I J : Nat → Nat → Int} (h : TF I J) : QF I J := fun q k a b _ _ e => h q k a b e
/-- on paper: where the row stands, the rest as it was, law and order -/
def PS (K J : Nat → Nat → Int) (ρ' : Nat → Int) (n : Nat) (cl : Nat → Cl) : Prop := ME J ρ' n cl ∧ QF K J
def PAP (I J : Nat → Nat → Int) (ρ : Nat → Int) : Prop := J 210 = ρ ∧ (∀ j, j < 400 → J 213 j = I 213 j) ∧ (∀ q k, ¬ q = 228 → ¬ q = 226 → ¬ q = 210 → ¬ q = 213 → ¬ q = 229 → ¬ q = 230 → ¬ (q = 208 ∧ (k = 0 ∨ k = 34 ∨ k = 38 ∨ k = 39 ∨ k = 40)) → J q k = I q k)
theorem pap_end {I B J : Nat → Nat → Int} {ρ ρ' : Nat → Int} (hB : ∀ q k, ¬ q = 230 → ¬ (q = 208 ∧ k = 0) → B q k = I q k) (hρ : I 210 = ρ) (hJ : J 210 = ρ') (hq : QF (am_u1 B 213 (am_cp (B 210) (B 213) 5 (25 * 16) 25)) J) (ho : ∀ j, ¬ (5 ≤ j ∧ j < 30) → ρ' j = ρ j) : PAP I (am_u1 J 210 (am_cp (J 213) (J 210) (25 * 16) 5 25)) ρ := by
  have h213 : ∀ j, J 213 j = am_cp (I 210) (I 213) 5 400 25 j := by
    intro j
    rw [hq 213 j (by decide) (by decide) (by decide) (by decide) (by omega), u1_e, show B 210 = I 210 from funext fun k => hB 210 k (by decide) (by omega), show B 213 = I 213 from funext fun k => hB 213 k (by decide) (by omega)]
  refine ⟨?_, fun j hj => ?_, fun q k h1 h2 h3 h4 h5 h7 h6 => ?_⟩
  · rw [u1_e]
    funext j
    by_cases h : 5 ≤ j ∧ j < 5 + 25
    · rw [cp_in h, h213, cp_in (by omega), hρ]
      exact congrArg ρ (by omega)
    · rw [cp_out h, hJ]; exact ho j (by omega)
  · rw [u1_q (by decide), h213, cp_out (by omega)]
  · rw [u1_q h3, hq q k h1 h2 h3 h5 (by omega), u1_q h4]
    exact hB q k h7 (by omega)
theorem th_B {I : Nat → Nat → Int} : ∀ q k, ¬ q = 230 → ¬ (q = 208 ∧ k = 0) → am_u2 I 208 0 0 q k = I q k := by
  intro q k _ h
  by_cases hq : q = 208
  · subst hq; exact u2_k (by omega)
  · exact u2_q hq
theorem m_where_b {d : Nat} {G : am_G} {I : Nat → Nat → Int} {P : Nat → Nat → Option Nat} (hS : ST G P) {ρ : Nat → Int} {n : Nat} {cl : Nat → Cl} (hM : ME I ρ n cl) {c k : Int} (hb : ¬ ((0 ≤ c ∧ c < ρ 0) ∧ (0 ≤ k ∧ k ≤ 60))) : am_call am_B am_M (d + 9) 247 [(.inr (.inr (some 208))), (.inl c), (.inl k)] (G, I, P) = some (some (.inl (-1)), (G, (am_u2 I 208 0 0), P)) := by
  have h0 := RW_n0 hM.2.1
  refine am_doL (L := [some (.inr (.inr (some 208))), some (.inl c), some (.inl k), none]) (Nat.le_of_ble_eq_true rfl) rfl ?_
  refine (ex_6_0 (ex_0 (ix_42i (sh_208 hS) (ex_6_0 (ex_4_1 ?_)))))
  by_cases hb7 : ((0 : Int) ≤ c ∧ (c : Int) < (ρ 0))
  · refine (ix_46 (S' := [(.inl 1)]) rfl (sh_208 hS) (c_isCloud_T hS ((u2_q (by decide)).trans (congrFun hM.1 _)) (by omega) hb7) rfl rfl (ex_if0 (fun hc => by exfalso; revert hc; decide) (fun _ => ?_)))
    refine (ex_4_2 (ex_19 (ex_1 (ex_1 ?_))))
    have hb19 : ¬ (((0 : Int) ≤ k ∧ (k : Int) ≤ 60)) := by omega
    refine (ix_45 (S' := [(.inl 0)]) rfl (c_in_f hb19) rfl rfl (ex_if1 (fun hc => by exfalso; revert hc; decide) (fun _ => ?_)))
    refine (ex_0 ?_)
    exact ex_53 rfl
  · refine (ix_46 (S' := [(.inl 0)]) rfl (sh_208 hS) (c_isCloud_F hS ((u2_q (by decide)).trans (congrFun hM.1 _)) (by omega) hb7) rfl rfl (ex_if0 (fun _ => ?_) (fun hc => by exfalso; revert hc; decide)))
    refine (ex_0 ?_)
    exact ex_53 rfl
theorem m_where {d : Nat} {G : am_G} {I : Nat → Nat → Int} {P : Nat → Nat → Option Nat} (hS : ST G P) {ρ : Nat → Int} {n : Nat} {cl : Nat → Cl} (hM : ME I ρ n cl) (h5 : ρ 5 ≤ 999) {c k : Nat} (hc0 : (c : Int) < ρ 0) (hk : k ≤ 60) : ∃ I1, am_call am_B am_M (d + 10) 247 [(.inr (.inr (some 208))), (.inl (c : Int)), (.inl (k : Int))] (G, I, P) = some (some (.inl (m_pN ρ n cl k (9 + c))), (G, I1, P)) ∧ (PAP I I1 ρ) := by
  have h0 := RW_n0 hM.2.1
  have w : am_ex (am_call am_B am_M (d + 9)) (am_B 247) (am_B 247 0) [some (.inr (.inr (some 208))), some (.inl (c : Int)), some (.inl (k : Int)), none] [] (G, I, P) (fun o => ∃ I1, o = (some (.inl (m_pN ρ n cl k (9 + c))), (G, I1, P)) ∧ (PAP I I1 ρ)) := by
    refine (ex_6_0 (ex_0 (ix_42i (sh_208 hS) (ex_6_0 (ex_4_1 ?_)))))
    have hb7 : ((0 : Int) ≤ (c : Int) ∧ ((c : Int) : Int) < (ρ 0)) := by omega
    refine (ix_46 (S' := [(.inl 1)]) rfl (sh_208 hS) (c_isCloud_T hS ((u2_q (by decide)).trans (congrFun hM.1 _)) (by omega) hb7) rfl rfl (ex_if0 (fun hc => by exfalso; revert hc; decide) (fun _ => ?_)))
    refine (ex_4_2 (ex_19 (ex_1 (ex_1 ?_))))
    have hb19 : ((0 : Int) ≤ (k : Int) ∧ ((k : Int) : Int) ≤ 60) := by omega
    refine (ix_45 (S' := [(.inl 1)]) rfl (c_in_t hb19) rfl rfl (ex_if1 (fun _ => ?_) (fun hc => by exfalso; revert hc; decide)))
    refine (ex_6_0 (ex_0 (ix_46 (S' := []) rfl (sh_208 hS) (c_keepAll hS (k := 16) (by omega)) rfl rfl (ex_0 (ex_7_3 rfl (ex_58 ?_))))))
    refine ex_forR (b := 4) (σ := Nat → Int) (k) (fun i s => m_pass s n cl) (fun i s J => PS (am_u1 (am_u2 I 208 0 0) 213 (am_cp ((am_u2 I 208 0 0) 210) ((am_u2 I 208 0 0) 213) (5) (25 * 16) 25)) J s n cl ∧ s = m_pN ρ n cl i) (fun i s e_i => [some (.inr (.inr (some 208))), some (.inl (c : Int)), some (.inl (k : Int)), some (.inl (i : Int))]) ?_ (k) (0) (ρ) (fun k_ => ([some (.inr (.inr (some 208))), some (.inl (c : Int)), some (.inl (k : Int)), some (.inl 0)] : am_L).getD k_ none) ((am_u1 (am_u2 I 208 0 0) 213 (am_cp ((am_u2 I 208 0 0) 210) ((am_u2 I 208 0 0) 213) (5) (25 * 16) 25))) (by omega) (⟨⟨⟨(u1_q (by decide)).trans ((u2_qf (by decide)).trans hM.1), hM.2.1, hM.2.2.1, (u1_qk (by decide)).trans ((u2_k (by decide)).trans hM.2.2.2)⟩, QF_refl⟩, rfl⟩) rfl ?_
    · intro i s e_i J hii hvi hki
      obtain ⟨hP, hsp⟩ := hvi
      have hok := pN_ok hM.2.1 hM.2.2.1 h5 i (by omega)
      rw [← hsp] at hok
      refine (ex_4_3 (ex_4_2 ?_))
      refine ex_ic3 (fun hc37 => by exfalso; omega) (fun hc37 => ?_)
      refine (ex_6_0 ?_)
      obtain ⟨J41, e41, r41, f41⟩ := c_passIt (d := d + 1) hS hP.1
      refine (ix_46 (S' := []) rfl (sh_208 hS) e41 rfl rfl (ex_10_3 ⟨by omega, by omega⟩ rfl (ex_28 ?_)))
      exact hki (m_pass s n cl) (fun k_ => ([some (.inr (.inr (some 208))), some (.inl (c : Int)), some (.inl (k : Int)), some (.inl ((i : Int) + 1))] : am_L).getD k_ none) _ (rfl) (⟨⟨⟨r41, RW_pass hP.1.2.1 (by omega), LawNow_pass hP.1.2.1 hP.1.2.2.1, (f41 208 20 (by decide) (by decide) (by decide) (by decide) (by decide)).trans hP.1.2.2.2⟩, QF_trans hP.2 (fun q k a b c e g => f41 q k a b c e g)⟩, by rw [m_pN_succ, ← hsp]⟩)
    · intro s e_i J hsi hvi
      obtain ⟨hP, hsp⟩ := hvi
      refine (ex_4_3 (ex_4_2 ?_))
      refine ex_ic3 (fun hc37 => ?_) (fun hc37 => by exfalso; omega)
      refine (ex_6_0 (ix_41r (sh_208 hS) (pt_208_3 hS) (ex_0 (ex_4_1 (ex_add ⟨by omega, by omega⟩ (ix_30 (j := (9 + c)) (sh_210 hS) (by omega) (by omega) (by omega) (congrFun hP.1.1 _) (ex_7_3 rfl (ex_6_0 (ex_0 (ix_46 (S' := []) rfl (sh_208 hS) (c_putBack hS (k := 16) (by omega)) rfl rfl (ex_4_3 ?_)))))))))))
      exact ex_53 ⟨_, (by rw [hsp]), pap_end th_B hM.1 hP.1.1 hP.2 (fun j hj => by have := (pN_ok hM.2.1 hM.2.2.1 h5 k (by omega)).2.2.2 j (by omega); rw [← hsp] at this; exact this)⟩
  obtain ⟨o, e, I1, rfl, h⟩ := am_doQ (as := [(.inr (.inr (some 208))), (.inl (c : Int)), (.inl (k : Int))]) (Nat.le_of_ble_eq_true rfl) rfl w
  exact ⟨I1, e, h⟩
def m_first (ρ : Nat → Int) (n : Nat) (cl : Nat → Cl) (b : Int) : Nat := fnd (fun i => decide (¬ m_cloudIn (m_pN ρ n cl i) (ρ 0).toNat b = -1)) 61 0
theorem c_cloudIn_e {d : Nat} {G : am_G} {I : Nat → Nat → Int} {P : Nat → Nat → Option Nat} (hS : ST G P) {ρ : Nat → Int} {n : Nat} {b : Int} (hρ : I 210 = ρ) (h0 : ρ 0 = (n : Int)) (hn : n ≤ 6) : am_call am_B am_M (d + 1) 248 [.inr (.inr (some 208)), .inl b] (G, I, P) = some (some (.inl (m_cloudIn ρ n b)), (G, I, P)) := by
  subst hρ; exact c_cloudIn hS h0 hn
theorem m_first_b {d : Nat} {G : am_G} {I : Nat → Nat → Int} {P : Nat → Nat → Option Nat} (hS : ST G P) {ρ : Nat → Int} {n : Nat} {cl : Nat → Cl} (hM : ME I ρ n cl) {b w : Int} (hb : ¬ ((0 ≤ b ∧ b < 6) ∧ (0 ≤ w ∧ w ≤ 1))) : am_call am_B am_M (d + 9) 249 [(.inr (.inr (some 208))), (.inl b), (.inl w)] (G, I, P) = some (some (.inl (-1)), (G, (am_u2 I 208 0 0), P)) := by
  have h0 := RW_n0 hM.2.1
  refine am_doL (L := [some (.inr (.inr (some 208))), some (.inl b), some (.inl w), none, none]) (Nat.le_of_ble_eq_true rfl) rfl ?_
  refine (ex_6_0 (ex_0 (ix_42i (sh_208 hS) (ex_4_1 ?_))))
  by_cases hb6 : ((0 : Int) ≤ b ∧ (b : Int) < 6)
  · refine (ix_45 (S' := [(.inl 1)]) rfl (c_isBox_t hb6) rfl rfl (ex_if0 (fun hc => by exfalso; revert hc; decide) (fun _ => ?_)))
    refine (ex_4_2 (ex_19 (ex_1 (ex_1 ?_))))
    have hb16 : ¬ (((0 : Int) ≤ w ∧ (w : Int) ≤ 1)) := by omega
    refine (ix_45 (S' := [(.inl 0)]) rfl (c_in_f hb16) rfl rfl (ex_if1 (fun hc => by exfalso; revert hc; decide) (fun _ => ?_)))
    refine (ex_0 ?_)
    exact ex_53 rfl
  · refine (ix_45 (S' := [(.inl 0)]) rfl (c_isBox_f hb6) rfl rfl (ex_if0 (fun _ => ?_) (fun hc => by exfalso; revert hc; decide)))
    refine (ex_0 ?_)
    exact ex_53 rfl
theorem m_first_0 {d : Nat} {G : am_G} {I : Nat → Nat → Int} {P : Nat → Nat → Option Nat} (hS : ST G P) {ρ : Nat → Int} {n : Nat} {cl : Nat → Cl} (hM : ME I ρ n cl) (h5 : ρ 5 ≤ 999) {b : Int} (hb : 0 ≤ b ∧ b < 6) : ∃ I1, am_call am_B am_M (d + 10) 249 [(.inr (.inr (some 208))), (.inl b), (.inl 0)] (G, I, P) = some (some (.inl (if 60 < m_first ρ n cl b then -1 else (m_first ρ n cl b : Int))), (G, I1, P)) ∧ (PAP I I1 ρ) := by
  have h0 := RW_n0 hM.2.1
  have w : am_ex (am_call am_B am_M (d + 9)) (am_B 249) (am_B 249 0) [some (.inr (.inr (some 208))), some (.inl b), some (.inl 0), none, none] [] (G, I, P) (fun o => ∃ I1, o = (some (.inl (if 60 < m_first ρ n cl b then -1 else (m_first ρ n cl b : Int))), (G, I1, P)) ∧ (PAP I I1 ρ)) := by
    refine (ex_6_0 (ex_0 (ix_42i (sh_208 hS) (ex_4_1 ?_))))
    have hb6 : ((0 : Int) ≤ b ∧ (b : Int) < 6) := by omega
    refine (ix_45 (S' := [(.inl 1)]) rfl (c_isBox_t hb6) rfl rfl (ex_if0 (fun hc => by exfalso; revert hc; decide) (fun _ => ?_)))
    refine (ex_4_2 (ex_19 (ex_1 (ex_1 ?_))))
    have hb16 : ((0 : Int) ≤ 0 ∧ (0 : Int) ≤ 1) := by omega
    refine (ix_45 (S' := [(.inl 1)]) rfl (c_in_t hb16) rfl rfl (ex_if1 (fun _ => ?_) (fun hc => by exfalso; revert hc; decide)))
    refine (ex_6_0 (ex_0 (ix_46 (S' := []) rfl (sh_208 hS) (c_keepAll hS (k := 16) (by omega)) rfl rfl (ex_0 (ex_7_3 rfl (ex_58 ?_))))))
    refine ex_forR (b := 4) (σ := Nat → Int) (61) (fun i s => m_pass s n cl) (fun i s J => PS (am_u1 (am_u2 I 208 0 0) 213 (am_cp ((am_u2 I 208 0 0) 210) ((am_u2 I 208 0 0) 213) (5) (25 * 16) 25)) J s n cl ∧ s = m_pN ρ n cl i ∧ ∀ j, j < i → ¬ (fun i => decide (¬ m_cloudIn (m_pN ρ n cl i) (ρ 0).toNat b = -1)) j = true) (fun i s e_i => [some (.inr (.inr (some 208))), some (.inl b), some (.inl 0), some (.inl (i : Int)), none]) ?_ (61) (0) (ρ) (fun k_ => ([some (.inr (.inr (some 208))), some (.inl b), some (.inl 0), some (.inl 0), none] : am_L).getD k_ none) ((am_u1 (am_u2 I 208 0 0) 213 (am_cp ((am_u2 I 208 0 0) 210) ((am_u2 I 208 0 0) 213) (5) (25 * 16) 25))) (by omega) (⟨⟨⟨(u1_q (by decide)).trans ((u2_qf (by decide)).trans hM.1), hM.2.1, hM.2.2.1, (u1_qk (by decide)).trans ((u2_k (by decide)).trans hM.2.2.2)⟩, QF_refl⟩, rfl, fun j hj => absurd hj (by omega)⟩) rfl ?_
    · intro i s e_i J hii hvi hki
      obtain ⟨hP, hsp, hno⟩ := hvi
      have hok := pN_ok hM.2.1 hM.2.2.1 h5 i (by omega)
      rw [← hsp] at hok
      have hs0 : s 0 = ρ 0 := hok.2.2.2 0 (by omega)
      refine (ex_4_3 (ex_0 ?_))
      refine ex_ic3 (fun hc35 => by exfalso; omega) (fun hc35 => ?_)
      refine (ex_6_0 (ex_4_1 (ix_46 (S' := [(.inl (m_cloudIn s (ρ 0).toNat b))]) rfl (sh_208 hS) (c_cloudIn_e hS hP.1.1 (n := (ρ 0).toNat) (by omega) (by omega)) rfl rfl (ex_0 ?_))))
      refine ex_ic1 (fun hc44 => ?_) (fun hc44 => ?_)
      · refine (ex_6_0 (ex_4_1 (ix_46 (S' := [(.inl (m_cloudIn s (ρ 0).toNat b))]) rfl (sh_208 hS) (c_cloudIn_e hS hP.1.1 (n := (ρ 0).toNat) (by omega) (by omega)) rfl rfl (ex_7_4 rfl (ex_6_0 (ex_0 (ix_46 (S' := []) rfl (sh_208 hS) (c_putBack hS (k := 16) (by omega)) rfl rfl (ex_4_3 (ex_0 ?_)))))))))
        refine ex_ic5 (fun hc73 => ?_) (fun hc73 => by exfalso; omega)
        refine (ex_4_2 (ex_if1 (fun hc => by exfalso; revert hc; decide) (fun _ => ?_)))
        refine (ex_4_3 (ex_28 ?_))
        exact ex_53 ⟨_, (by rw [show m_first ρ n cl b = i from fnd_at _ 61 0 i (Nat.zero_le _) (by omega) (fun x _ hx => hno x hx) (by rw [decide_eq_true_iff, ← hsp]; exact hc44)]; rw [if_neg (by omega)]), pap_end th_B hM.1 hP.1.1 hP.2 (fun j hj => by have := (pN_ok hM.2.1 hM.2.2.1 h5 i (by omega)).2.2.2 j (by omega); rw [← hsp] at this; exact this)⟩
      · refine (ex_6_0 ?_)
        obtain ⟨J48, e48, r48, f48⟩ := c_passIt (d := d + 1) hS hP.1
        refine (ix_46 (S' := []) rfl (sh_208 hS) e48 rfl rfl (ex_10_3 ⟨by omega, by omega⟩ rfl (ex_28 ?_)))
        exact hki (m_pass s n cl) (fun k_ => ([some (.inr (.inr (some 208))), some (.inl b), some (.inl 0), some (.inl ((i : Int) + 1)), none] : am_L).getD k_ none) _ (rfl) (⟨⟨⟨r48, RW_pass hP.1.2.1 (by omega), LawNow_pass hP.1.2.1 hP.1.2.2.1, (f48 208 20 (by decide) (by decide) (by decide) (by decide) (by decide)).trans hP.1.2.2.2⟩, QF_trans hP.2 (fun q k a b c e g => f48 q k a b c e g)⟩, by rw [m_pN_succ, ← hsp], fun j hj => (by by_cases hji : j < i; exact hno j hji; have : j = i := (by omega); subst this; rw [decide_eq_true_iff, ← hsp]; exact fun z => z hc44)⟩)
    · intro s e_i J hsi hvi
      obtain ⟨hP, hsp, hno⟩ := hvi
      have hok := pN_ok hM.2.1 hM.2.2.1 h5 61 (by omega)
      rw [← hsp] at hok
      have hs0 : s 0 = ρ 0 := hok.2.2.2 0 (by omega)
      refine (ex_4_3 (ex_0 ?_))
      refine ex_ic3 (fun hc35 => ?_) (fun hc35 => by exfalso; omega)
      refine (ex_6_0 (ex_4_1 (ix_46 (S' := [(.inl (m_cloudIn s (ρ 0).toNat b))]) rfl (sh_208 hS) (c_cloudIn_e hS hP.1.1 (n := (ρ 0).toNat) (by omega) (by omega)) rfl rfl (ex_7_4 rfl (ex_6_0 (ex_0 (ix_46 (S' := []) rfl (sh_208 hS) (c_putBack hS (k := 16) (by omega)) rfl rfl (ex_4_3 (ex_0 ?_)))))))))
      refine ex_ic5 (fun hc73 => by exfalso; omega) (fun hc73 => ?_)
      refine (ex_0 (ex_28 ?_))
      exact ex_53 ⟨_, (by rw [show m_first ρ n cl b = 61 from fnd_no _ 61 0 (fun x _ hx => hno x (by omega))]; rfl), pap_end th_B hM.1 hP.1.1 hP.2 (fun j hj => by have := (pN_ok hM.2.1 hM.2.2.1 h5 61 (by omega)).2.2.2 j (by omega); rw [← hsp] at this; exact this)⟩
  obtain ⟨o, e, I1, rfl, h⟩ := am_doQ (as := [(.inr (.inr (some 208))), (.inl b), (.inl 0)]) (Nat.le_of_ble_eq_true rfl) rfl w
  exact ⟨I1, e, h⟩
theorem m_first_1 {d : Nat} {G : am_G} {I : Nat → Nat → Int} {P : Nat → Nat → Option Nat} (hS : ST G P) {ρ : Nat → Int} {n : Nat} {cl : Nat → Cl} (hM : ME I ρ n cl) (h5 : ρ 5 ≤ 999) {b : Int} (hb : 0 ≤ b ∧ b < 6) : ∃ I1, am_call am_B am_M (d + 10) 249 [(.inr (.inr (some 208))), (.inl b), (.inl 1)] (G, I, P) = some (some (.inl (if 60 < m_first ρ n cl b then -1 else m_cloudIn (m_pN ρ n cl (m_first ρ n cl b)) (ρ 0).toNat b)), (G, I1, P)) ∧ (PAP I I1 ρ) := by
  have h0 := RW_n0 hM.2.1
  have w : am_ex (am_call am_B am_M (d + 9)) (am_B 249) (am_B 249 0) [some (.inr (.inr (some 208))), some (.inl b), some (.inl 1), none, none] [] (G, I, P) (fun o => ∃ I1, o = (some (.inl (if 60 < m_first ρ n cl b then -1 else m_cloudIn (m_pN ρ n cl (m_first ρ n cl b)) (ρ 0).toNat b)), (G, I1, P)) ∧ (PAP I I1 ρ)) := by
    refine (ex_6_0 (ex_0 (ix_42i (sh_208 hS) (ex_4_1 ?_))))
    have hb6 : ((0 : Int) ≤ b ∧ (b : Int) < 6) := by omega
    refine (ix_45 (S' := [(.inl 1)]) rfl (c_isBox_t hb6) rfl rfl (ex_if0 (fun hc => by exfalso; revert hc; decide) (fun _ => ?_)))
    refine (ex_4_2 (ex_19 (ex_1 (ex_1 ?_))))
    have hb16 : ((0 : Int) ≤ 1 ∧ (1 : Int) ≤ 1) := by omega
    refine (ix_45 (S' := [(.inl 1)]) rfl (c_in_t hb16) rfl rfl (ex_if1 (fun _ => ?_) (fun hc => by exfalso; revert hc; decide)))
    refine (ex_6_0 (ex_0 (ix_46 (S' := []) rfl (sh_208 hS) (c_keepAll hS (k := 16) (by omega)) rfl rfl (ex_0 (ex_7_3 rfl (ex_58 ?_))))))
    refine ex_forR (b := 4) (σ := Nat → Int) (61) (fun i s => m_pass s n cl) (fun i s J => PS (am_u1 (am_u2 I 208 0 0) 213 (am_cp ((am_u2 I 208 0 0) 210) ((am_u2 I 208 0 0) 213) (5) (25 * 16) 25)) J s n cl ∧ s = m_pN ρ n cl i ∧ ∀ j, j < i → ¬ (fun i => decide (¬ m_cloudIn (m_pN ρ n cl i) (ρ 0).toNat b = -1)) j = true) (fun i s e_i => [some (.inr (.inr (some 208))), some (.inl b), some (.inl 1), some (.inl (i : Int)), none]) ?_ (61) (0) (ρ) (fun k_ => ([some (.inr (.inr (some 208))), some (.inl b), some (.inl 1), some (.inl 0), none] : am_L).getD k_ none) ((am_u1 (am_u2 I 208 0 0) 213 (am_cp ((am_u2 I 208 0 0) 210) ((am_u2 I 208 0 0) 213) (5) (25 * 16) 25))) (by omega) (⟨⟨⟨(u1_q (by decide)).trans ((u2_qf (by decide)).trans hM.1), hM.2.1, hM.2.2.1, (u1_qk (by decide)).trans ((u2_k (by decide)).trans hM.2.2.2)⟩, QF_refl⟩, rfl, fun j hj => absurd hj (by omega)⟩) rfl ?_
    · intro i s e_i J hii hvi hki
      obtain ⟨hP, hsp, hno⟩ := hvi
      have hok := pN_ok hM.2.1 hM.2.2.1 h5 i (by omega)
      rw [← hsp] at hok
      have hs0 : s 0 = ρ 0 := hok.2.2.2 0 (by omega)
      refine (ex_4_3 (ex_0 ?_))
      refine ex_ic3 (fun hc35 => by exfalso; omega) (fun hc35 => ?_)
      refine (ex_6_0 (ex_4_1 (ix_46 (S' := [(.inl (m_cloudIn s (ρ 0).toNat b))]) rfl (sh_208 hS) (c_cloudIn_e hS hP.1.1 (n := (ρ 0).toNat) (by omega) (by omega)) rfl rfl (ex_0 ?_))))
      refine ex_ic1 (fun hc44 => ?_) (fun hc44 => ?_)
      · refine (ex_6_0 (ex_4_1 (ix_46 (S' := [(.inl (m_cloudIn s (ρ 0).toNat b))]) rfl (sh_208 hS) (c_cloudIn_e hS hP.1.1 (n := (ρ 0).toNat) (by omega) (by omega)) rfl rfl (ex_7_4 rfl (ex_6_0 (ex_0 (ix_46 (S' := []) rfl (sh_208 hS) (c_putBack hS (k := 16) (by omega)) rfl rfl (ex_4_3 (ex_0 ?_)))))))))
        refine ex_ic5 (fun hc73 => ?_) (fun hc73 => by exfalso; omega)
        refine (ex_4_2 (ex_if1 (fun _ => ?_) (fun hc => by exfalso; revert hc; decide)))
        refine (ex_4_4 (ex_58 ?_))
        exact ex_53 ⟨_, (by rw [show m_first ρ n cl b = i from fnd_at _ 61 0 i (Nat.zero_le _) (by omega) (fun x _ hx => hno x hx) (by rw [decide_eq_true_iff, ← hsp]; exact hc44)]; rw [if_neg (by omega), ← hsp]), pap_end th_B hM.1 hP.1.1 hP.2 (fun j hj => by have := (pN_ok hM.2.1 hM.2.2.1 h5 i (by omega)).2.2.2 j (by omega); rw [← hsp] at this; exact this)⟩
      · refine (ex_6_0 ?_)
        obtain ⟨J48, e48, r48, f48⟩ := c_passIt (d := d + 1) hS hP.1
        refine (ix_46 (S' := []) rfl (sh_208 hS) e48 rfl rfl (ex_10_3 ⟨by omega, by omega⟩ rfl (ex_28 ?_)))
        exact hki (m_pass s n cl) (fun k_ => ([some (.inr (.inr (some 208))), some (.inl b), some (.inl 1), some (.inl ((i : Int) + 1)), none] : am_L).getD k_ none) _ (rfl) (⟨⟨⟨r48, RW_pass hP.1.2.1 (by omega), LawNow_pass hP.1.2.1 hP.1.2.2.1, (f48 208 20 (by decide) (by decide) (by decide) (by decide) (by decide)).trans hP.1.2.2.2⟩, QF_trans hP.2 (fun q k a b c e g => f48 q k a b c e g)⟩, by rw [m_pN_succ, ← hsp], fun j hj => (by by_cases hji : j < i; exact hno j hji; have : j = i := (by omega); subst this; rw [decide_eq_true_iff, ← hsp]; exact fun z => z hc44)⟩)
    · intro s e_i J hsi hvi
      obtain ⟨hP, hsp, hno⟩ := hvi
      have hok := pN_ok hM.2.1 hM.2.2.1 h5 61 (by omega)
      rw [← hsp] at hok
      have hs0 : s 0 = ρ 0 := hok.2.2.2 0 (by omega)
      refine (ex_4_3 (ex_0 ?_))
      refine ex_ic3 (fun hc35 => ?_) (fun hc35 => by exfalso; omega)
      refine (ex_6_0 (ex_4_1 (ix_46 (S' := [(.inl (m_cloudIn s (ρ 0).toNat b))]) rfl (sh_208 hS) (c_cloudIn_e hS hP.1.1 (n := (ρ 0).toNat) (by omega) (by omega)) rfl rfl (ex_7_4 rfl (ex_6_0 (ex_0 (ix_46 (S' := []) rfl (sh_208 hS) (c_putBack hS (k := 16) (by omega)) rfl rfl (ex_4_3 (ex_0 ?_)))))))))
      refine ex_ic5 (fun hc73 => by exfalso; omega) (fun hc73 => ?_)
      refine (ex_0 (ex_28 ?_))
      exact ex_53 ⟨_, (by rw [show m_first ρ n cl b = 61 from fnd_no _ 61 0 (fun x _ hx => hno x (by omega))]; rfl), pap_end th_B hM.1 hP.1.1 hP.2 (fun j hj => by have := (pN_ok hM.2.1 hM.2.2.1 h5 61 (by omega)).2.2.2 j (by omega); rw [← hsp] at this; exact this)⟩
  obtain ⟨o, e, I1, rfl, h⟩ := am_doQ (as := [(.inr (.inr (some 208))), (.inl b), (.inl 1)]) (Nat.le_of_ble_eq_true rfl) rfl w
  exact ⟨I1, e, h⟩
def m_meet (ρ : Nat → Int) (n : Nat) (cl : Nat → Cl) (a b : Nat) : Nat := fnd (fun i => decide (m_pN ρ n cl i (9 + a) = m_pN ρ n cl i (9 + b))) 61 0
theorem m_meet_b {d : Nat} {G : am_G} {I : Nat → Nat → Int} {P : Nat → Nat → Option Nat} (hS : ST G P) {ρ : Nat → Int} {n : Nat} {cl : Nat → Cl} (hM : ME I ρ n cl) {a b : Int} (hb : ¬ ((0 ≤ a ∧ a < ρ 0) ∧ (0 ≤ b ∧ b < ρ 0) ∧ ¬ a = b)) : am_call am_B am_M (d + 9) 250 [(.inr (.inr (some 208))), (.inl a), (.inl b)] (G, I, P) = some (some (.inl (-1)), (G, (am_u2 I 208 0 0), P)) := by
  have h0 := RW_n0 hM.2.1
  refine am_doL (L := [some (.inr (.inr (some 208))), some (.inl a), some (.inl b), none]) (Nat.le_of_ble_eq_true rfl) rfl ?_
  refine (ex_6_0 (ex_0 (ix_42i (sh_208 hS) (ex_6_0 (ex_4_1 ?_)))))
  by_cases hb7 : ((0 : Int) ≤ a ∧ (a : Int) < (ρ 0))
  · refine (ix_46 (S' := [(.inl 1)]) rfl (sh_208 hS) (c_isCloud_T hS ((u2_q (by decide)).trans (congrFun hM.1 _)) (by omega) hb7) rfl rfl (ex_if0 (fun hc => by exfalso; revert hc; decide) (fun _ => ?_)))
    refine (ex_6_0 (ex_4_2 ?_))
    by_cases hb15 : ((0 : Int) ≤ b ∧ (b : Int) < (ρ 0))
    · refine (ix_46 (S' := [(.inl 1)]) rfl (sh_208 hS) (c_isCloud_T hS ((u2_q (by decide)).trans (congrFun hM.1 _)) (by omega) hb15) rfl rfl (ex_if0 (fun hc => by exfalso; revert hc; decide) (fun _ => ?_)))
      refine (ex_4_1 (ex_4_2 ?_))
      refine ex_ic1 (fun hc23 => by exfalso; omega) (fun hc23 => ?_)
      refine (ex_0 ?_)
      exact ex_53 rfl
    · refine (ix_46 (S' := [(.inl 0)]) rfl (sh_208 hS) (c_isCloud_F hS ((u2_q (by decide)).trans (congrFun hM.1 _)) (by omega) hb15) rfl rfl (ex_if0 (fun _ => ?_) (fun hc => by exfalso; revert hc; decide)))
      refine (ex_0 ?_)
      exact ex_53 rfl
  · refine (ix_46 (S' := [(.inl 0)]) rfl (sh_208 hS) (c_isCloud_F hS ((u2_q (by decide)).trans (congrFun hM.1 _)) (by omega) hb7) rfl rfl (ex_if0 (fun _ => ?_) (fun hc => by exfalso; revert hc; decide)))
    refine (ex_0 ?_)
    exact ex_53 rfl
theorem m_meet_c {d : Nat} {G : am_G} {I : Nat → Nat → Int} {P : Nat → Nat → Option Nat} (hS : ST G P) {ρ : Nat → Int} {n : Nat} {cl : Nat → Cl} (hM : ME I ρ n cl) (h5 : ρ 5 ≤ 999) {a b : Nat} (ha : (a : Int) < ρ 0) (hb : (b : Int) < ρ 0) (hab : ¬ a = b) : ∃ I1, am_call am_B am_M (d + 10) 250 [(.inr (.inr (some 208))), (.inl (a : Int)), (.inl (b : Int))] (G, I, P) = some (some (.inl (if 60 < m_meet ρ n cl a b then -1 else (m_meet ρ n cl a b : Int))), (G, I1, P)) ∧ (PAP I I1 ρ) := by
  have h0 := RW_n0 hM.2.1
  have w : am_ex (am_call am_B am_M (d + 9)) (am_B 250) (am_B 250 0) [some (.inr (.inr (some 208))), some (.inl (a : Int)), some (.inl (b : Int)), none] [] (G, I, P) (fun o => ∃ I1, o = (some (.inl (if 60 < m_meet ρ n cl a b then -1 else (m_meet ρ n cl a b : Int))), (G, I1, P)) ∧ (PAP I I1 ρ)) := by
    refine (ex_6_0 (ex_0 (ix_42i (sh_208 hS) (ex_6_0 (ex_4_1 ?_)))))
    have hb7 : ((0 : Int) ≤ (a : Int) ∧ ((a : Int) : Int) < (ρ 0)) := by omega
    refine (ix_46 (S' := [(.inl 1)]) rfl (sh_208 hS) (c_isCloud_T hS ((u2_q (by decide)).trans (congrFun hM.1 _)) (by omega) hb7) rfl rfl (ex_if0 (fun hc => by exfalso; revert hc; decide) (fun _ => ?_)))
    refine (ex_6_0 (ex_4_2 ?_))
    have hb15 : ((0 : Int) ≤ (b : Int) ∧ ((b : Int) : Int) < (ρ 0)) := by omega
    refine (ix_46 (S' := [(.inl 1)]) rfl (sh_208 hS) (c_isCloud_T hS ((u2_q (by decide)).trans (congrFun hM.1 _)) (by omega) hb15) rfl rfl (ex_if0 (fun hc => by exfalso; revert hc; decide) (fun _ => ?_)))
    refine (ex_4_1 (ex_4_2 ?_))
    refine ex_ic1 (fun hc23 => ?_) (fun hc23 => by exfalso; omega)
    refine (ex_6_0 (ex_0 (ix_46 (S' := []) rfl (sh_208 hS) (c_keepAll hS (k := 16) (by omega)) rfl rfl (ex_0 (ex_7_3 rfl (ex_58 ?_))))))
    refine ex_forR (b := 5) (σ := Nat → Int) (61) (fun i s => m_pass s n cl) (fun i s J => PS (am_u1 (am_u2 I 208 0 0) 213 (am_cp ((am_u2 I 208 0 0) 210) ((am_u2 I 208 0 0) 213) (5) (25 * 16) 25)) J s n cl ∧ s = m_pN ρ n cl i ∧ ∀ j, j < i → ¬ (fun i => decide (m_pN ρ n cl i (9 + a) = m_pN ρ n cl i (9 + b))) j = true) (fun i s e_i => [some (.inr (.inr (some 208))), some (.inl (a : Int)), some (.inl (b : Int)), some (.inl (i : Int))]) ?_ (61) (0) (ρ) (fun k_ => ([some (.inr (.inr (some 208))), some (.inl (a : Int)), some (.inl (b : Int)), some (.inl 0)] : am_L).getD k_ none) ((am_u1 (am_u2 I 208 0 0) 213 (am_cp ((am_u2 I 208 0 0) 210) ((am_u2 I 208 0 0) 213) (5) (25 * 16) 25))) (by omega) (⟨⟨⟨(u1_q (by decide)).trans ((u2_qf (by decide)).trans hM.1), hM.2.1, hM.2.2.1, (u1_qk (by decide)).trans ((u2_k (by decide)).trans hM.2.2.2)⟩, QF_refl⟩, rfl, fun j hj => absurd hj (by omega)⟩) rfl ?_
    · intro i s e_i J hii hvi hki
      obtain ⟨hP, hsp, hno⟩ := hvi
      have hok := pN_ok hM.2.1 hM.2.2.1 h5 i (by omega)
      rw [← hsp] at hok
      refine (ex_4_3 (ex_0 ?_))
      refine ex_ic3 (fun hc39 => by exfalso; omega) (fun hc39 => ?_)
      refine (ex_6_0 (ix_41r (sh_208 hS) (pt_208_3 hS) (ex_0 (ex_4_1 (ex_add ⟨by omega, by omega⟩ (ix_30 (j := (9 + a)) (sh_210 hS) (by omega) (by omega) (by omega) (congrFun hP.1.1 _) (ex_6_0 (ix_41r (sh_208 hS) (pt_208_3 hS) (ex_0 (ex_4_2 (ex_add ⟨by omega, by omega⟩ (ix_30 (j := (9 + b)) (sh_210 hS) (by omega) (by omega) (by omega) (congrFun hP.1.1 _) ?_))))))))))))
      refine ex_ic0 (fun hc60 => ?_) (fun hc60 => ?_)
      · refine (ex_6_0 (ex_0 (ix_46 (S' := []) rfl (sh_208 hS) (c_putBack hS (k := 16) (by omega)) rfl rfl (ex_4_3 (ex_0 ?_)))))
        refine ex_ic5 (fun hc82 => ?_) (fun hc82 => by exfalso; omega)
        refine (ex_4_3 (ex_58 ?_))
        exact ex_53 ⟨_, (by rw [show m_meet ρ n cl a b = i from fnd_at _ 61 0 i (Nat.zero_le _) (by omega) (fun x _ hx => hno x hx) (by rw [decide_eq_true_iff, ← hsp]; exact hc60)]; rw [if_neg (by omega)]), pap_end th_B hM.1 hP.1.1 hP.2 (fun j hj => by have := (pN_ok hM.2.1 hM.2.2.1 h5 i (by omega)).2.2.2 j (by omega); rw [← hsp] at this; exact this)⟩
      · refine (ex_6_0 ?_)
        obtain ⟨J64, e64, r64, f64⟩ := c_passIt (d := d + 1) hS hP.1
        refine (ix_46 (S' := []) rfl (sh_208 hS) e64 rfl rfl (ex_10_3 ⟨by omega, by omega⟩ rfl (ex_28 ?_)))
        exact hki (m_pass s n cl) (fun k_ => ([some (.inr (.inr (some 208))), some (.inl (a : Int)), some (.inl (b : Int)), some (.inl ((i : Int) + 1))] : am_L).getD k_ none) _ (rfl) (⟨⟨⟨r64, RW_pass hP.1.2.1 (by omega), LawNow_pass hP.1.2.1 hP.1.2.2.1, (f64 208 20 (by decide) (by decide) (by decide) (by decide) (by decide)).trans hP.1.2.2.2⟩, QF_trans hP.2 (fun q k a b c e g => f64 q k a b c e g)⟩, by rw [m_pN_succ, ← hsp], fun j hj => (by by_cases hji : j < i; exact hno j hji; have : j = i := (by omega); subst this; rw [decide_eq_true_iff, ← hsp]; exact hc60)⟩)
    · intro s e_i J hsi hvi
      obtain ⟨hP, hsp, hno⟩ := hvi
      refine (ex_4_3 (ex_0 ?_))
      refine ex_ic3 (fun hc39 => ?_) (fun hc39 => by exfalso; omega)
      refine (ex_6_0 (ex_0 (ix_46 (S' := []) rfl (sh_208 hS) (c_putBack hS (k := 16) (by omega)) rfl rfl (ex_4_3 (ex_0 ?_)))))
      refine ex_ic5 (fun hc82 => by exfalso; omega) (fun hc82 => ?_)
      refine (ex_0 (ex_28 ?_))
      exact ex_53 ⟨_, (by rw [show m_meet ρ n cl a b = 61 from fnd_no _ 61 0 (fun x _ hx => hno x (by omega))]; rfl), pap_end th_B hM.1 hP.1.1 hP.2 (fun j hj => by have := (pN_ok hM.2.1 hM.2.2.1 h5 61 (by omega)).2.2.2 j (by omega); rw [← hsp] at this; exact this)⟩
  obtain ⟨o, e, I1, rfl, h⟩ := am_doQ (as := [(.inr (.inr (some 208))), (.inl (a : Int)), (.inl (b : Int))]) (Nat.le_of_ble_eq_true rfl) rfl w
  exact ⟨I1, e, h⟩
def m_there (ρ pl : Nat → Int) (N : Nat) : Int := am_it (fun c so => if so = 1 ∧ ρ (9 + c) = pl c then 1 else 0) N 0 1
theorem m_there_01 {ρ pl : Nat → Int} {N : Nat} : m_there ρ pl N = 0 ∨ m_there ρ pl N = 1 := by
  refine am_it_inv (f := fun c so => if so = 1 ∧ ρ (9 + c) = pl c then (1 : Int) else 0) (inv := fun _ s => s = 0 ∨ s = 1) (N := N) (fun i s _ h => ?_) N 0 1 (by omega) (Or.inr rfl)
  show (if s = 1 ∧ ρ (9 + i) = pl i then (1 : Int) else 0) = 0 ∨ (if s = 1 ∧ ρ (9 + i) = pl i then (1 : Int) else 0) = 1
  split
  · exact Or.inr rfl
  · exact Or.inl rfl
def m_again (ρ : Nat → Int) (n : Nat) (cl : Nat → Cl) : Nat := fnd (fun i => decide (m_there (m_pN ρ n cl i) (fun c => ρ (9 + c)) (ρ 0).toNat = 1)) 60 1
theorem c_areThere {d : Nat} {G : am_G} {I : Nat → Nat → Int} {P : Nat → Nat → Option Nat} (hS : ST G P) {ρ pl : Nat → Int} {N : Nat} (hρ : I 210 = ρ) (hpl : ∀ c, c < N → I 230 c = pl c) (h0 : ρ 0 = (N : Int)) (hN : N ≤ 6) : am_call am_B am_M (d + 1) 251 [(.inr (.inr (some 208)))] (G, I, P) = some (some (.inl (m_there ρ pl N)), (G, I, P)) := by
  refine am_doL (L := [some (.inr (.inr (some 208))), none, none]) (Nat.le_of_ble_eq_true rfl) rfl ?_
  refine (ex_0 (ex_7_1 rfl (ex_0 (ex_7_2 rfl (ex_58 ?_)))))
  refine ex_forH (b := 1) (σ := Int) (N) (fun i s => if s = 1 ∧ ρ (9 + i) = pl i then 1 else 0) (fun i s => s = 0 ∨ s = 1) (fun i s e_i => [some (.inr (.inr (some 208))), some (.inl s), some (.inl (i : Int))]) (fun i s => (G, I, P)) ?_ ?_ (N) (0) (1) (fun k_ => ([some (.inr (.inr (some 208))), some (.inl 1), some (.inl 0)] : am_L).getD k_ none) (by omega) (Or.inr rfl) rfl (rfl) ?_
  · intro i s hii hvi
    show (if s = 1 ∧ ρ (9 + i) = pl i then (1 : Int) else 0) = 0 ∨ (if s = 1 ∧ ρ (9 + i) = pl i then (1 : Int) else 0) = 1
    split
    · exact Or.inr rfl
    · exact Or.inl rfl
  · intro i s e_i hii hvi s' hsi hki
    have hvi : s = 0 ∨ s = 1 := hvi
    refine (ex_4_2 (ex_6_0 (ix_41r (sh_208 hS) (pt_208_3 hS) (ex_0 (ix_30 (j := 0) (sh_210 hS) (by decide) (by decide) rfl ((congrFun hρ _).trans h0) ?_)))))
    refine ex_ic3 (fun hc11 => by exfalso; omega) (fun hc11 => ?_)
    refine (ex_4_1 ?_)
    refine ex_if0 (fun hc15 => ?_) (fun hc15 => ?_)
    · refine (ex_0 (ex_58 (ex_7_1 rfl (ex_10_2 ⟨by omega, by omega⟩ rfl (ex_28 ?_)))))
      rw [hsi.trans (if_neg (by omega))] at hki
      exact hki (fun k_ => ([some (.inr (.inr (some 208))), some (.inl 0), some (.inl ((i : Int) + 1))] : am_L).getD k_ none)
    · refine (ex_6_0 (ix_41r (sh_208 hS) (pt_208_3 hS) (ex_0 (ex_4_2 (ex_add ⟨by omega, by omega⟩ (ix_30 (j := (9 + i)) (sh_210 hS) (by omega) (by omega) (by omega) (congrFun hρ _) (ex_6_0 (ix_41r (sh_208 hS) (pt_208_42 hS) (ex_4_2 (ix_30 (j := i) (sh_230 hS) (by omega) (by omega) (by omega) (hpl i hii) ?_))))))))))
      refine ex_ic1 (fun hc33 => ?_) (fun hc33 => ?_)
      · refine (ex_0 (ex_58 (ex_7_1 rfl (ex_10_2 ⟨by omega, by omega⟩ rfl (ex_28 ?_)))))
        rw [hsi.trans (if_neg (by omega))] at hki
        exact hki (fun k_ => ([some (.inr (.inr (some 208))), some (.inl 0), some (.inl ((i : Int) + 1))] : am_L).getD k_ none)
      · refine (ex_0 (ex_28 (ex_7_1 rfl (ex_10_2 ⟨by omega, by omega⟩ rfl (ex_28 ?_)))))
        rw [hsi.trans (if_pos ⟨by omega, by omega⟩)] at hki
        exact hki (fun k_ => ([some (.inr (.inr (some 208))), some (.inl 1), some (.inl ((i : Int) + 1))] : am_L).getD k_ none)
  · intro s e_i hsi hvi
    have hvi : s = 0 ∨ s = 1 := hvi
    refine (ex_4_2 (ex_6_0 (ix_41r (sh_208 hS) (pt_208_3 hS) (ex_0 (ix_30 (j := 0) (sh_210 hS) (by decide) (by decide) rfl ((congrFun hρ _).trans h0) ?_)))))
    refine ex_ic3 (fun hc11 => ?_) (fun hc11 => by exfalso; omega)
    refine (ex_4_1 ?_)
    exact ex_57 (by omega) (by rw [hsi]; rfl)
theorem m_again_c {d : Nat} {G : am_G} {I : Nat → Nat → Int} {P : Nat → Nat → Option Nat} (hS : ST G P) {ρ : Nat → Int} {n : Nat} {cl : Nat → Cl} (hM : ME I ρ n cl) (h5 : ρ 5 ≤ 999) : ∃ I1, am_call am_B am_M (d + 10) 252 [(.inr (.inr (some 208)))] (G, I, P) = some (some (.inl (if 60 < m_again ρ n cl then -1 else (m_again ρ n cl : Int))), (G, I1, P)) ∧ (PAP I I1 ρ) := by
  have h0 := RW_n0 hM.2.1
  have hBA : ∀ q k, ¬ q = 230 → ¬ (q = 208 ∧ k = 0) → (am_u1 (am_u2 I 208 0 0) 230 (am_cp ((am_u2 I 208 0 0) 210) ((am_u2 I 208 0 0) 230) (9) (0) (ρ 0).toNat)) q k = I q k := fun q k h1 h2 => (u1_qk h1).trans (th_B q k h1 h2)
  have w : am_ex (am_call am_B am_M (d + 9)) (am_B 252) (am_B 252 0) [some (.inr (.inr (some 208))), none] [] (G, I, P) (fun o => ∃ I1, o = (some (.inl (if 60 < m_again ρ n cl then -1 else (m_again ρ n cl : Int))), (G, I1, P)) ∧ (PAP I I1 ρ)) := by
    refine (ex_6_0 (ex_0 (ix_42i (sh_208 hS) (ex_0 (ex_7_1 rfl (ex_58 ?_))))))
    refine ex_forH (b := 1) (σ := Unit) ((ρ 0).toNat) (fun i s => s) (fun i s => True) (fun i s e_i => [some (.inr (.inr (some 208))), some (.inl (i : Int))]) (fun i s => (G, (am_u1 (am_u2 I 208 0 0) 230 (am_cp ((am_u2 I 208 0 0) 210) ((am_u2 I 208 0 0) 230) (9) (0) i)), P)) ?_ ?_ ((ρ 0).toNat) (0) (()) (fun k_ => ([some (.inr (.inr (some 208))), some (.inl 0)] : am_L).getD k_ none) (by omega) (trivial) rfl (congrArg (fun J => (G, J, P)) u1_cp0.symm) ?_
    · intro i s hii hvi
      exact trivial
    · intro i s e_i hii hvi s' hsi hki
      refine (ex_4_1 (ex_6_0 (ix_41r (sh_208 hS) (pt_208_3 hS) (ex_0 (ix_30 (j := 0) (sh_210 hS) (by decide) (by decide) rfl (((u1_qk (by decide))).trans ((u2_q (by decide)).trans ((congrFun hM.1 _).trans (Int.toNat_of_nonneg h0.1).symm))) ?_)))))
      refine ex_ic3 (fun hc14 => by exfalso; omega) (fun hc14 => ?_)
      refine (ex_6_0 (ix_41r (sh_208 hS) (pt_208_42 hS) (ex_4_1 (ex_6_0 (ix_41r (sh_208 hS) (pt_208_3 hS) (ex_0 (ex_4_1 (ex_add ⟨by omega, by omega⟩ (ix_30 (j := (9 + i)) (sh_210 hS) (by omega) (by omega) (by omega) (((u1_qk (by decide))).trans (u2_q (by decide))) (ix_34 (j := i) (sh_230 hS) (by omega) (by omega) (by omega) (ex_10_1 ⟨by omega, by omega⟩ rfl (ex_28 ?_))))))))))))
      rw [show (am_u2 (am_u1 (am_u2 I 208 0 0) 230 (am_cp ((am_u2 I 208 0 0) 210) ((am_u2 I 208 0 0) 230) (9) (0) i)) 230 i (I 210 (9 + i))) = (am_u1 (am_u2 I 208 0 0) 230 (am_cp ((am_u2 I 208 0 0) 210) ((am_u2 I 208 0 0) 230) (9) (0) (i + 1))) from cp_stepG (a := i) (b := (9 + i)) (by omega) (by omega)]
      exact hki (fun k_ => ([some (.inr (.inr (some 208))), some (.inl ((i : Int) + 1))] : am_L).getD k_ none)
    · intro s e_i hsi hvi
      refine (ex_4_1 (ex_6_0 (ix_41r (sh_208 hS) (pt_208_3 hS) (ex_0 (ix_30 (j := 0) (sh_210 hS) (by decide) (by decide) rfl (((u1_qk (by decide))).trans ((u2_q (by decide)).trans ((congrFun hM.1 _).trans (Int.toNat_of_nonneg h0.1).symm))) ?_)))))
      refine ex_ic3 (fun hc14 => ?_) (fun hc14 => by exfalso; omega)
      refine (ex_6_0 (ex_0 (ix_46 (S' := []) rfl (sh_208 hS) (c_keepAll hS (k := 16) (by omega)) rfl rfl (ex_6_0 ?_))))
      have hMK : ME (am_u1 (am_u1 (am_u2 I 208 0 0) 230 (am_cp ((am_u2 I 208 0 0) 210) ((am_u2 I 208 0 0) 230) (9) (0) (ρ 0).toNat)) 213 (am_cp ((am_u1 (am_u2 I 208 0 0) 230 (am_cp ((am_u2 I 208 0 0) 210) ((am_u2 I 208 0 0) 230) (9) (0) (ρ 0).toNat)) 210) ((am_u1 (am_u2 I 208 0 0) 230 (am_cp ((am_u2 I 208 0 0) 210) ((am_u2 I 208 0 0) 230) (9) (0) (ρ 0).toNat)) 213) (5) (25 * 16) 25)) ρ n cl := ⟨(u1_q (by decide)).trans ((u1_q (by decide)).trans ((u2_qf (by decide)).trans hM.1)), hM.2.1, hM.2.2.1, (u1_qk (by decide)).trans ((u1_qk (by decide)).trans ((u2_k (by decide)).trans hM.2.2.2))⟩
      obtain ⟨J45, e45, r45, f45⟩ := c_passIt (d := d + 1) (G := G) (P := P) hS hMK
      refine (ix_46 (S' := []) rfl (sh_208 hS) e45 rfl rfl (ex_0 (ex_7_1 rfl (ex_58 ?_))))
      refine ex_forR (b := 4) (σ := Nat → Int) (60) (fun i s => m_pass s n cl) (fun i s J => PS (am_u1 (am_u1 (am_u2 I 208 0 0) 230 (am_cp ((am_u2 I 208 0 0) 210) ((am_u2 I 208 0 0) 230) (9) (0) (ρ 0).toNat)) 213 (am_cp ((am_u1 (am_u2 I 208 0 0) 230 (am_cp ((am_u2 I 208 0 0) 210) ((am_u2 I 208 0 0) 230) (9) (0) (ρ 0).toNat)) 210) ((am_u1 (am_u2 I 208 0 0) 230 (am_cp ((am_u2 I 208 0 0) 210) ((am_u2 I 208 0 0) 230) (9) (0) (ρ 0).toNat)) 213) (5) (25 * 16) 25)) J s n cl ∧ s = m_pN ρ n cl (i + 1) ∧ ∀ j, j < i → ¬ (fun i => decide (m_there (m_pN ρ n cl i) (fun c => ρ (9 + c)) (ρ 0).toNat = 1)) (1 + j) = true) (fun i s e_i => [some (.inr (.inr (some 208))), some (.inl ((i : Int) + 1))]) ?_ (60) (0) (m_pass ρ n cl) (fun k_ => ([some (.inr (.inr (some 208))), some (.inl 1)] : am_L).getD k_ none) (J45) (by omega) (⟨⟨⟨r45, RW_pass hM.2.1 (by omega), LawNow_pass hM.2.1 hM.2.2.1, (f45 208 20 (by decide) (by decide) (by decide) (by decide) (by decide)).trans hMK.2.2.2⟩, fun q k a b c e g => f45 q k a b c e g⟩, rfl, fun j hj => absurd hj (by omega)⟩) rfl ?_
      · intro i s e_i J hii hvi hki
        obtain ⟨hP, hsp, hno⟩ := hvi
        have hok := pN_ok hM.2.1 hM.2.2.1 h5 (i + 1) (by omega)
        rw [← hsp] at hok
        have hth := m_there_01 (ρ := s) (pl := fun c => ρ (9 + c)) (N := (ρ 0).toNat)
        have hs0 : s 0 = ρ 0 := hok.2.2.2 0 (by omega)
        have hpl : ∀ c, c < (ρ 0).toNat → J 230 c = (fun c => ρ (9 + c)) c := by
          intro c hc
          rw [hP.2 230 c (by decide) (by decide) (by decide) (by decide) (by omega), u1_q (by decide), u1_e, cp_in (by omega), u2_qf (by decide), hM.1]
          exact congrArg ρ (by omega)
        refine (ex_4_1 (ex_0 ?_))
        refine ex_ic3 (fun hc53 => by exfalso; omega) (fun hc53 => ?_)
        refine (ex_6_0 (ix_46 (S' := [(.inl (m_there s (fun c => ρ (9 + c)) (ρ 0).toNat))]) rfl (sh_208 hS) (c_areThere hS hP.1.1 hpl (N := (ρ 0).toNat) (by omega) (by omega)) rfl rfl ?_))
        refine ex_if1 (fun hc60 => ?_) (fun hc60 => ?_)
        · refine (ex_6_0 (ex_0 (ix_46 (S' := []) rfl (sh_208 hS) (c_putBack hS (k := 16) (by omega)) rfl rfl (ex_4_1 (ex_0 ?_)))))
          refine ex_ic5 (fun hc82 => ?_) (fun hc82 => by exfalso; omega)
          refine (ex_4_1 (ex_58 ?_))
          exact ex_53 ⟨_, (by rw [show m_again ρ n cl = i + 1 from fnd_at _ 60 1 (i + 1) (by omega) (by omega) (fun x h1 hx => by have := hno (x - 1) (by omega); rw [show 1 + (x - 1) = x by omega] at this; exact this) (by rw [decide_eq_true_iff, ← hsp]; omega)]; rw [if_neg (by omega)]; rfl), pap_end hBA hM.1 hP.1.1 hP.2 (fun j hj => by have := (pN_ok hM.2.1 hM.2.2.1 h5 (i + 1) (by omega)).2.2.2 j (by omega); rw [← hsp] at this; exact this)⟩
        · refine (ex_6_0 ?_)
          obtain ⟨J64, e64, r64, f64⟩ := c_passIt (d := d + 1) hS hP.1
          refine (ix_46 (S' := []) rfl (sh_208 hS) e64 rfl rfl (ex_10_1 ⟨by omega, by omega⟩ rfl (ex_28 ?_)))
          exact hki (m_pass s n cl) (fun k_ => ([some (.inr (.inr (some 208))), some (.inl (((i : Int) + 1) + 1))] : am_L).getD k_ none) _ (rfl) (⟨⟨⟨r64, RW_pass hP.1.2.1 (by omega), LawNow_pass hP.1.2.1 hP.1.2.2.1, (f64 208 20 (by decide) (by decide) (by decide) (by decide) (by decide)).trans hP.1.2.2.2⟩, QF_trans hP.2 (fun q k a b c e g => f64 q k a b c e g)⟩, by rw [m_pN_succ, ← hsp], fun j hj => (by by_cases hji : j < i; exact hno j hji; have : j = i := (by omega); subst this; rw [decide_eq_true_iff, Nat.add_comm, ← hsp]; omega)⟩)
      · intro s e_i J hsi hvi
        obtain ⟨hP, hsp, hno⟩ := hvi
        refine (ex_4_1 (ex_0 ?_))
        refine ex_ic3 (fun hc53 => ?_) (fun hc53 => by exfalso; omega)
        refine (ex_6_0 (ex_0 (ix_46 (S' := []) rfl (sh_208 hS) (c_putBack hS (k := 16) (by omega)) rfl rfl (ex_4_1 (ex_0 ?_)))))
        refine ex_ic5 (fun hc82 => by exfalso; omega) (fun hc82 => ?_)
        refine (ex_0 (ex_28 ?_))
        exact ex_53 ⟨_, (by rw [show m_again ρ n cl = 61 from fnd_no _ 60 1 (fun x h1 hx => by have := hno (x - 1) (by omega); rw [show 1 + (x - 1) = x by omega] at this; exact this)]; rfl), pap_end hBA hM.1 hP.1.1 hP.2 (fun j hj => by have := (pN_ok hM.2.1 hM.2.2.1 h5 (60 + 1) (by omega)).2.2.2 j (by omega); rw [← hsp] at this; exact this)⟩
  obtain ⟨o, e, I1, rfl, h⟩ := am_doQ (as := [(.inr (.inr (some 208)))]) (Nat.le_of_ble_eq_true rfl) rfl w
  exact ⟨I1, e, h⟩
