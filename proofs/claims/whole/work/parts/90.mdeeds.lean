/-! ===== the reference: of, asks, deeds ===== -/
/-- a refusal: status, count; else nothing but the places where sums are worked out -/
def RFm (k : Nat) (I J : Nat → Nat → Int) : Prop := J 208 1 = -(k : Int) ∧ J 209 k = I 209 k + 1 ∧ (∀ q j, ¬ q = 228 → ¬ q = 226 → ¬ (q = 208 ∧ (j = 0 ∨ j = 1 ∨ j = 34 ∨ j = 38 ∨ j = 39 ∨ j = 40)) → ¬ (q = 209 ∧ j = k) → J q j = I q j)
def DONm (I : Nat → Nat → Int) (ρ ρ' : Nat → Int) (u : Nat) (v : Int) (J : Nat → Nat → Int) : Prop := J 210 = ρ' ∧ J 213 = rem_u ρ (I 213) u ∧ J 214 = rem_s (I 214) u v ∧ J 208 8 = (rem_n u : Int) ∧ J 208 1 = 0 ∧ (∀ q k, ¬ q = 228 → ¬ q = 226 → ¬ q = 210 → ¬ q = 213 → ¬ q = 214 → ¬ q = 229 → ¬ (q = 208 ∧ (k = 0 ∨ k = 1 ∨ k = 8 ∨ k = 34 ∨ k = 38 ∨ k = 39 ∨ k = 40)) → J q k = I q k)
theorem RFm_TF {I J : Nat → Nat → Int} {k : Nat} (h : TF (am_u2 I 208 0 0) J) : RFm k I (am_u2 (am_u2 J 208 1 (-(k : Int))) 209 k (I 209 k + 1)) := by
  refine ⟨(u2_q (by decide)).trans u2_e, u2_e, fun q j a b c d => ?_⟩
  rw [u2_o d, u2_o (by omega), h q j a b (by omega), u2_o (by omega)]
theorem DON_tell {I J : Nat → Nat → Int} {ρ ρ' : Nat → Int} {u : Nat} {v : Int} (h : DONE (am_u2 I 208 0 0) ρ ρ' u v J) : DONm I ρ ρ' u v (am_u2 J 208 1 0) := by
  obtain ⟨a, b, c, e, f⟩ := h
  refine ⟨(u2_qf (by decide)).trans a, (u2_qf (by decide)).trans (b.trans (by rw [u2_qf (by decide)])), (u2_qf (by decide)).trans (c.trans (by rw [u2_qf (by decide)])), (u2_k (by decide)).trans e, u2_e, fun q k h1 h2 h3 h4 h5 h6 h7 => ?_⟩
  rw [u2_o (by omega), f q k h1 h2 h3 h4 h5 h6 (by omega), u2_o (by omega)]
theorem m_of_b {d : Nat} {G : am_G} {I : Nat → Nat → Int} {P : Nat → Nat → Option Nat} (hS : ST G P) {ρ : Nat → Int} {n : Nat} {cl : Nat → Cl} (hM : ME I ρ n cl) {c w : Int} (hb : ¬ (0 ≤ c ∧ c < ρ 0)) : am_call am_B am_M (d + 8) 183 [(.inr (.inr (some 208))), (.inl c), (.inl w)] (G, I, P) = some (some (.inl (-1)), (G, am_u2 I 208 0 0, P)) := by
  have hM0 : ME (am_u2 I 208 0 0) ρ n cl := ⟨(u2_qf (by decide)).trans hM.1, hM.2.1, hM.2.2.1, (u2_k (by decide)).trans hM.2.2.2⟩
  have h0 := RW_n0 hM.2.1
  have h1 := RW_n1 hM.2.1
  refine am_doL (L := [some (.inr (.inr (some 208))), some (.inl c), some (.inl w)]) (Nat.le_of_ble_eq_true rfl) rfl ?_
  refine (ex_6_0 (ex_0 (ix_42i (sh_208 hS) (ex_6_0 (ex_4_1 ?_)))))
  have hb7 : ¬ (((0 : Int) ≤ c ∧ (c : Int) < (ρ 0))) := by omega
  refine (ix_46 (S' := [(.inl 0)]) rfl (sh_208 hS) (c_isCloud_F hS ((u2_q (by decide)).trans (congrFun hM.1 _)) (by omega) hb7) rfl rfl (ex_if1 (fun hc => by exfalso; revert hc; decide) (fun _ => ?_)))
  refine (ex_0 ?_)
  exact ex_53 rfl
theorem m_of_0 {d : Nat} {G : am_G} {I : Nat → Nat → Int} {P : Nat → Nat → Option Nat} (hS : ST G P) {ρ : Nat → Int} {n : Nat} {cl : Nat → Cl} (hM : ME I ρ n cl) {c : Nat} (hc : (c : Int) < ρ 0) : am_call am_B am_M (d + 8) 183 [(.inr (.inr (some 208))), (.inl (c : Int)), (.inl 0)] (G, I, P) = some (some (.inl (ρ (30 + c))), (G, am_u2 I 208 0 0, P)) := by
  have hM0 : ME (am_u2 I 208 0 0) ρ n cl := ⟨(u2_qf (by decide)).trans hM.1, hM.2.1, hM.2.2.1, (u2_k (by decide)).trans hM.2.2.2⟩
  have h0 := RW_n0 hM.2.1
  have h1 := RW_n1 hM.2.1
  refine am_doL (L := [some (.inr (.inr (some 208))), some (.inl (c : Int)), some (.inl 0)]) (Nat.le_of_ble_eq_true rfl) rfl ?_
  refine (ex_6_0 (ex_0 (ix_42i (sh_208 hS) (ex_6_0 (ex_4_1 ?_)))))
  have hb7 : ((0 : Int) ≤ (c : Int) ∧ ((c : Int) : Int) < (ρ 0)) := by omega
  refine (ix_46 (S' := [(.inl 1)]) rfl (sh_208 hS) (c_isCloud_T hS ((u2_q (by decide)).trans (congrFun hM.1 _)) (by omega) hb7) rfl rfl (ex_if1 (fun _ => ?_) (fun hc => by exfalso; revert hc; decide)))
  refine (ex_4_2 (ex_29i 0 rfl rfl (ex_6_0 (ix_41r (sh_208 hS) (pt_208_3 hS) (ex_0 (ex_4_1 (ex_add ⟨by omega, by omega⟩ (ix_30 (j := (30 + c)) (v := (ρ (30 + c))) (sh_210 hS) (by omega) (by omega) (by omega) ((u2_q (by decide)).trans (congrFun hM.1 _)) ?_))))))))
  exact ex_53 rfl
theorem m_of_1 {d : Nat} {G : am_G} {I : Nat → Nat → Int} {P : Nat → Nat → Option Nat} (hS : ST G P) {ρ : Nat → Int} {n : Nat} {cl : Nat → Cl} (hM : ME I ρ n cl) {c : Nat} (hc : (c : Int) < ρ 0) : am_call am_B am_M (d + 8) 183 [(.inr (.inr (some 208))), (.inl (c : Int)), (.inl 1)] (G, I, P) = some (some (.inl (ρ (36 + c))), (G, am_u2 I 208 0 0, P)) := by
  have hM0 : ME (am_u2 I 208 0 0) ρ n cl := ⟨(u2_qf (by decide)).trans hM.1, hM.2.1, hM.2.2.1, (u2_k (by decide)).trans hM.2.2.2⟩
  have h0 := RW_n0 hM.2.1
  have h1 := RW_n1 hM.2.1
  refine am_doL (L := [some (.inr (.inr (some 208))), some (.inl (c : Int)), some (.inl 1)]) (Nat.le_of_ble_eq_true rfl) rfl ?_
  refine (ex_6_0 (ex_0 (ix_42i (sh_208 hS) (ex_6_0 (ex_4_1 ?_)))))
  have hb7 : ((0 : Int) ≤ (c : Int) ∧ ((c : Int) : Int) < (ρ 0)) := by omega
  refine (ix_46 (S' := [(.inl 1)]) rfl (sh_208 hS) (c_isCloud_T hS ((u2_q (by decide)).trans (congrFun hM.1 _)) (by omega) hb7) rfl rfl (ex_if1 (fun _ => ?_) (fun hc => by exfalso; revert hc; decide)))
  refine (ex_4_2 (ex_29i 1 rfl rfl (ex_6_0 (ix_41r (sh_208 hS) (pt_208_3 hS) (ex_0 (ex_4_1 (ex_add ⟨by omega, by omega⟩ (ix_30 (j := (36 + c)) (v := (ρ (36 + c))) (sh_210 hS) (by omega) (by omega) (by omega) ((u2_q (by decide)).trans (congrFun hM.1 _)) ?_))))))))
  exact ex_53 rfl
theorem m_of_2 {d : Nat} {G : am_G} {I : Nat → Nat → Int} {P : Nat → Nat → Option Nat} (hS : ST G P) {ρ : Nat → Int} {n : Nat} {cl : Nat → Cl} (hM : ME I ρ n cl) {c : Nat} (hc : (c : Int) < ρ 0) : am_call am_B am_M (d + 8) 183 [(.inr (.inr (some 208))), (.inl (c : Int)), (.inl 2)] (G, I, P) = some (some (.inl (ρ (9 + c))), (G, am_u2 I 208 0 0, P)) := by
  have hM0 : ME (am_u2 I 208 0 0) ρ n cl := ⟨(u2_qf (by decide)).trans hM.1, hM.2.1, hM.2.2.1, (u2_k (by decide)).trans hM.2.2.2⟩
  have h0 := RW_n0 hM.2.1
  have h1 := RW_n1 hM.2.1
  refine am_doL (L := [some (.inr (.inr (some 208))), some (.inl (c : Int)), some (.inl 2)]) (Nat.le_of_ble_eq_true rfl) rfl ?_
  refine (ex_6_0 (ex_0 (ix_42i (sh_208 hS) (ex_6_0 (ex_4_1 ?_)))))
  have hb7 : ((0 : Int) ≤ (c : Int) ∧ ((c : Int) : Int) < (ρ 0)) := by omega
  refine (ix_46 (S' := [(.inl 1)]) rfl (sh_208 hS) (c_isCloud_T hS ((u2_q (by decide)).trans (congrFun hM.1 _)) (by omega) hb7) rfl rfl (ex_if1 (fun _ => ?_) (fun hc => by exfalso; revert hc; decide)))
  refine (ex_4_2 (ex_29i 2 rfl rfl (ex_6_0 (ix_41r (sh_208 hS) (pt_208_3 hS) (ex_0 (ex_4_1 (ex_add ⟨by omega, by omega⟩ (ix_30 (j := (9 + c)) (v := (ρ (9 + c))) (sh_210 hS) (by omega) (by omega) (by omega) ((u2_q (by decide)).trans (congrFun hM.1 _)) ?_))))))))
  exact ex_53 rfl
theorem m_of_o {d : Nat} {G : am_G} {I : Nat → Nat → Int} {P : Nat → Nat → Option Nat} (hS : ST G P) {ρ : Nat → Int} {n : Nat} {cl : Nat → Cl} (hM : ME I ρ n cl) {c : Nat} {w : Int} (hc : (c : Int) < ρ 0) (hw : ¬ (0 ≤ w ∧ w < 4)) : am_call am_B am_M (d + 8) 183 [(.inr (.inr (some 208))), (.inl (c : Int)), (.inl w)] (G, I, P) = some (some (.inl (-1)), (G, am_u2 I 208 0 0, P)) := by
  have hM0 : ME (am_u2 I 208 0 0) ρ n cl := ⟨(u2_qf (by decide)).trans hM.1, hM.2.1, hM.2.2.1, (u2_k (by decide)).trans hM.2.2.2⟩
  have h0 := RW_n0 hM.2.1
  have h1 := RW_n1 hM.2.1
  refine am_doL (L := [some (.inr (.inr (some 208))), some (.inl (c : Int)), some (.inl w)]) (Nat.le_of_ble_eq_true rfl) rfl ?_
  refine (ex_6_0 (ex_0 (ix_42i (sh_208 hS) (ex_6_0 (ex_4_1 ?_)))))
  have hb7 : ((0 : Int) ≤ (c : Int) ∧ ((c : Int) : Int) < (ρ 0)) := by omega
  refine (ix_46 (S' := [(.inl 1)]) rfl (sh_208 hS) (c_isCloud_T hS ((u2_q (by decide)).trans (congrFun hM.1 _)) (by omega) hb7) rfl rfl (ex_if1 (fun _ => ?_) (fun hc => by exfalso; revert hc; decide)))
  refine (ex_4_2 (ex_29o (by simp only [List.length_cons, List.length_nil]; omega) (ex_0 ?_)))
  exact ex_53 rfl
theorem m_of_3 {d : Nat} {G : am_G} {I : Nat → Nat → Int} {P : Nat → Nat → Option Nat} (hS : ST G P) {ρ : Nat → Int} {n : Nat} {cl : Nat → Cl} (hM : ME I ρ n cl) {c : Nat} (hc : (c : Int) < ρ 0) : ∃ I1, am_call am_B am_M (d + 8) 183 [(.inr (.inr (some 208))), (.inl (c : Int)), (.inl 3)] (G, I, P) = some (some (.inl (m_goes ρ n cl c)), (G, I1, P)) ∧ (TFt I I1) := by
  have hM0 : ME (am_u2 I 208 0 0) ρ n cl := ⟨(u2_qf (by decide)).trans hM.1, hM.2.1, hM.2.2.1, (u2_k (by decide)).trans hM.2.2.2⟩
  have h0 := RW_n0 hM.2.1
  have h1 := RW_n1 hM.2.1
  have w : am_ex (am_call am_B am_M (d + 7)) (am_B 183) (am_B 183 0) [some (.inr (.inr (some 208))), some (.inl (c : Int)), some (.inl 3)] [] (G, I, P) (fun o => ∃ I1, o = (some (.inl (m_goes ρ n cl c)), (G, I1, P)) ∧ (TFt I I1)) := by
    refine (ex_6_0 (ex_0 (ix_42i (sh_208 hS) (ex_6_0 (ex_4_1 ?_)))))
    have hb7 : ((0 : Int) ≤ (c : Int) ∧ ((c : Int) : Int) < (ρ 0)) := by omega
    refine (ix_46 (S' := [(.inl 1)]) rfl (sh_208 hS) (c_isCloud_T hS ((u2_q (by decide)).trans (congrFun hM.1 _)) (by omega) hb7) rfl rfl (ex_if1 (fun _ => ?_) (fun hc => by exfalso; revert hc; decide)))
    refine (ex_4_2 (ex_29i 3 rfl rfl (ex_6_0 (ex_4_1 ?_))))
    obtain ⟨K, eK, fK⟩ := c_goesTo (d := d) hS hM0 (c := c) (by omega)
    refine (ix_46 (S' := [(.inl (m_goes ρ n cl c))]) rfl (sh_208 hS) eK rfl rfl ?_)
    exact ex_53 ⟨_, rfl, TFt_th fK⟩
  obtain ⟨o, e, I1, rfl, h⟩ := am_doQ (as := [(.inr (.inr (some 208))), (.inl (c : Int)), (.inl 3)]) (Nat.le_of_ble_eq_true rfl) rfl w
  exact ⟨I1, e, h⟩
theorem m_asks_b {d : Nat} {G : am_G} {I : Nat → Nat → Int} {P : Nat → Nat → Option Nat} (hS : ST G P) {ρ : Nat → Int} {n : Nat} {cl : Nat → Cl} (hM : ME I ρ n cl) {c f w : Int} (hb : ¬ ((0 ≤ c ∧ c < ρ 0) ∧ (0 ≤ f ∧ f < ρ 1) ∧ (0 ≤ w ∧ w ≤ 2))) : am_call am_B am_M (d + 9) 186 [(.inr (.inr (some 208))), (.inl c), (.inl f), (.inl w)] (G, I, P) = some (some (.inl (-1)), (G, am_u2 I 208 0 0, P)) := by
  have hM0 : ME (am_u2 I 208 0 0) ρ n cl := ⟨(u2_qf (by decide)).trans hM.1, hM.2.1, hM.2.2.1, (u2_k (by decide)).trans hM.2.2.2⟩
  have h0 := RW_n0 hM.2.1
  have h1 := RW_n1 hM.2.1
  refine am_doL (L := [some (.inr (.inr (some 208))), some (.inl c), some (.inl f), some (.inl w)]) (Nat.le_of_ble_eq_true rfl) rfl ?_
  refine (ex_6_0 (ex_0 (ix_42i (sh_208 hS) (ex_6_0 (ex_4_1 ?_)))))
  by_cases hb7 : ((0 : Int) ≤ c ∧ (c : Int) < (ρ 0))
  · refine (ix_46 (S' := [(.inl 1)]) rfl (sh_208 hS) (c_isCloud_T hS ((u2_q (by decide)).trans (congrFun hM.1 _)) (by omega) hb7) rfl rfl (ex_if0 (fun hc => by exfalso; revert hc; decide) (fun _ => ?_)))
    refine (ex_6_0 (ex_4_2 ?_))
    by_cases hb15 : ((0 : Int) ≤ f ∧ (f : Int) < (ρ 1))
    · refine (ix_46 (S' := [(.inl 1)]) rfl (sh_208 hS) (c_isFolk_T hS ((u2_q (by decide)).trans (congrFun hM.1 _)) (by omega) hb15) rfl rfl (ex_if0 (fun hc => by exfalso; revert hc; decide) (fun _ => ?_)))
      refine (ex_4_3 (ex_19 (ex_1 (ex_1 ?_))))
      have hb27 : ¬ (((0 : Int) ≤ w ∧ (w : Int) ≤ 2)) := by omega
      refine (ix_45 (S' := [(.inl 0)]) rfl (c_in_f hb27) rfl rfl (ex_if1 (fun hc => by exfalso; revert hc; decide) (fun _ => ?_)))
      refine (ex_0 ?_)
      exact ex_53 rfl
    · refine (ix_46 (S' := [(.inl 0)]) rfl (sh_208 hS) (c_isFolk_F hS ((u2_q (by decide)).trans (congrFun hM.1 _)) (by omega) hb15) rfl rfl (ex_if0 (fun _ => ?_) (fun hc => by exfalso; revert hc; decide)))
      refine (ex_0 ?_)
      exact ex_53 rfl
  · refine (ix_46 (S' := [(.inl 0)]) rfl (sh_208 hS) (c_isCloud_F hS ((u2_q (by decide)).trans (congrFun hM.1 _)) (by omega) hb7) rfl rfl (ex_if0 (fun _ => ?_) (fun hc => by exfalso; revert hc; decide)))
    refine (ex_0 ?_)
    exact ex_53 rfl
theorem m_asks_0 {d : Nat} {G : am_G} {I : Nat → Nat → Int} {P : Nat → Nat → Option Nat} (hS : ST G P) {ρ : Nat → Int} {n : Nat} {cl : Nat → Cl} (hM : ME I ρ n cl) {c f : Nat} (hc : (c : Int) < ρ 0) (hf : (f : Int) < ρ 1) : ∃ I1, am_call am_B am_M (d + 9) 186 [(.inr (.inr (some 208))), (.inl (c : Int)), (.inl (f : Int)), (.inl 0)] (G, I, P) = some (some (.inl (m_told ρ n cl c f)), (G, I1, P)) ∧ (TFt I I1) := by
  have hM0 : ME (am_u2 I 208 0 0) ρ n cl := ⟨(u2_qf (by decide)).trans hM.1, hM.2.1, hM.2.2.1, (u2_k (by decide)).trans hM.2.2.2⟩
  have h0 := RW_n0 hM.2.1
  have h1 := RW_n1 hM.2.1
  have w : am_ex (am_call am_B am_M (d + 8)) (am_B 186) (am_B 186 0) [some (.inr (.inr (some 208))), some (.inl (c : Int)), some (.inl (f : Int)), some (.inl 0)] [] (G, I, P) (fun o => ∃ I1, o = (some (.inl (m_told ρ n cl c f)), (G, I1, P)) ∧ (TFt I I1)) := by
    refine (ex_6_0 (ex_0 (ix_42i (sh_208 hS) (ex_6_0 (ex_4_1 ?_)))))
    have hb7 : ((0 : Int) ≤ (c : Int) ∧ ((c : Int) : Int) < (ρ 0)) := by omega
    refine (ix_46 (S' := [(.inl 1)]) rfl (sh_208 hS) (c_isCloud_T hS ((u2_q (by decide)).trans (congrFun hM.1 _)) (by omega) hb7) rfl rfl (ex_if0 (fun hc => by exfalso; revert hc; decide) (fun _ => ?_)))
    refine (ex_6_0 (ex_4_2 ?_))
    have hb15 : ((0 : Int) ≤ (f : Int) ∧ ((f : Int) : Int) < (ρ 1)) := by omega
    refine (ix_46 (S' := [(.inl 1)]) rfl (sh_208 hS) (c_isFolk_T hS ((u2_q (by decide)).trans (congrFun hM.1 _)) (by omega) hb15) rfl rfl (ex_if0 (fun hc => by exfalso; revert hc; decide) (fun _ => ?_)))
    refine (ex_4_3 (ex_19 (ex_1 (ex_1 ?_))))
    have hb27 : ((0 : Int) ≤ 0 ∧ (0 : Int) ≤ 2) := by omega
    refine (ix_45 (S' := [(.inl 1)]) rfl (c_in_t hb27) rfl rfl (ex_if1 (fun _ => ?_) (fun hc => by exfalso; revert hc; decide)))
    refine (ex_4_3 (ex_if1 (fun hc => by exfalso; revert hc; decide) (fun _ => ?_)))
    refine (ex_6_0 (ex_4_1 (ex_4_2 ?_)))
    obtain ⟨K, eK, fK⟩ := c_toldBy (d := d + 1) hS hM0 (c := c) (f := f) (by omega) (by omega)
    refine (ix_46 (S' := [(.inl (m_told ρ n cl c f))]) rfl (sh_208 hS) eK rfl rfl (ex_28 ?_))
    exact ex_53 ⟨_, rfl, TFt_th fK⟩
  obtain ⟨o, e, I1, rfl, h⟩ := am_doQ (as := [(.inr (.inr (some 208))), (.inl (c : Int)), (.inl (f : Int)), (.inl 0)]) (Nat.le_of_ble_eq_true rfl) rfl w
  exact ⟨I1, e, h⟩
theorem m_asks_1 {d : Nat} {G : am_G} {I : Nat → Nat → Int} {P : Nat → Nat → Option Nat} (hS : ST G P) {ρ : Nat → Int} {n : Nat} {cl : Nat → Cl} (hM : ME I ρ n cl) {c f : Nat} (hc : (c : Int) < ρ 0) (hf : (f : Int) < ρ 1) : ∃ I1, am_call am_B am_M (d + 9) 186 [(.inr (.inr (some 208))), (.inl (c : Int)), (.inl (f : Int)), (.inl 1)] (G, I, P) = some (some (.inl (m_soak ρ n cl c f)), (G, I1, P)) ∧ (TFt I I1) := by
  have hM0 : ME (am_u2 I 208 0 0) ρ n cl := ⟨(u2_qf (by decide)).trans hM.1, hM.2.1, hM.2.2.1, (u2_k (by decide)).trans hM.2.2.2⟩
  have h0 := RW_n0 hM.2.1
  have h1 := RW_n1 hM.2.1
  have w : am_ex (am_call am_B am_M (d + 8)) (am_B 186) (am_B 186 0) [some (.inr (.inr (some 208))), some (.inl (c : Int)), some (.inl (f : Int)), some (.inl 1)] [] (G, I, P) (fun o => ∃ I1, o = (some (.inl (m_soak ρ n cl c f)), (G, I1, P)) ∧ (TFt I I1)) := by
    refine (ex_6_0 (ex_0 (ix_42i (sh_208 hS) (ex_6_0 (ex_4_1 ?_)))))
    have hb7 : ((0 : Int) ≤ (c : Int) ∧ ((c : Int) : Int) < (ρ 0)) := by omega
    refine (ix_46 (S' := [(.inl 1)]) rfl (sh_208 hS) (c_isCloud_T hS ((u2_q (by decide)).trans (congrFun hM.1 _)) (by omega) hb7) rfl rfl (ex_if0 (fun hc => by exfalso; revert hc; decide) (fun _ => ?_)))
    refine (ex_6_0 (ex_4_2 ?_))
    have hb15 : ((0 : Int) ≤ (f : Int) ∧ ((f : Int) : Int) < (ρ 1)) := by omega
    refine (ix_46 (S' := [(.inl 1)]) rfl (sh_208 hS) (c_isFolk_T hS ((u2_q (by decide)).trans (congrFun hM.1 _)) (by omega) hb15) rfl rfl (ex_if0 (fun hc => by exfalso; revert hc; decide) (fun _ => ?_)))
    refine (ex_4_3 (ex_19 (ex_1 (ex_1 ?_))))
    have hb27 : ((0 : Int) ≤ 1 ∧ (1 : Int) ≤ 2) := by omega
    refine (ix_45 (S' := [(.inl 1)]) rfl (c_in_t hb27) rfl rfl (ex_if1 (fun _ => ?_) (fun hc => by exfalso; revert hc; decide)))
    refine (ex_4_3 (ex_if1 (fun _ => ?_) (fun hc => by exfalso; revert hc; decide)))
    refine (ex_4_3 (ex_0 (ex_ic1 (fun hc => by exfalso; revert hc; decide) (fun _ => ?_))))
    refine (ex_6_0 (ex_4_1 (ex_4_2 ?_)))
    obtain ⟨K, eK, fK⟩ := c_soakedBy (d := d + 1) hS hM0 (c := c) (f := f) (by omega) (by omega)
    refine (ix_46 (S' := [(.inl (m_soak ρ n cl c f))]) rfl (sh_208 hS) eK rfl rfl (ex_28 ?_))
    exact ex_53 ⟨_, rfl, TFt_th fK⟩
  obtain ⟨o, e, I1, rfl, h⟩ := am_doQ (as := [(.inr (.inr (some 208))), (.inl (c : Int)), (.inl (f : Int)), (.inl 1)]) (Nat.le_of_ble_eq_true rfl) rfl w
  exact ⟨I1, e, h⟩
theorem m_asks_2f {d : Nat} {G : am_G} {I : Nat → Nat → Int} {P : Nat → Nat → Option Nat} (hS : ST G P) {ρ : Nat → Int} {n : Nat} {cl : Nat → Cl} (hM : ME I ρ n cl) {c f : Nat} (hc : (c : Int) < ρ 0) (hf : (f : Int) < ρ 1) (hcan : ¬ m_can ρ n cl c f) : ∃ I1, am_call am_B am_M (d + 9) 186 [(.inr (.inr (some 208))), (.inl (c : Int)), (.inl (f : Int)), (.inl 2)] (G, I, P) = some (some (.inl 0), (G, I1, P)) ∧ (TFt I I1) := by
  have hM0 : ME (am_u2 I 208 0 0) ρ n cl := ⟨(u2_qf (by decide)).trans hM.1, hM.2.1, hM.2.2.1, (u2_k (by decide)).trans hM.2.2.2⟩
  have h0 := RW_n0 hM.2.1
  have h1 := RW_n1 hM.2.1
  have w : am_ex (am_call am_B am_M (d + 8)) (am_B 186) (am_B 186 0) [some (.inr (.inr (some 208))), some (.inl (c : Int)), some (.inl (f : Int)), some (.inl 2)] [] (G, I, P) (fun o => ∃ I1, o = (some (.inl 0), (G, I1, P)) ∧ (TFt I I1)) := by
    refine (ex_6_0 (ex_0 (ix_42i (sh_208 hS) (ex_6_0 (ex_4_1 ?_)))))
    have hb7 : ((0 : Int) ≤ (c : Int) ∧ ((c : Int) : Int) < (ρ 0)) := by omega
    refine (ix_46 (S' := [(.inl 1)]) rfl (sh_208 hS) (c_isCloud_T hS ((u2_q (by decide)).trans (congrFun hM.1 _)) (by omega) hb7) rfl rfl (ex_if0 (fun hc => by exfalso; revert hc; decide) (fun _ => ?_)))
    refine (ex_6_0 (ex_4_2 ?_))
    have hb15 : ((0 : Int) ≤ (f : Int) ∧ ((f : Int) : Int) < (ρ 1)) := by omega
    refine (ix_46 (S' := [(.inl 1)]) rfl (sh_208 hS) (c_isFolk_T hS ((u2_q (by decide)).trans (congrFun hM.1 _)) (by omega) hb15) rfl rfl (ex_if0 (fun hc => by exfalso; revert hc; decide) (fun _ => ?_)))
    refine (ex_4_3 (ex_19 (ex_1 (ex_1 ?_))))
    have hb27 : ((0 : Int) ≤ 2 ∧ (2 : Int) ≤ 2) := by omega
    refine (ix_45 (S' := [(.inl 1)]) rfl (c_in_t hb27) rfl rfl (ex_if1 (fun _ => ?_) (fun hc => by exfalso; revert hc; decide)))
    refine (ex_4_3 (ex_if1 (fun _ => ?_) (fun hc => by exfalso; revert hc; decide)))
    refine (ex_4_3 (ex_0 (ex_ic1 (fun _ => ?_) (fun hc => by exfalso; revert hc; decide))))
    refine (ex_6_0 (ex_4_1 (ex_4_2 ?_)))
    obtain ⟨K, eK, fK⟩ := c_canRing_f (d := d) hS hM0 (c := c) (f := f) (by omega) (by omega) hcan
    refine (ix_46 (S' := [(.inl 0)]) rfl (sh_208 hS) eK rfl rfl (ex_if0 (fun _ => ?_) (fun hc => by exfalso; revert hc; decide)))
    refine (ex_0 (ex_58 ?_))
    exact ex_53 ⟨_, rfl, TFt_th fK⟩
  obtain ⟨o, e, I1, rfl, h⟩ := am_doQ (as := [(.inr (.inr (some 208))), (.inl (c : Int)), (.inl (f : Int)), (.inl 2)]) (Nat.le_of_ble_eq_true rfl) rfl w
  exact ⟨I1, e, h⟩
theorem m_asks_2t {d : Nat} {G : am_G} {I : Nat → Nat → Int} {P : Nat → Nat → Option Nat} (hS : ST G P) {ρ : Nat → Int} {n : Nat} {cl : Nat → Cl} (hM : ME I ρ n cl) {c f : Nat} (hc : (c : Int) < ρ 0) (hf : (f : Int) < ρ 1) (hcan : m_can ρ n cl c f) : ∃ I1, am_call am_B am_M (d + 9) 186 [(.inr (.inr (some 208))), (.inl (c : Int)), (.inl (f : Int)), (.inl 2)] (G, I, P) = some (some (.inl 1), (G, I1, P)) ∧ (TFt I I1) := by
  have hM0 : ME (am_u2 I 208 0 0) ρ n cl := ⟨(u2_qf (by decide)).trans hM.1, hM.2.1, hM.2.2.1, (u2_k (by decide)).trans hM.2.2.2⟩
  have h0 := RW_n0 hM.2.1
  have h1 := RW_n1 hM.2.1
  have w : am_ex (am_call am_B am_M (d + 8)) (am_B 186) (am_B 186 0) [some (.inr (.inr (some 208))), some (.inl (c : Int)), some (.inl (f : Int)), some (.inl 2)] [] (G, I, P) (fun o => ∃ I1, o = (some (.inl 1), (G, I1, P)) ∧ (TFt I I1)) := by
    refine (ex_6_0 (ex_0 (ix_42i (sh_208 hS) (ex_6_0 (ex_4_1 ?_)))))
    have hb7 : ((0 : Int) ≤ (c : Int) ∧ ((c : Int) : Int) < (ρ 0)) := by omega
    refine (ix_46 (S' := [(.inl 1)]) rfl (sh_208 hS) (c_isCloud_T hS ((u2_q (by decide)).trans (congrFun hM.1 _)) (by omega) hb7) rfl rfl (ex_if0 (fun hc => by exfalso; revert hc; decide) (fun _ => ?_)))
    refine (ex_6_0 (ex_4_2 ?_))
    have hb15 : ((0 : Int) ≤ (f : Int) ∧ ((f : Int) : Int) < (ρ 1)) := by omega
    refine (ix_46 (S' := [(.inl 1)]) rfl (sh_208 hS) (c_isFolk_T hS ((u2_q (by decide)).trans (congrFun hM.1 _)) (by omega) hb15) rfl rfl (ex_if0 (fun hc => by exfalso; revert hc; decide) (fun _ => ?_)))
    refine (ex_4_3 (ex_19 (ex_1 (ex_1 ?_))))
    have hb27 : ((0 : Int) ≤ 2 ∧ (2 : Int) ≤ 2) := by omega
    refine (ix_45 (S' := [(.inl 1)]) rfl (c_in_t hb27) rfl rfl (ex_if1 (fun _ => ?_) (fun hc => by exfalso; revert hc; decide)))
    refine (ex_4_3 (ex_if1 (fun _ => ?_) (fun hc => by exfalso; revert hc; decide)))
    refine (ex_4_3 (ex_0 (ex_ic1 (fun _ => ?_) (fun hc => by exfalso; revert hc; decide))))
    refine (ex_6_0 (ex_4_1 (ex_4_2 ?_)))
    obtain ⟨K, eK, fK⟩ := c_canRing_t (d := d) hS hM0 (c := c) (f := f) (by omega) (by omega) hcan
    refine (ix_46 (S' := [(.inl 1)]) rfl (sh_208 hS) eK rfl rfl (ex_if0 (fun hc => by exfalso; revert hc; decide) (fun _ => ?_)))
    refine (ex_0 (ex_28 ?_))
    exact ex_53 ⟨_, rfl, TFt_th fK⟩
  obtain ⟨o, e, I1, rfl, h⟩ := am_doQ (as := [(.inr (.inr (some 208))), (.inl (c : Int)), (.inl (f : Int)), (.inl 2)]) (Nat.le_of_ble_eq_true rfl) rfl w
  exact ⟨I1, e, h⟩
theorem m_ring_n {d : Nat} {G : am_G} {I : Nat → Nat → Int} {P : Nat → Nat → Option Nat} (hS : ST G P) {ρ : Nat → Int} {n : Nat} {cl : Nat → Cl} (hM : ME I ρ n cl) {c f : Int} (hb : ¬ ((0 ≤ c ∧ c < ρ 0) ∧ (0 ≤ f ∧ f < ρ 1))) (hR : 0 ≤ I 209 2 ∧ I 209 2 ≤ 1000000) : ∃ I1, am_call am_B am_M (d + 10) 239 [(.inr (.inr (some 208))), (.inl c), (.inl f)] (G, I, P) = some (some (.inl (-2)), (G, I1, P)) ∧ (RFm 2 I I1) := by
  have hM0 : ME (am_u2 I 208 0 0) ρ n cl := ⟨(u2_qf (by decide)).trans hM.1, hM.2.1, hM.2.2.1, (u2_k (by decide)).trans hM.2.2.2⟩
  have h0 := RW_n0 hM.2.1
  have h1 := RW_n1 hM.2.1
  have w : am_ex (am_call am_B am_M (d + 9)) (am_B 239) (am_B 239 0) [some (.inr (.inr (some 208))), some (.inl c), some (.inl f)] [] (G, I, P) (fun o => ∃ I1, o = (some (.inl (-2)), (G, I1, P)) ∧ (RFm 2 I I1)) := by
    refine (ex_6_0 (ex_0 (ix_42i (sh_208 hS) (ex_6_0 (ex_6_0 (ex_4_1 (ex_4_2 (ix_46 (S' := [(.inl (-2)), (.inr (.inr (some 208)))]) rfl (sh_208 hS) (c_ringNow_n hS hM0 hb) rfl rfl (ix_46 (S' := [(.inl (-2))]) rfl (sh_208 hS) (c_tell_c hS (k := 2) (x := I 209 2) (by decide) (by decide) (u2_q (by decide)) hR) rfl rfl ?_)))))))))
    exact ex_53 ⟨_, rfl, RFm_TF TF_refl⟩
  obtain ⟨o, e, I1, rfl, h⟩ := am_doQ (as := [(.inr (.inr (some 208))), (.inl c), (.inl f)]) (Nat.le_of_ble_eq_true rfl) rfl w
  exact ⟨I1, e, h⟩
theorem m_ring_c {d : Nat} {G : am_G} {I : Nat → Nat → Int} {P : Nat → Nat → Option Nat} (hS : ST G P) {ρ : Nat → Int} {n : Nat} {cl : Nat → Cl} (hM : ME I ρ n cl) {c f : Nat} (hc0 : (c : Int) < ρ 0) (hf0 : (f : Int) < ρ 1) (hcan : ¬ m_can ρ n cl c f) (hR : 0 ≤ I 209 3 ∧ I 209 3 ≤ 1000000) : ∃ I1, am_call am_B am_M (d + 10) 239 [(.inr (.inr (some 208))), (.inl (c : Int)), (.inl (f : Int))] (G, I, P) = some (some (.inl (-3)), (G, I1, P)) ∧ (RFm 3 I I1) := by
  have hM0 : ME (am_u2 I 208 0 0) ρ n cl := ⟨(u2_qf (by decide)).trans hM.1, hM.2.1, hM.2.2.1, (u2_k (by decide)).trans hM.2.2.2⟩
  have h0 := RW_n0 hM.2.1
  have h1 := RW_n1 hM.2.1
  have w : am_ex (am_call am_B am_M (d + 9)) (am_B 239) (am_B 239 0) [some (.inr (.inr (some 208))), some (.inl (c : Int)), some (.inl (f : Int))] [] (G, I, P) (fun o => ∃ I1, o = (some (.inl (-3)), (G, I1, P)) ∧ (RFm 3 I I1)) := by
    refine (ex_6_0 (ex_0 (ix_42i (sh_208 hS) (ex_6_0 (ex_6_0 (ex_4_1 (ex_4_2 ?_)))))))
    obtain ⟨K, eK, fK⟩ := c_ringNow_c (d := d) hS hM0 hc0 hf0 hcan
    refine (ix_46 (S' := [(.inl (-3)), (.inr (.inr (some 208)))]) rfl (sh_208 hS) eK rfl rfl (ix_46 (S' := [(.inl (-3))]) rfl (sh_208 hS) (c_tell_c hS (k := 3) (x := I 209 3) (by decide) (by decide) ((fK _ _ (by decide) (by decide) (by decide)).trans (u2_q (by decide))) hR) rfl rfl ?_))
    exact ex_53 ⟨_, rfl, RFm_TF fK⟩
  obtain ⟨o, e, I1, rfl, h⟩ := am_doQ (as := [(.inr (.inr (some 208))), (.inl (c : Int)), (.inl (f : Int))]) (Nat.le_of_ble_eq_true rfl) rfl w
  exact ⟨I1, e, h⟩
theorem m_ring {d : Nat} {G : am_G} {I : Nat → Nat → Int} {P : Nat → Nat → Option Nat} (hS : ST G P) {ρ : Nat → Int} {n : Nat} {cl : Nat → Cl} (hM : ME I ρ n cl) {c f : Nat} (hc0 : (c : Int) < ρ 0) (hf0 : (f : Int) < ρ 1) {u : Nat} (hu : I 208 8 = (u : Int)) (hu16 : u ≤ 16) (hcan : m_can ρ n cl c f) : ∃ I1, am_call am_B am_M (d + 10) 239 [(.inr (.inr (some 208))), (.inl (c : Int)), (.inl (f : Int))] (G, I, P) = some (some (.inl (m_ringv ρ n cl c f)), (G, I1, P)) ∧ (DONm I ρ (m_ringr ρ n cl c f) u 0 I1) := by
  have hM0 : ME (am_u2 I 208 0 0) ρ n cl := ⟨(u2_qf (by decide)).trans hM.1, hM.2.1, hM.2.2.1, (u2_k (by decide)).trans hM.2.2.2⟩
  have h0 := RW_n0 hM.2.1
  have h1 := RW_n1 hM.2.1
  have hvp := (m_ringv_b (ρ := ρ) (n := n) (cl := cl) (c := c) (f := f)).1
  have w : am_ex (am_call am_B am_M (d + 9)) (am_B 239) (am_B 239 0) [some (.inr (.inr (some 208))), some (.inl (c : Int)), some (.inl (f : Int))] [] (G, I, P) (fun o => ∃ I1, o = (some (.inl (m_ringv ρ n cl c f)), (G, I1, P)) ∧ (DONm I ρ (m_ringr ρ n cl c f) u 0 I1)) := by
    refine (ex_6_0 (ex_0 (ix_42i (sh_208 hS) (ex_6_0 (ex_6_0 (ex_4_1 (ex_4_2 ?_)))))))
    obtain ⟨K, eK, fK⟩ := c_ringNow (d := d) hS hM0 hc0 hf0 (hu := (u2_k (by decide)).trans hu) hu16 hcan
    refine (ix_46 (S' := [(.inl (m_ringv ρ n cl c f)), (.inr (.inr (some 208)))]) rfl (sh_208 hS) eK rfl rfl (ix_46 (S' := [(.inl (m_ringv ρ n cl c f))]) rfl (sh_208 hS) (c_tell_p hS hvp) rfl rfl ?_))
    exact ex_53 ⟨_, rfl, DON_tell fK⟩
  obtain ⟨o, e, I1, rfl, h⟩ := am_doQ (as := [(.inr (.inr (some 208))), (.inl (c : Int)), (.inl (f : Int))]) (Nat.le_of_ble_eq_true rfl) rfl w
  exact ⟨I1, e, h⟩
theorem m_engage_n {d : Nat} {G : am_G} {I : Nat → Nat → Int} {P : Nat → Nat → Option Nat} (hS : ST G P) {ρ : Nat → Int} {n : Nat} {cl : Nat → Cl} (hM : ME I ρ n cl) {f : Int} (hb : ¬ (0 ≤ f ∧ f < ρ 1)) (hR : 0 ≤ I 209 2 ∧ I 209 2 ≤ 1000000) : ∃ I1, am_call am_B am_M (d + 4) 241 [(.inr (.inr (some 208))), (.inl f)] (G, I, P) = some (some (.inl (-2)), (G, I1, P)) ∧ (RFm 2 I I1) := by
  have hM0 : ME (am_u2 I 208 0 0) ρ n cl := ⟨(u2_qf (by decide)).trans hM.1, hM.2.1, hM.2.2.1, (u2_k (by decide)).trans hM.2.2.2⟩
  have h0 := RW_n0 hM.2.1
  have h1 := RW_n1 hM.2.1
  have w : am_ex (am_call am_B am_M (d + 3)) (am_B 241) (am_B 241 0) [some (.inr (.inr (some 208))), some (.inl f)] [] (G, I, P) (fun o => ∃ I1, o = (some (.inl (-2)), (G, I1, P)) ∧ (RFm 2 I I1)) := by
    refine (ex_6_0 (ex_0 (ix_42i (sh_208 hS) (ex_6_0 (ex_6_0 (ex_4_1 (ix_46 (S' := [(.inl (-2)), (.inr (.inr (some 208)))]) rfl (sh_208 hS) (c_engageNow_n hS hM0 hb) rfl rfl (ix_46 (S' := [(.inl (-2))]) rfl (sh_208 hS) (c_tell_c hS (k := 2) (x := I 209 2) (by decide) (by decide) (u2_q (by decide)) hR) rfl rfl ?_))))))))
    exact ex_53 ⟨_, rfl, RFm_TF TF_refl⟩
  obtain ⟨o, e, I1, rfl, h⟩ := am_doQ (as := [(.inr (.inr (some 208))), (.inl f)]) (Nat.le_of_ble_eq_true rfl) rfl w
  exact ⟨I1, e, h⟩
theorem m_engage {d : Nat} {G : am_G} {I : Nat → Nat → Int} {P : Nat → Nat → Option Nat} (hS : ST G P) {ρ : Nat → Int} {n : Nat} {cl : Nat → Cl} (hM : ME I ρ n cl) {f : Nat} (hf0 : (f : Int) < ρ 1) {u : Nat} (hu : I 208 8 = (u : Int)) (hu16 : u ≤ 16) : ∃ I1, am_call am_B am_M (d + 4) 241 [(.inr (.inr (some 208))), (.inl (f : Int))] (G, I, P) = some (some (.inl (1 - ρ (15 + f))), (G, I1, P)) ∧ (DONm I ρ (am_u1 ρ (15 + f) (1 - ρ (15 + f))) u 1 I1) := by
  have hM0 : ME (am_u2 I 208 0 0) ρ n cl := ⟨(u2_qf (by decide)).trans hM.1, hM.2.1, hM.2.2.1, (u2_k (by decide)).trans hM.2.2.2⟩
  have h0 := RW_n0 hM.2.1
  have h1 := RW_n1 hM.2.1
  have hvp : 0 ≤ 1 - ρ (15 + f) := by have := RW_en hM.2.1 f (by omega); omega
  have w : am_ex (am_call am_B am_M (d + 3)) (am_B 241) (am_B 241 0) [some (.inr (.inr (some 208))), some (.inl (f : Int))] [] (G, I, P) (fun o => ∃ I1, o = (some (.inl (1 - ρ (15 + f))), (G, I1, P)) ∧ (DONm I ρ (am_u1 ρ (15 + f) (1 - ρ (15 + f))) u 1 I1)) := by
    refine (ex_6_0 (ex_0 (ix_42i (sh_208 hS) (ex_6_0 (ex_6_0 (ex_4_1 ?_))))))
    obtain ⟨K, eK, fK⟩ := c_engageNow (d := d) hS hM0 hf0 (hu := (u2_k (by decide)).trans hu) hu16
    refine (ix_46 (S' := [(.inl (1 - ρ (15 + f))), (.inr (.inr (some 208)))]) rfl (sh_208 hS) eK rfl rfl (ix_46 (S' := [(.inl (1 - ρ (15 + f)))]) rfl (sh_208 hS) (c_tell_p hS hvp) rfl rfl ?_))
    exact ex_53 ⟨_, rfl, DON_tell fK⟩
  obtain ⟨o, e, I1, rfl, h⟩ := am_doQ (as := [(.inr (.inr (some 208))), (.inl (f : Int))]) (Nat.le_of_ble_eq_true rfl) rfl w
  exact ⟨I1, e, h⟩
theorem m_smash_n {d : Nat} {G : am_G} {I : Nat → Nat → Int} {P : Nat → Nat → Option Nat} (hS : ST G P) {ρ : Nat → Int} {n : Nat} {cl : Nat → Cl} (hM : ME I ρ n cl) {b : Int} (hb : ¬ (0 ≤ b ∧ b < 6)) (hR : 0 ≤ I 209 1 ∧ I 209 1 ≤ 1000000) : ∃ I1, am_call am_B am_M (d + 4) 243 [(.inr (.inr (some 208))), (.inl b)] (G, I, P) = some (some (.inl (-1)), (G, I1, P)) ∧ (RFm 1 I I1) := by
  have hM0 : ME (am_u2 I 208 0 0) ρ n cl := ⟨(u2_qf (by decide)).trans hM.1, hM.2.1, hM.2.2.1, (u2_k (by decide)).trans hM.2.2.2⟩
  have h0 := RW_n0 hM.2.1
  have h1 := RW_n1 hM.2.1
  have w : am_ex (am_call am_B am_M (d + 3)) (am_B 243) (am_B 243 0) [some (.inr (.inr (some 208))), some (.inl b)] [] (G, I, P) (fun o => ∃ I1, o = (some (.inl (-1)), (G, I1, P)) ∧ (RFm 1 I I1)) := by
    refine (ex_6_0 (ex_0 (ix_42i (sh_208 hS) (ex_6_0 (ex_6_0 (ex_4_1 (ix_46 (S' := [(.inl (-1)), (.inr (.inr (some 208)))]) rfl (sh_208 hS) (c_smashNow_n hb) rfl rfl (ix_46 (S' := [(.inl (-1))]) rfl (sh_208 hS) (c_tell_c hS (k := 1) (x := I 209 1) (by decide) (by decide) (u2_q (by decide)) hR) rfl rfl ?_))))))))
    exact ex_53 ⟨_, rfl, RFm_TF TF_refl⟩
  obtain ⟨o, e, I1, rfl, h⟩ := am_doQ (as := [(.inr (.inr (some 208))), (.inl b)]) (Nat.le_of_ble_eq_true rfl) rfl w
  exact ⟨I1, e, h⟩
theorem m_smash {d : Nat} {G : am_G} {I : Nat → Nat → Int} {P : Nat → Nat → Option Nat} (hS : ST G P) {ρ : Nat → Int} {n : Nat} {cl : Nat → Cl} (hM : ME I ρ n cl) {b : Nat} (hb : b < 6) {u : Nat} (hu : I 208 8 = (u : Int)) (hu16 : u ≤ 16) : ∃ I1, am_call am_B am_M (d + 4) 243 [(.inr (.inr (some 208))), (.inl (b : Int))] (G, I, P) = some (some (.inl ((((ρ 8).toNat ^^^ 2 ^ b) >>> b &&& 1 : Nat) : Int)), (G, I1, P)) ∧ (DONm I ρ (am_u1 ρ 8 (((ρ 8).toNat ^^^ 2 ^ b : Nat) : Int)) u 2 I1) := by
  have hM0 : ME (am_u2 I 208 0 0) ρ n cl := ⟨(u2_qf (by decide)).trans hM.1, hM.2.1, hM.2.2.1, (u2_k (by decide)).trans hM.2.2.2⟩
  have h0 := RW_n0 hM.2.1
  have h1 := RW_n1 hM.2.1
  have hvp : 0 ≤ ((((ρ 8).toNat ^^^ 2 ^ b) >>> b &&& 1 : Nat) : Int) := Int.natCast_nonneg _
  have w : am_ex (am_call am_B am_M (d + 3)) (am_B 243) (am_B 243 0) [some (.inr (.inr (some 208))), some (.inl (b : Int))] [] (G, I, P) (fun o => ∃ I1, o = (some (.inl ((((ρ 8).toNat ^^^ 2 ^ b) >>> b &&& 1 : Nat) : Int)), (G, I1, P)) ∧ (DONm I ρ (am_u1 ρ 8 (((ρ 8).toNat ^^^ 2 ^ b : Nat) : Int)) u 2 I1)) := by
    refine (ex_6_0 (ex_0 (ix_42i (sh_208 hS) (ex_6_0 (ex_6_0 (ex_4_1 ?_))))))
    obtain ⟨K, eK, fK⟩ := c_smashNow (d := d) hS hM0 hb (hu := (u2_k (by decide)).trans hu) hu16
    refine (ix_46 (S' := [(.inl ((((ρ 8).toNat ^^^ 2 ^ b) >>> b &&& 1 : Nat) : Int)), (.inr (.inr (some 208)))]) rfl (sh_208 hS) eK rfl rfl (ix_46 (S' := [(.inl ((((ρ 8).toNat ^^^ 2 ^ b) >>> b &&& 1 : Nat) : Int))]) rfl (sh_208 hS) (c_tell_p hS hvp) rfl rfl ?_))
    exact ex_53 ⟨_, rfl, DON_tell fK⟩
  obtain ⟨o, e, I1, rfl, h⟩ := am_doQ (as := [(.inr (.inr (some 208))), (.inl (b : Int))]) (Nat.le_of_ble_eq_true rfl) rfl w
  exact ⟨I1, e, h⟩
theorem c_passNow_n {d : Nat} {G : am_G} {I : Nat → Nat → Int} {P : Nat → Nat → Option Nat} (hS : ST G P) {ρ : Nat → Int} {n : Nat} {cl : Nat → Cl} (hM : ME I ρ n cl) (h9 : ρ 5 = 999) : am_call am_B am_M (d + 9) 245 [(.inr (.inr (some 208)))] (G, I, P) = some (some (.inl (-3)), (G, I, P)) := by
  refine am_doL (L := [some (.inr (.inr (some 208)))]) (Nat.le_of_ble_eq_true rfl) rfl ?_
  refine (ex_6_0 (ix_41r (sh_208 hS) (pt_208_3 hS) (ex_0 (ix_30 (j := 5) (v := 999) (sh_210 hS) (by decide) (by decide) rfl ((congrFun hM.1 _).trans h9) (ex_0 (ex_ic1 (fun hc => by exfalso; revert hc; decide) (fun _ => ?_)))))))
  refine (ex_0 ?_)
  exact ex_53 rfl
theorem c_passNow {d : Nat} {G : am_G} {I : Nat → Nat → Int} {P : Nat → Nat → Option Nat} (hS : ST G P) {ρ : Nat → Int} {n : Nat} {cl : Nat → Cl} (hM : ME I ρ n cl) (h9 : ¬ ρ 5 = 999) {u : Nat} (hu : I 208 8 = (u : Int)) (hu16 : u ≤ 16) : ∃ I1, am_call am_B am_M (d + 9) 245 [(.inr (.inr (some 208)))] (G, I, P) = some (some (.inl (m_pass ρ n cl 5)), (G, I1, P)) ∧ (DONE I ρ (m_pass ρ n cl) u 3 I1) := by
  have w : am_ex (am_call am_B am_M (d + 8)) (am_B 245) (am_B 245 0) [some (.inr (.inr (some 208)))] [] (G, I, P) (fun o => ∃ I1, o = (some (.inl (m_pass ρ n cl 5)), (G, I1, P)) ∧ (DONE I ρ (m_pass ρ n cl) u 3 I1)) := by
    refine (ex_6_0 (ix_41r (sh_208 hS) (pt_208_3 hS) (ex_0 (ix_30 (j := 5) (v := (ρ 5)) (sh_210 hS) (by decide) (by decide) rfl (congrFun hM.1 _) (ex_0 ?_)))))
    refine ex_ic1 (fun hc9 => ?_) (fun hc9 => by exfalso; omega)
    refine (ex_6_0 (ex_0 ?_))
    obtain ⟨R17, eR17, u17, s17, n17, fR17⟩ := c_rem (d := d + 6) (G := G) (P := P) (I := I) (v := 3) hS (u := u) hu hu16
    refine (ix_46 (S' := []) rfl (sh_208 hS) eR17 rfl rfl (ex_6_0 ?_))
    have hM2 : ME R17 ρ n cl := ⟨(funext fun k => fR17 210 k (by decide) (by decide) (by omega)).trans hM.1, hM.2.1, hM.2.2.1, (fR17 208 20 (by decide) (by decide) (by decide)).trans hM.2.2.2⟩
    obtain ⟨L21, e21, r21, d21⟩ := c_passIt (d := d) (G := G) (P := P) hS hM2
    refine (ix_46 (S' := []) rfl (sh_208 hS) e21 rfl rfl (ex_6_0 (ix_41r (sh_208 hS) (pt_208_3 hS) (ex_0 (ix_30 (j := 5) (v := (m_pass ρ n cl 5)) (sh_210 hS) (by decide) (by decide) rfl (congrFun r21 _) ?_)))))
    exact ex_53 ⟨L21, rfl, r21, (funext fun k => d21 213 k (by decide) (by decide) (by decide) (by decide) (by omega)).trans (u17.trans (by rw [hM.1])), (funext fun k => d21 214 k (by decide) (by decide) (by decide) (by decide) (by omega)).trans s17, (d21 208 8 (by decide) (by decide) (by decide) (by decide) (by decide)).trans n17, fun q k h1 h2 h3 h4 h5 h6 h7 => (d21 q k h1 h2 h3 h6 (by omega)).trans (fR17 q k h4 h5 (by omega))⟩
  obtain ⟨o, e, I1, rfl, h⟩ := am_doQ (as := [(.inr (.inr (some 208)))]) (Nat.le_of_ble_eq_true rfl) rfl w
  exact ⟨I1, e, h⟩
theorem m_pass_n {d : Nat} {G : am_G} {I : Nat → Nat → Int} {P : Nat → Nat → Option Nat} (hS : ST G P) {ρ : Nat → Int} {n : Nat} {cl : Nat → Cl} (hM : ME I ρ n cl) (h9 : ρ 5 = 999) (hR : 0 ≤ I 209 3 ∧ I 209 3 ≤ 1000000) : ∃ I1, am_call am_B am_M (d + 10) 246 [(.inr (.inr (some 208)))] (G, I, P) = some (some (.inl (-3)), (G, I1, P)) ∧ (RFm 3 I I1) := by
  have hM0 : ME (am_u2 I 208 0 0) ρ n cl := ⟨(u2_qf (by decide)).trans hM.1, hM.2.1, hM.2.2.1, (u2_k (by decide)).trans hM.2.2.2⟩
  have h0 := RW_n0 hM.2.1
  have h1 := RW_n1 hM.2.1
  have w : am_ex (am_call am_B am_M (d + 9)) (am_B 246) (am_B 246 0) [some (.inr (.inr (some 208)))] [] (G, I, P) (fun o => ∃ I1, o = (some (.inl (-3)), (G, I1, P)) ∧ (RFm 3 I I1)) := by
    refine (ex_6_0 (ex_0 (ix_42i (sh_208 hS) (ex_6_0 (ex_6_0 (ix_46 (S' := [(.inl (-3)), (.inr (.inr (some 208)))]) rfl (sh_208 hS) (c_passNow_n hS hM0 h9) rfl rfl (ix_46 (S' := [(.inl (-3))]) rfl (sh_208 hS) (c_tell_c hS (k := 3) (x := I 209 3) (by decide) (by decide) (u2_q (by decide)) hR) rfl rfl ?_)))))))
    exact ex_53 ⟨_, rfl, RFm_TF TF_refl⟩
  obtain ⟨o, e, I1, rfl, h⟩ := am_doQ (as := [(.inr (.inr (some 208)))]) (Nat.le_of_ble_eq_true rfl) rfl w
  exact ⟨I1, e, h⟩
theorem m_pass_c {d : Nat} {G : am_G} {I : Nat → Nat → Int} {P : Nat → Nat → Option Nat} (hS : ST G P) {ρ : Nat → Int} {n : Nat} {cl : Nat → Cl} (hM : ME I ρ n cl) (h9 : ¬ ρ 5 = 999) {u : Nat} (hu : I 208 8 = (u : Int)) (hu16 : u ≤ 16) : ∃ I1, am_call am_B am_M (d + 10) 246 [(.inr (.inr (some 208)))] (G, I, P) = some (some (.inl (m_pass ρ n cl 5)), (G, I1, P)) ∧ (DONm I ρ (m_pass ρ n cl) u 3 I1) := by
  have hM0 : ME (am_u2 I 208 0 0) ρ n cl := ⟨(u2_qf (by decide)).trans hM.1, hM.2.1, hM.2.2.1, (u2_k (by decide)).trans hM.2.2.2⟩
  have h0 := RW_n0 hM.2.1
  have h1 := RW_n1 hM.2.1
  have hvp : 0 ≤ m_pass ρ n cl 5 := by rw [m_pass_5]; have := RW_ni hM.2.1; omega
  have w : am_ex (am_call am_B am_M (d + 9)) (am_B 246) (am_B 246 0) [some (.inr (.inr (some 208)))] [] (G, I, P) (fun o => ∃ I1, o = (some (.inl (m_pass ρ n cl 5)), (G, I1, P)) ∧ (DONm I ρ (m_pass ρ n cl) u 3 I1)) := by
    refine (ex_6_0 (ex_0 (ix_42i (sh_208 hS) (ex_6_0 (ex_6_0 ?_)))))
    obtain ⟨K, eK, fK⟩ := c_passNow (d := d) hS hM0 h9 (hu := (u2_k (by decide)).trans hu) hu16
    refine (ix_46 (S' := [(.inl (m_pass ρ n cl 5)), (.inr (.inr (some 208)))]) rfl (sh_208 hS) eK rfl rfl (ix_46 (S' := [(.inl (m_pass ρ n cl 5))]) rfl (sh_208 hS) (c_tell_p hS hvp) rfl rfl ?_))
    exact ex_53 ⟨_, rfl, DON_tell fK⟩
  obtain ⟨o, e, I1, rfl, h⟩ := am_doQ (as := [(.inr (.inr (some 208)))]) (Nat.le_of_ble_eq_true rfl) rfl w
  exact ⟨I1, e, h⟩
