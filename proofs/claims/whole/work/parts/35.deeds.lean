/-! ===== the reference: what is done (ring, engage, smash, pass) ===== -/
def rem_n (u : Nat) : Nat := if u = 16 then 16 else u + 1
def rem_u (ρ un : Nat → Int) (u : Nat) : Nat → Int := if u = 16 then am_cp ρ (am_cp un un 25 0 375) 5 375 25 else am_cp ρ un 5 (25 * u) 25
def rem_s (so : Nat → Int) (u : Nat) (v : Int) : Nat → Int := if u = 16 then am_u1 (am_cp so so 1 0 15) 15 v else am_u1 so u v
theorem c_rem {d : Nat} {G : am_G} {I : Nat → Nat → Int} {P : Nat → Nat → Option Nat} (hS : ST G P) {u : Nat} {v : Int} (hu : I 208 8 = (u : Int)) (hl : u ≤ 16) : ∃ I1, am_call am_B am_M (d + 2) 170 [.inr (.inr (some 208)), .inl v] (G, I, P) = some (none, (G, I1, P)) ∧ I1 213 = rem_u (I 210) (I 213) u ∧ I1 214 = rem_s (I 214) u v ∧ I1 208 8 = (rem_n u : Int) ∧ (∀ q k, ¬ q = 213 → ¬ q = 214 → ¬ (q = 208 ∧ k = 8) → I1 q k = I q k) := by
  by_cases h : u = 16
  · subst h
    refine ⟨_, c_remember_f hS hu, ?_, ?_, u2_e, fun q k h1 h2 h3 => ?_⟩
    · rw [u2_qf (by decide), u2_qf (by decide), u1_e, u2_qf (by decide), u2_qf (by decide), u1_q (by decide), u1_q (by decide), u1_q (by decide), u1_e]
      rfl
    · rw [u2_qf (by decide)]
      funext j
      rw [u2_at, u1_q (by decide), u2_qf (by decide), u1_e, u1_q (by decide)]
      rfl
    · by_cases hq : q = 208
      · subst hq
        rw [u2_k (by omega), u2_q h2, u1_q (by decide), u2_k (by omega), u1_q (by decide), u1_q (by decide)]
      · rw [u2_q hq, u2_q h2, u1_q h1, u2_q hq, u1_q h2, u1_q h1]
  · refine ⟨_, c_remember_l hS hu (by omega), ?_, ?_, ?_, fun q k h1 h2 h3 => ?_⟩
    · rw [u2_qf (by decide), u2_qf (by decide), u1_e]
      unfold rem_u; rw [if_neg h]
    · rw [u2_qf (by decide)]
      funext j
      rw [u2_at, u1_q (by decide)]
      unfold rem_s; rw [if_neg h]; rfl
    · rw [u2_e]; unfold rem_n; rw [if_neg h]; omega
    · by_cases hq : q = 208
      · subst hq
        rw [u2_k (by omega), u2_q h2, u1_q (by decide)]
      · rw [u2_q hq, u2_q h2, u1_q h1]
/-- all but the row, what is remembered and the places where sums are worked out -/
def RF (I J : Nat → Nat → Int) : Prop := ∀ q k, ¬ q = 228 → ¬ q = 226 → ¬ q = 210 → ¬ (q = 208 ∧ (k = 34 ∨ k = 38 ∨ k = 39 ∨ k = 40)) → J q k = I q k
def DF (I J : Nat → Nat → Int) : Prop := ∀ q k, ¬ q = 228 → ¬ q = 226 → ¬ q = 210 → ¬ q = 213 → ¬ q = 214 → ¬ q = 229 → ¬ (q = 208 ∧ (k = 8 ∨ k = 34 ∨ k = 38 ∨ k = 39 ∨ k = 40)) → J q k = I q k
theorem c_ringIt_0 {d : Nat} {G : am_G} {I : Nat → Nat → Int} {P : Nat → Nat → Option Nat} (hS : ST G P) {ρ : Nat → Int} {n : Nat} {cl : Nat → Cl} (hM : ME I ρ n cl) {c f : Nat} (hc : c < 6) (hf : f < 5) (he : ρ (15 + f) = 0) : ∃ I1, am_call am_B am_M (d + 8) 237 [(.inr (.inr (some 208))), (.inl (c : Int)), (.inl (f : Int))] (G, I, P) = some (some (.inl (m_told ρ n cl c f)), (G, I1, P)) ∧ (I1 210 = am_u1 ρ (25 + f) (m_within (ρ (25 + f) + (m_told ρ n cl c f)) 0 999) ∧ RF I I1) := by
  have hh := RW_kn hM.2.1 f hf
  have hvb := m_told_b (ρ := ρ) (n := n) (cl := cl) (c := c) (f := f)
  have w : am_ex (am_call am_B am_M (d + 7)) (am_B 237) (am_B 237 0) [some (.inr (.inr (some 208))), some (.inl (c : Int)), some (.inl (f : Int)), none, none] [] (G, I, P) (fun o => ∃ I1, o = (some (.inl (m_told ρ n cl c f)), (G, I1, P)) ∧ (I1 210 = am_u1 ρ (25 + f) (m_within (ρ (25 + f) + (m_told ρ n cl c f)) 0 999) ∧ RF I I1)) := by
    refine (ex_6_0 (ix_41r (sh_208 hS) (pt_208_3 hS) (ex_0 (ex_4_2 (ex_add ⟨by omega, by omega⟩ (ix_30 (j := (15 + f)) (sh_210 hS) (by omega) (by omega) (by omega) ((congrFun hM.1 _).trans he) (ex_0 (ex_ic1 (fun _ => ?_) (fun hc => by exfalso; revert hc; decide)))))))))
    refine (ex_0 (ex_4_2 (ex_add ⟨by omega, by omega⟩ (ex_58 (ex_7_3 rfl (ex_6_0 (ix_41r (sh_208 hS) (pt_208_3 hS) (ex_0 (ex_4_2 (ex_add ⟨by omega, by omega⟩ (ix_30 (j := (15 + f)) (sh_210 hS) (by omega) (by omega) (by omega) ((congrFun hM.1 _).trans he) (ex_0 (ex_ic1 (fun _ => ?_) (fun hc => by exfalso; revert hc; decide))))))))))))))
    refine (ex_6_0 (ex_4_1 (ex_4_2 ?_)))
    obtain ⟨J50, e50, f50⟩ := c_toldBy (d := d) hS hM hc hf
    refine (ix_46 (S' := [(.inl (m_told ρ n cl c f))]) rfl (sh_208 hS) e50 rfl rfl (ex_58 (ex_7_4 rfl (ex_6_0 (ix_41r (sh_208 hS) (pt_208_3 hS) (ex_4_3 (ex_6_0 (ix_41r (sh_208 hS) (pt_208_3 hS) (ex_4_3 (ix_30 (j := (25 + f)) (sh_210 hS) (by omega) (by omega) (by omega) (((f50 _ _ (by decide) (by decide) (by omega))).trans (congrFun hM.1 _)) (ex_4_4 (ex_add ⟨by omega, by omega⟩ (ex_19 (ex_0 (ex_0 (ix_45 (S' := [(.inl (m_within ((ρ (25 + f)) + (m_told ρ n cl c f)) 0 999)), (.inl (25 + (f : Int))), (.inr (.inr (some 210)))]) rfl (c_within (v := ((ρ (25 + f)) + (m_told ρ n cl c f))) ⟨by decide, by decide⟩ ⟨by decide, by decide⟩) rfl rfl (ix_34 (j := (25 + f)) (sh_210 hS) (by omega) (by omega) (by omega) (ex_4_4 ?_))))))))))))))))))
    exact ex_53 ⟨_, rfl, (by rw [u2_as_u1, u1_e, (ME_TF hM f50).1]), fun q k h1 h2 h3 h4 => (u2_q h3).trans (f50 q k h1 h2 (by omega))⟩
  obtain ⟨o, e, I1, rfl, h⟩ := am_doQ (as := [(.inr (.inr (some 208))), (.inl (c : Int)), (.inl (f : Int))]) (Nat.le_of_ble_eq_true rfl) rfl w
  exact ⟨I1, e, h⟩
theorem c_ringIt_1 {d : Nat} {G : am_G} {I : Nat → Nat → Int} {P : Nat → Nat → Option Nat} (hS : ST G P) {ρ : Nat → Int} {n : Nat} {cl : Nat → Cl} (hM : ME I ρ n cl) {c f : Nat} (hc : c < 6) (hf : f < 5) (he : ρ (15 + f) = 1) : ∃ I1, am_call am_B am_M (d + 8) 237 [(.inr (.inr (some 208))), (.inl (c : Int)), (.inl (f : Int))] (G, I, P) = some (some (.inl (m_soak ρ n cl c f)), (G, I1, P)) ∧ (I1 210 = am_u1 ρ (20 + f) (m_within (ρ (20 + f) + (m_soak ρ n cl c f)) 0 999) ∧ RF I I1) := by
  have hh := RW_we hM.2.1 f hf
  have hvb := m_soak_b (ρ := ρ) (n := n) (cl := cl) (c := c) (f := f)
  have w : am_ex (am_call am_B am_M (d + 7)) (am_B 237) (am_B 237 0) [some (.inr (.inr (some 208))), some (.inl (c : Int)), some (.inl (f : Int)), none, none] [] (G, I, P) (fun o => ∃ I1, o = (some (.inl (m_soak ρ n cl c f)), (G, I1, P)) ∧ (I1 210 = am_u1 ρ (20 + f) (m_within (ρ (20 + f) + (m_soak ρ n cl c f)) 0 999) ∧ RF I I1)) := by
    refine (ex_6_0 (ix_41r (sh_208 hS) (pt_208_3 hS) (ex_0 (ex_4_2 (ex_add ⟨by omega, by omega⟩ (ix_30 (j := (15 + f)) (sh_210 hS) (by omega) (by omega) (by omega) ((congrFun hM.1 _).trans he) (ex_0 (ex_ic1 (fun hc => by exfalso; revert hc; decide) (fun _ => ?_)))))))))
    refine (ex_0 (ex_4_2 (ex_add ⟨by omega, by omega⟩ (ex_28 (ex_7_3 rfl (ex_6_0 (ix_41r (sh_208 hS) (pt_208_3 hS) (ex_0 (ex_4_2 (ex_add ⟨by omega, by omega⟩ (ix_30 (j := (15 + f)) (sh_210 hS) (by omega) (by omega) (by omega) ((congrFun hM.1 _).trans he) (ex_0 (ex_ic1 (fun hc => by exfalso; revert hc; decide) (fun _ => ?_))))))))))))))
    refine (ex_6_0 (ex_4_1 (ex_4_2 ?_)))
    obtain ⟨J41, e41, f41⟩ := c_soakedBy (d := d) hS hM hc hf
    refine (ix_46 (S' := [(.inl (m_soak ρ n cl c f))]) rfl (sh_208 hS) e41 rfl rfl (ex_28 (ex_7_4 rfl (ex_6_0 (ix_41r (sh_208 hS) (pt_208_3 hS) (ex_4_3 (ex_6_0 (ix_41r (sh_208 hS) (pt_208_3 hS) (ex_4_3 (ix_30 (j := (20 + f)) (sh_210 hS) (by omega) (by omega) (by omega) (((f41 _ _ (by decide) (by decide) (by omega))).trans (congrFun hM.1 _)) (ex_4_4 (ex_add ⟨by omega, by omega⟩ (ex_19 (ex_0 (ex_0 (ix_45 (S' := [(.inl (m_within ((ρ (20 + f)) + (m_soak ρ n cl c f)) 0 999)), (.inl (20 + (f : Int))), (.inr (.inr (some 210)))]) rfl (c_within (v := ((ρ (20 + f)) + (m_soak ρ n cl c f))) ⟨by decide, by decide⟩ ⟨by decide, by decide⟩) rfl rfl (ix_34 (j := (20 + f)) (sh_210 hS) (by omega) (by omega) (by omega) (ex_4_4 ?_))))))))))))))))))
    exact ex_53 ⟨_, rfl, (by rw [u2_as_u1, u1_e, (ME_TF hM f41).1]), fun q k h1 h2 h3 h4 => (u2_q h3).trans (f41 q k h1 h2 (by omega))⟩
  obtain ⟨o, e, I1, rfl, h⟩ := am_doQ (as := [(.inr (.inr (some 208))), (.inl (c : Int)), (.inl (f : Int))]) (Nat.le_of_ble_eq_true rfl) rfl w
  exact ⟨I1, e, h⟩
def m_ringv (ρ : Nat → Int) (n : Nat) (cl : Nat → Cl) (c f : Nat) : Int := if ρ (15 + f) = 1 then m_soak ρ n cl c f else m_told ρ n cl c f
def m_ringr (ρ : Nat → Int) (n : Nat) (cl : Nat → Cl) (c f : Nat) : Nat → Int := if ρ (15 + f) = 1 then am_u1 ρ (20 + f) (m_within (ρ (20 + f) + m_soak ρ n cl c f) 0 999) else am_u1 ρ (25 + f) (m_within (ρ (25 + f) + m_told ρ n cl c f) 0 999)
theorem c_ringIt {d : Nat} {G : am_G} {I : Nat → Nat → Int} {P : Nat → Nat → Option Nat} (hS : ST G P) {ρ : Nat → Int} {n : Nat} {cl : Nat → Cl} (hM : ME I ρ n cl) {c f : Nat} (hc : c < 6) (hf : f < 5) : ∃ I1, am_call am_B am_M (d + 8) 237 [.inr (.inr (some 208)), .inl (c : Int), .inl (f : Int)] (G, I, P) = some (some (.inl (m_ringv ρ n cl c f)), (G, I1, P)) ∧ I1 210 = m_ringr ρ n cl c f ∧ RF I I1 := by
  unfold m_ringv m_ringr
  rcases RW_en hM.2.1 f hf with he | he
  · rw [if_neg (by omega), if_neg (by omega)]; exact c_ringIt_0 hS hM hc hf he
  · rw [if_pos he, if_pos he]; exact c_ringIt_1 hS hM hc hf he
theorem m_ringv_b {ρ : Nat → Int} {n : Nat} {cl : Nat → Cl} {c f : Nat} : 0 ≤ m_ringv ρ n cl c f ∧ m_ringv ρ n cl c f ≤ 9 := by
  unfold m_ringv; split
  · exact m_soak_b
  · exact m_told_b
/-- what a deed leaves: the row, what is remembered -/
def DONE (I : Nat → Nat → Int) (ρ ρ' : Nat → Int) (u : Nat) (v : Int) (J : Nat → Nat → Int) : Prop := J 210 = ρ' ∧ J 213 = rem_u ρ (I 213) u ∧ J 214 = rem_s (I 214) u v ∧ J 208 8 = (rem_n u : Int) ∧ DF I J
theorem c_ringNow_n {d : Nat} {G : am_G} {I : Nat → Nat → Int} {P : Nat → Nat → Option Nat} (hS : ST G P) {ρ : Nat → Int} {n : Nat} {cl : Nat → Cl} (hM : ME I ρ n cl) {c f : Int} (hb : ¬ ((0 ≤ c ∧ c < ρ 0) ∧ (0 ≤ f ∧ f < ρ 1))) : am_call am_B am_M (d + 9) 238 [(.inr (.inr (some 208))), (.inl c), (.inl f)] (G, I, P) = some (some (.inl (-2)), (G, I, P)) := by
  have h0 := RW_n0 hM.2.1
  have h1 := RW_n1 hM.2.1
  refine am_doL (L := [some (.inr (.inr (some 208))), some (.inl c), some (.inl f)]) (Nat.le_of_ble_eq_true rfl) rfl ?_
  refine (ex_6_0 (ex_4_1 ?_))
  by_cases hb2 : ((0 : Int) ≤ c ∧ (c : Int) < (ρ 0))
  · refine (ix_46 (S' := [(.inl 1)]) rfl (sh_208 hS) (c_isCloud_T hS (congrFun hM.1 _) (by omega) hb2) rfl rfl (ex_if0 (fun hc => by exfalso; revert hc; decide) (fun _ => ?_)))
    refine (ex_6_0 (ex_4_2 ?_))
    have hb10 : ¬ (((0 : Int) ≤ f ∧ (f : Int) < (ρ 1))) := by omega
    refine (ix_46 (S' := [(.inl 0)]) rfl (sh_208 hS) (c_isFolk_F hS (congrFun hM.1 _) (by omega) hb10) rfl rfl (ex_if1 (fun hc => by exfalso; revert hc; decide) (fun _ => ?_)))
    refine (ex_0 ?_)
    exact ex_53 rfl
  · refine (ix_46 (S' := [(.inl 0)]) rfl (sh_208 hS) (c_isCloud_F hS (congrFun hM.1 _) (by omega) hb2) rfl rfl (ex_if0 (fun _ => ?_) (fun hc => by exfalso; revert hc; decide)))
    refine (ex_0 ?_)
    exact ex_53 rfl
theorem c_ringNow_c {d : Nat} {G : am_G} {I : Nat → Nat → Int} {P : Nat → Nat → Option Nat} (hS : ST G P) {ρ : Nat → Int} {n : Nat} {cl : Nat → Cl} (hM : ME I ρ n cl) {c f : Nat} (hc0 : (c : Int) < ρ 0) (hf0 : (f : Int) < ρ 1) (hcan : ¬ m_can ρ n cl c f) : ∃ I1, am_call am_B am_M (d + 9) 238 [(.inr (.inr (some 208))), (.inl (c : Int)), (.inl (f : Int))] (G, I, P) = some (some (.inl (-3)), (G, I1, P)) ∧ (TF I I1) := by
  have h0 := RW_n0 hM.2.1
  have h1 := RW_n1 hM.2.1
  have hc : c < 6 := by omega
  have hf : f < 5 := by omega
  have w : am_ex (am_call am_B am_M (d + 8)) (am_B 238) (am_B 238 0) [some (.inr (.inr (some 208))), some (.inl (c : Int)), some (.inl (f : Int))] [] (G, I, P) (fun o => ∃ I1, o = (some (.inl (-3)), (G, I1, P)) ∧ (TF I I1)) := by
    refine (ex_6_0 (ex_4_1 ?_))
    have hb2 : ((0 : Int) ≤ (c : Int) ∧ ((c : Int) : Int) < (ρ 0)) := by omega
    refine (ix_46 (S' := [(.inl 1)]) rfl (sh_208 hS) (c_isCloud_T hS (congrFun hM.1 _) (by omega) hb2) rfl rfl (ex_if0 (fun hc => by exfalso; revert hc; decide) (fun _ => ?_)))
    refine (ex_6_0 (ex_4_2 ?_))
    have hb10 : ((0 : Int) ≤ (f : Int) ∧ ((f : Int) : Int) < (ρ 1)) := by omega
    refine (ix_46 (S' := [(.inl 1)]) rfl (sh_208 hS) (c_isFolk_T hS (congrFun hM.1 _) (by omega) hb10) rfl rfl (ex_if1 (fun _ => ?_) (fun hc => by exfalso; revert hc; decide)))
    refine (ex_6_0 (ex_4_1 (ex_4_2 ?_)))
    obtain ⟨K22, eK22, fK22⟩ := c_canRing_f (d := d) hS hM hc hf hcan
    refine (ix_46 (S' := [(.inl 0)]) rfl (sh_208 hS) eK22 rfl rfl (ex_if1 (fun hc => by exfalso; revert hc; decide) (fun _ => ?_)))
    refine (ex_0 ?_)
    exact ex_53 ⟨_, rfl, fK22⟩
  obtain ⟨o, e, I1, rfl, h⟩ := am_doQ (as := [(.inr (.inr (some 208))), (.inl (c : Int)), (.inl (f : Int))]) (Nat.le_of_ble_eq_true rfl) rfl w
  exact ⟨I1, e, h⟩
theorem c_ringNow {d : Nat} {G : am_G} {I : Nat → Nat → Int} {P : Nat → Nat → Option Nat} (hS : ST G P) {ρ : Nat → Int} {n : Nat} {cl : Nat → Cl} (hM : ME I ρ n cl) {c f : Nat} (hc0 : (c : Int) < ρ 0) (hf0 : (f : Int) < ρ 1) {u : Nat} (hu : I 208 8 = (u : Int)) (hu16 : u ≤ 16) (hcan : m_can ρ n cl c f) : ∃ I1, am_call am_B am_M (d + 9) 238 [(.inr (.inr (some 208))), (.inl (c : Int)), (.inl (f : Int))] (G, I, P) = some (some (.inl (m_ringv ρ n cl c f)), (G, I1, P)) ∧ (DONE I ρ (m_ringr ρ n cl c f) u 0 I1) := by
  have h0 := RW_n0 hM.2.1
  have h1 := RW_n1 hM.2.1
  have hc : c < 6 := by omega
  have hf : f < 5 := by omega
  have w : am_ex (am_call am_B am_M (d + 8)) (am_B 238) (am_B 238 0) [some (.inr (.inr (some 208))), some (.inl (c : Int)), some (.inl (f : Int))] [] (G, I, P) (fun o => ∃ I1, o = (some (.inl (m_ringv ρ n cl c f)), (G, I1, P)) ∧ (DONE I ρ (m_ringr ρ n cl c f) u 0 I1)) := by
    refine (ex_6_0 (ex_4_1 ?_))
    have hb2 : ((0 : Int) ≤ (c : Int) ∧ ((c : Int) : Int) < (ρ 0)) := by omega
    refine (ix_46 (S' := [(.inl 1)]) rfl (sh_208 hS) (c_isCloud_T hS (congrFun hM.1 _) (by omega) hb2) rfl rfl (ex_if0 (fun hc => by exfalso; revert hc; decide) (fun _ => ?_)))
    refine (ex_6_0 (ex_4_2 ?_))
    have hb10 : ((0 : Int) ≤ (f : Int) ∧ ((f : Int) : Int) < (ρ 1)) := by omega
    refine (ix_46 (S' := [(.inl 1)]) rfl (sh_208 hS) (c_isFolk_T hS (congrFun hM.1 _) (by omega) hb10) rfl rfl (ex_if1 (fun _ => ?_) (fun hc => by exfalso; revert hc; decide)))
    refine (ex_6_0 (ex_4_1 (ex_4_2 ?_)))
    obtain ⟨K22, eK22, fK22⟩ := c_canRing_t (d := d) hS hM hc hf hcan
    refine (ix_46 (S' := [(.inl 1)]) rfl (sh_208 hS) eK22 rfl rfl (ex_if1 (fun _ => ?_) (fun hc => by exfalso; revert hc; decide)))
    refine (ex_6_0 (ex_0 ?_))
    obtain ⟨R33, eR33, u33, s33, n33, fR33⟩ := c_rem (d := d + 6) (G := G) (P := P) (I := K22) (v := 0) hS (u := u) (((fK22 _ _ (by decide) (by decide) (by omega))).trans hu) hu16
    refine (ix_46 (S' := []) rfl (sh_208 hS) eR33 rfl rfl (ex_6_0 (ex_4_1 (ex_4_2 ?_))))
    have hM2 : ME R33 ρ n cl := ⟨(funext fun k => fR33 210 k (by decide) (by decide) (by omega)).trans (ME_TF hM fK22).1, hM.2.1, hM.2.2.1, (fR33 208 20 (by decide) (by decide) (by decide)).trans (ME_TF hM fK22).2.2.2⟩
    obtain ⟨L39, e39, r39, d39⟩ := c_ringIt (d := d) (G := G) (P := P) hS hM2 hc hf
    refine (ix_46 (S' := [(.inl (m_ringv ρ n cl c f))]) rfl (sh_208 hS) e39 rfl rfl ?_)
    exact ex_53 ⟨L39, rfl, r39, (funext fun k => d39 213 k (by decide) (by decide) (by decide) (by omega)).trans (u33.trans (by rw [(ME_TF hM fK22).1, TF_q fK22 (by decide) (by decide) (by decide)])), (funext fun k => d39 214 k (by decide) (by decide) (by decide) (by omega)).trans (s33.trans (by rw [TF_q fK22 (by decide) (by decide) (by decide)])), (d39 208 8 (by decide) (by decide) (by decide) (by decide)).trans n33, fun q k h1 h2 h3 h4 h5 _ h6 => (d39 q k h1 h2 h3 (by omega)).trans ((fR33 q k h4 h5 (by omega)).trans (fK22 q k h1 h2 (by omega)))⟩
  obtain ⟨o, e, I1, rfl, h⟩ := am_doQ (as := [(.inr (.inr (some 208))), (.inl (c : Int)), (.inl (f : Int))]) (Nat.le_of_ble_eq_true rfl) rfl w
  exact ⟨I1, e, h⟩
theorem DONE_1 {I R : Nat → Nat → Int} {ρ ρ' : Nat → Int} {u : Nat} {v x : Int} {k : Nat} (hρ : I 210 = ρ) (u1 : R 213 = rem_u (I 210) (I 213) u) (s1 : R 214 = rem_s (I 214) u v) (n1 : R 208 8 = (rem_n u : Int)) (f1 : ∀ q k, ¬ q = 213 → ¬ q = 214 → ¬ (q = 208 ∧ k = 8) → R q k = I q k) (hr : ρ' = am_u1 ρ k x) : DONE I ρ ρ' u v (am_u2 R 210 k x) := by
  refine ⟨?_, ?_, ?_, ?_, fun q k h1 h2 h3 h4 h5 _ h6 => ?_⟩
  · rw [u2_as_u1, u1_e, show R 210 = ρ from (funext fun k => f1 210 k (by decide) (by decide) (by omega)).trans hρ, hr]
  · rw [u2_qf (by decide), u1, hρ]
  · rw [u2_qf (by decide), s1]
  · rw [u2_q (by decide), n1]
  · rw [u2_q h3]; exact f1 q k h4 h5 (by omega)
theorem c_engageNow_n {d : Nat} {G : am_G} {I : Nat → Nat → Int} {P : Nat → Nat → Option Nat} (hS : ST G P) {ρ : Nat → Int} {n : Nat} {cl : Nat → Cl} (hM : ME I ρ n cl) {f : Int} (hb : ¬ (0 ≤ f ∧ f < ρ 1)) : am_call am_B am_M (d + 3) 240 [(.inr (.inr (some 208))), (.inl f)] (G, I, P) = some (some (.inl (-2)), (G, I, P)) := by
  have h1 := RW_n1 hM.2.1
  refine am_doL (L := [some (.inr (.inr (some 208))), some (.inl f)]) (Nat.le_of_ble_eq_true rfl) rfl ?_
  refine (ex_6_0 (ex_4_1 ?_))
  have hb2 : ¬ (((0 : Int) ≤ f ∧ (f : Int) < (ρ 1))) := by omega
  refine (ix_46 (S' := [(.inl 0)]) rfl (sh_208 hS) (c_isFolk_F hS (congrFun hM.1 _) (by omega) hb2) rfl rfl (ex_if1 (fun hc => by exfalso; revert hc; decide) (fun _ => ?_)))
  refine (ex_0 ?_)
  exact ex_53 rfl
theorem c_engageNow {d : Nat} {G : am_G} {I : Nat → Nat → Int} {P : Nat → Nat → Option Nat} (hS : ST G P) {ρ : Nat → Int} {n : Nat} {cl : Nat → Cl} (hM : ME I ρ n cl) {f : Nat} (hf0 : (f : Int) < ρ 1) {u : Nat} (hu : I 208 8 = (u : Int)) (hu16 : u ≤ 16) : ∃ I1, am_call am_B am_M (d + 3) 240 [(.inr (.inr (some 208))), (.inl (f : Int))] (G, I, P) = some (some (.inl (1 - ρ (15 + f))), (G, I1, P)) ∧ (DONE I ρ (am_u1 ρ (15 + f) (1 - ρ (15 + f))) u 1 I1) := by
  have h1 := RW_n1 hM.2.1
  have hf : f < 5 := by omega
  have hen := RW_en hM.2.1 f hf
  have w : am_ex (am_call am_B am_M (d + 2)) (am_B 240) (am_B 240 0) [some (.inr (.inr (some 208))), some (.inl (f : Int))] [] (G, I, P) (fun o => ∃ I1, o = (some (.inl (1 - ρ (15 + f))), (G, I1, P)) ∧ (DONE I ρ (am_u1 ρ (15 + f) (1 - ρ (15 + f))) u 1 I1)) := by
    refine (ex_6_0 (ex_4_1 ?_))
    have hb2 : ((0 : Int) ≤ (f : Int) ∧ ((f : Int) : Int) < (ρ 1)) := by omega
    refine (ix_46 (S' := [(.inl 1)]) rfl (sh_208 hS) (c_isFolk_T hS (congrFun hM.1 _) (by omega) hb2) rfl rfl (ex_if1 (fun _ => ?_) (fun hc => by exfalso; revert hc; decide)))
    refine (ex_6_0 (ex_0 ?_))
    obtain ⟨R13, eR13, u13, s13, n13, fR13⟩ := c_rem (d := d) (G := G) (P := P) (I := I) (v := 1) hS (u := u) hu hu16
    refine (ix_46 (S' := []) rfl (sh_208 hS) eR13 rfl rfl (ex_6_0 (ix_41r (sh_208 hS) (pt_208_3 hS) (ex_0 (ex_4_1 (ex_add ⟨by omega, by omega⟩ (ex_0 (ex_6_0 (ix_41r (sh_208 hS) (pt_208_3 hS) (ex_0 (ex_4_1 (ex_add ⟨by omega, by omega⟩ (ix_30 (j := (15 + f)) (sh_210 hS) (by omega) (by omega) (by omega) (((fR13 _ _ (by decide) (by decide) (by omega))).trans (congrFun hM.1 _)) (ex_sub ⟨by omega, by omega⟩ (ix_34 (j := (15 + f)) (sh_210 hS) (by omega) (by omega) (by omega) (ex_6_0 (ix_41r (sh_208 hS) (pt_208_3 hS) (ex_0 (ex_4_1 (ex_add ⟨by omega, by omega⟩ (ix_30 (j := (15 + f)) (sh_210 hS) (by omega) (by omega) (by omega) u2_e ?_)))))))))))))))))))))
    exact ex_53 ⟨_, rfl, DONE_1 hM.1 u13 s13 n13 fR13 rfl⟩
  obtain ⟨o, e, I1, rfl, h⟩ := am_doQ (as := [(.inr (.inr (some 208))), (.inl (f : Int))]) (Nat.le_of_ble_eq_true rfl) rfl w
  exact ⟨I1, e, h⟩
theorem c_smashNow_n {d : Nat} {G : am_G} {I : Nat → Nat → Int} {P : Nat → Nat → Option Nat} {b : Int} (hb : ¬ (0 ≤ b ∧ b < 6)) : am_call am_B am_M (d + 3) 242 [(.inr (.inr (some 208))), (.inl b)] (G, I, P) = some (some (.inl (-1)), (G, I, P)) := by
  refine am_doL (L := [some (.inr (.inr (some 208))), some (.inl b)]) (Nat.le_of_ble_eq_true rfl) rfl ?_
  refine (ex_4_1 ?_)
  have hb1 : ¬ (((0 : Int) ≤ b ∧ (b : Int) < 6)) := by omega
  refine (ix_45 (S' := [(.inl 0)]) rfl (c_isBox_f hb1) rfl rfl (ex_if1 (fun hc => by exfalso; revert hc; decide) (fun _ => ?_)))
  refine (ex_0 ?_)
  exact ex_53 rfl
theorem c_smashNow {d : Nat} {G : am_G} {I : Nat → Nat → Int} {P : Nat → Nat → Option Nat} (hS : ST G P) {ρ : Nat → Int} {n : Nat} {cl : Nat → Cl} (hM : ME I ρ n cl) {b : Nat} (hb : b < 6) {u : Nat} (hu : I 208 8 = (u : Int)) (hu16 : u ≤ 16) : ∃ I1, am_call am_B am_M (d + 3) 242 [(.inr (.inr (some 208))), (.inl (b : Int))] (G, I, P) = some (some (.inl ((((ρ 8).toNat ^^^ 2 ^ b) >>> b &&& 1 : Nat) : Int)), (G, I1, P)) ∧ (DONE I ρ (am_u1 ρ 8 (((ρ 8).toNat ^^^ 2 ^ b : Nat) : Int)) u 2 I1) := by
  have hsm := RW_sm hM.2.1
  have w : am_ex (am_call am_B am_M (d + 2)) (am_B 242) (am_B 242 0) [some (.inr (.inr (some 208))), some (.inl (b : Int))] [] (G, I, P) (fun o => ∃ I1, o = (some (.inl ((((ρ 8).toNat ^^^ 2 ^ b) >>> b &&& 1 : Nat) : Int)), (G, I1, P)) ∧ (DONE I ρ (am_u1 ρ 8 (((ρ 8).toNat ^^^ 2 ^ b : Nat) : Int)) u 2 I1)) := by
    refine (ex_4_1 ?_)
    have hb1 : ((0 : Int) ≤ (b : Int) ∧ ((b : Int) : Int) < 6) := by omega
    refine (ix_45 (S' := [(.inl 1)]) rfl (c_isBox_t hb1) rfl rfl (ex_if1 (fun _ => ?_) (fun hc => by exfalso; revert hc; decide)))
    refine (ex_6_0 (ex_0 ?_))
    obtain ⟨R11, eR11, u11, s11, n11, fR11⟩ := c_rem (d := d) (G := G) (P := P) (I := I) (v := 2) hS (u := u) hu hu16
    refine (ix_46 (S' := []) rfl (sh_208 hS) eR11 rfl rfl (ex_6_0 (ix_41r (sh_208 hS) (pt_208_3 hS) (ex_0 (ex_23 rfl (ix_30 (j := 8) (sh_210 hS) (by decide) (by decide) rfl (((fR11 _ _ (by decide) (by decide) (by omega))).trans ((congrFun hM.1 _).trans (Int.toNat_of_nonneg hsm.1).symm)) (ex_0 (ex_4_1 (ex_11e (am_shl1 (k := b) (by omega)) (ex_11e (am_xor (a := (ρ 8).toNat) (b := (2 ^ b)) (by omega) (Nat.pow_lt_pow_right (by decide) (by omega))) (ix_34 (j := 8) (sh_210 hS) (by decide) (by decide) rfl (ex_6_0 (ix_41r (sh_208 hS) (pt_208_3 hS) (ex_0 (ix_30 (j := 8) (sh_210 hS) (by decide) (by decide) rfl u2_e (ex_4_1 (ex_11e (am_shr (a := ((ρ 8).toNat ^^^ (2 ^ b))) (k := b) (by omega) (Nat.xor_lt_two_pow (by omega) (Nat.pow_lt_pow_right (by decide) (by omega)))) (ex_0 (ex_11e (am_and (a := (((ρ 8).toNat ^^^ (2 ^ b)) >>> b)) (b := 1) (Nat.lt_of_le_of_lt (Nat.shiftRight_le _ _) (Nat.xor_lt_two_pow (by omega) (Nat.pow_lt_pow_right (by decide) (by omega)))) (by decide)) ?_)))))))))))))))))))
    exact ex_53 ⟨_, rfl, DONE_1 hM.1 u11 s11 n11 fR11 rfl⟩
  obtain ⟨o, e, I1, rfl, h⟩ := am_doQ (as := [(.inr (.inr (some 208))), (.inl (b : Int))]) (Nat.le_of_ble_eq_true rfl) rfl w
  exact ⟨I1, e, h⟩
def m_pass (ρ : Nat → Int) (n : Nat) (cl : Nat → Cl) : Nat → Int := am_u1 (am_cp (fun c => m_goes ρ n cl c) ρ 0 9 (ρ 0).toNat) 5 (ρ 5 + 1)
def PF (I J : Nat → Nat → Int) : Prop := ∀ q k, ¬ q = 228 → ¬ q = 226 → ¬ q = 229 → ¬ (q = 208 ∧ (k = 34 ∨ k = 38 ∨ k = 39 ∨ k = 40)) → J q k = I q k
theorem ME_PF {I J : Nat → Nat → Int} {ρ : Nat → Int} {n : Nat} {cl : Nat → Cl} (h : ME I ρ n cl) (hf : PF I J) : ME J ρ n cl := ⟨(funext fun k => hf 210 k (by decide) (by decide) (by decide) (by omega)).trans h.1, h.2.1, h.2.2.1, (hf _ _ (by decide) (by decide) (by decide) (by decide)).trans h.2.2.2⟩
theorem l_pass {d : Nat} {G : am_G} {I : Nat → Nat → Int} {P : Nat → Nat → Option Nat} {Q : am_O → Prop} (hS : ST G P) {ρ : Nat → Int} {n N : Nat} {cl : Nat → Cl} (hN : ρ 0 = (N : Int)) (hN6 : N ≤ 6) (hQ : ∀ J, ME J ρ n cl → PF I J → (∀ j, j < N → J 229 j = m_goes ρ n cl j) → am_ex (am_call am_B am_M (d + 7)) (am_B 244) (am_B 244 3) [some (.inr (.inr (some 208))), some (.inl (N : Int))] [] (G, J, P) Q) : ∀ (m i : Nat) (J : Nat → Nat → Int), i + m = N → ME J ρ n cl → PF I J → (∀ j, j < i → J 229 j = m_goes ρ n cl j) → am_ex (am_call am_B am_M (d + 7)) (am_B 244) (am_B 244 1) [some (.inr (.inr (some 208))), some (.inl (i : Int))] [] (G, J, P) Q
  | 0, i, J, hi, hM, hf, hg => by
    have hi : i = N := by omega
    subst hi
    refine (ex_4_1 (ex_6_0 (ix_41r (sh_208 hS) (pt_208_3 hS) (ex_0 (ix_30 (j := 0) (sh_210 hS) (by decide) (by decide) rfl ((congrFun hM.1 _).trans hN) ?_)))))
    refine ex_ic3 (fun hc9 => ?_) (fun hc9 => by exfalso; omega)
    exact hQ J hM hf hg
  | m + 1, i, J, hi, hM, hf, hg => by
    refine (ex_4_1 (ex_6_0 (ix_41r (sh_208 hS) (pt_208_3 hS) (ex_0 (ix_30 (j := 0) (sh_210 hS) (by decide) (by decide) rfl ((congrFun hM.1 _).trans hN) ?_)))))
    refine ex_ic3 (fun hc9 => by exfalso; omega) (fun hc9 => ?_)
    refine (ex_6_0 (ix_41r (sh_208 hS) (pt_208_41 hS) (ex_4_1 (ex_6_0 (ex_4_1 ?_)))))
    obtain ⟨J19, e19, f19⟩ := c_goesTo (d := d) hS hM (c := i) (by omega)
    refine (ix_46 (S' := [(.inl (m_goes ρ n cl i)), (.inl (i : Int)), (.inr (.inr (some 229)))]) rfl (sh_208 hS) e19 rfl rfl (ix_34 (j := i) (sh_229 hS) (by omega) (by omega) (by omega) (ex_10_1 ⟨by omega, by omega⟩ rfl (ex_28 ?_))))
    have hf2 : PF I (am_u2 J19 229 i (m_goes ρ n cl i)) := fun q k h1 h2 h3 h4 => (u2_q h3).trans ((f19 q k h1 h2 h4).trans (hf q k h1 h2 h3 h4))
    refine l_pass hS hN hN6 hQ m (i + 1) _ (by omega) ⟨(u2_qf (by decide)).trans (ME_TF hM f19).1, hM.2.1, hM.2.2.1, (u2_q (by decide)).trans (ME_TF hM f19).2.2.2⟩ hf2 (fun j hj => ?_)
    rw [u2_at]
    split
    · rename_i h; rw [h]
    · rw [TF_q f19 (by decide) (by decide) (by decide)]; exact hg j (by omega)
theorem cp_congr {f f' g : Nat → Int} {sp dp n : Nat} (h : ∀ j, j < n → f (sp + j) = f' (sp + j)) : am_cp f g sp dp n = am_cp f' g sp dp n := by
  funext j
  unfold am_cp
  split
  · rename_i q; exact h _ (by omega)
  · rfl
theorem c_passIt {d : Nat} {G : am_G} {I : Nat → Nat → Int} {P : Nat → Nat → Option Nat} (hS : ST G P) {ρ : Nat → Int} {n : Nat} {cl : Nat → Cl} (hM : ME I ρ n cl) : ∃ I1, am_call am_B am_M (d + 8) 244 [.inr (.inr (some 208))] (G, I, P) = some (none, (G, I1, P)) ∧ I1 210 = m_pass ρ n cl ∧ (∀ q k, ¬ q = 228 → ¬ q = 226 → ¬ q = 210 → ¬ q = 229 → ¬ (q = 208 ∧ (k = 34 ∨ k = 38 ∨ k = 39 ∨ k = 40)) → I1 q k = I q k) := by
  have h0 := RW_n0 hM.2.1
  have h5 := RW_ni hM.2.1
  obtain ⟨N, hN⟩ : ∃ N : Nat, ρ 0 = (N : Int) := ⟨(ρ 0).toNat, by omega⟩
  have hN6 : N ≤ 6 := by omega
  have w : am_ex (am_call am_B am_M (d + 7)) (am_B 244) (am_B 244 0) [some (.inr (.inr (some 208))), none] [] (G, I, P) (fun o => ∃ I1, o = (none, (G, I1, P)) ∧ I1 210 = m_pass ρ n cl ∧ (∀ q k, ¬ q = 228 → ¬ q = 226 → ¬ q = 210 → ¬ q = 229 → ¬ (q = 208 ∧ (k = 34 ∨ k = 38 ∨ k = 39 ∨ k = 40)) → I1 q k = I q k)) := by
    refine (ex_0 (ex_7_1 rfl (ex_58 ?_)))
    refine l_pass (I := I) hS hN hN6 ?_ N 0 I (by omega) hM (fun _ _ _ _ _ _ => rfl) (fun j hj => absurd hj (by omega))
    intro J hM hf hg
    refine (ex_0 (ex_7_1 rfl (ex_58 ?_)))
    refine ex_forH (b := 4) (σ := Unit) (N) (fun i s => s) (fun i s => True) (fun i s e_i => [some (.inr (.inr (some 208))), some (.inl (i : Int))]) (fun i s => (G, (am_u1 J 210 (am_cp (J 229) (J 210) (0) (9) i)), P)) ?_ ?_ (N) (0) (()) (fun k_ => ([some (.inr (.inr (some 208))), some (.inl 0)] : am_L).getD k_ none) (by omega) (trivial) rfl (congrArg (fun J => (G, J, P)) u1_cp0.symm) ?_
    · intro i s hii hvi
      exact trivial
    · intro i s e_i hii hvi s' hsi hki
      refine (ex_4_1 (ex_6_0 (ix_41r (sh_208 hS) (pt_208_3 hS) (ex_0 (ix_30 (j := 0) (sh_210 hS) (by decide) (by decide) rfl ((congrFun u1_e _).trans ((cp_out (by omega)).trans ((congrFun hM.1 _).trans hN))) ?_)))))
      refine ex_ic3 (fun hc38 => by exfalso; omega) (fun hc38 => ?_)
      refine (ex_6_0 (ix_41r (sh_208 hS) (pt_208_3 hS) (ex_0 (ex_4_1 (ex_add ⟨by omega, by omega⟩ (ex_6_0 (ix_41r (sh_208 hS) (pt_208_41 hS) (ex_4_1 (ix_30 (j := i) (sh_229 hS) (by omega) (by omega) (by omega) ((u1_qk (by decide))) (ix_34 (j := (9 + i)) (sh_210 hS) (by omega) (by omega) (by omega) (ex_10_1 ⟨by omega, by omega⟩ rfl (ex_28 ?_))))))))))))
      rw [show (am_u2 (am_u1 J 210 (am_cp (J 229) (J 210) (0) (9) i)) 210 (9 + i) (J 229 i)) = (am_u1 J 210 (am_cp (J 229) (J 210) (0) (9) (i + 1))) from cp_stepG (a := (9 + i)) (b := i) (by omega) (by omega)]
      exact hki (fun k_ => ([some (.inr (.inr (some 208))), some (.inl ((i : Int) + 1))] : am_L).getD k_ none)
    · intro s e_i hsi hvi
      refine (ex_4_1 (ex_6_0 (ix_41r (sh_208 hS) (pt_208_3 hS) (ex_0 (ix_30 (j := 0) (sh_210 hS) (by decide) (by decide) rfl ((congrFun u1_e _).trans ((cp_out (by omega)).trans ((congrFun hM.1 _).trans hN))) ?_)))))
      refine ex_ic3 (fun hc38 => ?_) (fun hc38 => by exfalso; omega)
      refine (ex_6_0 (ix_41r (sh_208 hS) (pt_208_3 hS) (ex_0 (ex_23 rfl (ix_30 (j := 5) (sh_210 hS) (by decide) (by decide) rfl ((congrFun u1_e _).trans ((cp_out (by omega)).trans (congrFun hM.1 _))) (ex_0 (ex_add ⟨by omega, by omega⟩ (ix_34 (j := 5) (sh_210 hS) (by decide) (by decide) rfl ?_))))))))
      exact ex_56 ⟨_, rfl, (by rw [u2_u1, u1_e, hM.1]; unfold m_pass; rw [hN, Int.toNat_natCast]; congr 1; exact cp_congr (fun j hj => by rw [Nat.zero_add]; exact hg _ (by omega))), fun q k h1 h2 h3 h6 h7 => (u2_q h3).trans ((u1_qk h3).trans (hf q k h1 h2 h6 (by omega)))⟩
  obtain ⟨o, e, I1, rfl, h⟩ := am_doQ (as := [.inr (.inr (some 208))]) (Nat.le_of_ble_eq_true rfl) rfl w
  exact ⟨I1, e, h⟩
