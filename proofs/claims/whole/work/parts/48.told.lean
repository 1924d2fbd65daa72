/-! ===== the class: told, soaked, barred, whither, reached; a night ===== -/
theorem law_b {n : Nat} {cl : Nat → Cl} {vb : Nat} {w : Nat → Int} (h : ∀ j, j < n → ∀ v, cl_says (cl j) w = some v → rkb v) : ∀ v, law_say n cl vb w = some v → rkb v := by
  refine am_it_inv (f := fun i acc => law_1 cl vb w i acc) (inv := fun _ acc => ∀ v, acc = some v → rkb v) (N := n) (fun i acc hi ih v hv => ?_) n 0 none (by omega) (fun v hv => by cases hv)
  have hv : law_1 cl vb w i acc = some v := hv
  unfold law_1 at hv
  split at hv
  · cases hq : cl_says (cl i) w with
    | none => rw [hq] at hv; exact ih v hv
    | some u => rw [hq] at hv; have e : u = v := Option.some.inj hv; rw [← e]; exact h i hi u hq
  · exact ih v hv
theorem CE_b {G : am_G} {I : Nat → Nat → Int} {P : Nat → Nat → Option Nat} {c n vb : Nat} {ρ : Nat → Int} {cl : Nat → Cl} (hE : CE G I P c ρ n cl) {w : Nat → Int} (hw : okw w) : ∀ v, law_say n cl vb w = some v → rkb v := by
  rcases hE.2.2 with ⟨_, h2⟩ | ⟨i4, t, h1, h2, h3, h4, L, C, sz, sg, tl, h5, h6⟩
  · subst h2; intro v hv; cases hv
  · apply law_b
    intro j hj v hv
    obtain ⟨-, -, -, hs, -, -⟩ := h6 j hj
    unfold cl_says at hv
    split at hv
    · cases hq : (cl j).2.1 with
      | none => rw [hq] at hv; have hv : some (1 : Int) = some v := hv; cases hv; exact ⟨by decide, by decide⟩
      | some s =>
        rw [hq] at hv
        obtain ⟨a, b, -, hcs⟩ := hs s hq
        exact (hcs.2.2.2.2 w hw).1 v hv
    · cases hv
theorem near_eq {v : Int} : (if (0 : Int) ≤ (if (9 : Int) ≤ v then 9 else v) then (if (9 : Int) ≤ v then 9 else v) else 0) = m_within v 0 9 := by
  unfold m_within
  (repeat' split) <;> omega
theorem k_near {d : Nat} {G : am_G} {I : Nat → Nat → Int} {P : Nat → Nat → Option Nat} {v : Int} : am_call am_B am_M (d + 1) 32 [(.inl v)] (G, I, P) = some (some (.inl (m_within v 0 9)), (G, I, P)) := by
  refine am_doL (L := [some (.inl v)]) (Nat.le_of_ble_eq_true rfl) rfl ?_
  refine (ex_0 (ex_0 (ex_4_0 (ex_min rfl rfl (ex_max rfl near_eq ?_)))))
  exact ex_53 rfl
theorem k_told_s {d : Nat} {G : am_G} {I : Nat → Nat → Int} {P : Nat → Nat → Option Nat} (hS : ST G P) {c : Nat} (hCc : CQ c) {ρ : Nat → Int} {n : Nat} {cl : Nat → Cl} (hE : CE G I P c ρ n cl) {c1 f : Nat} (hc : c1 < 6) (hf1 : (f : Int) < ρ 1) {v : Int} (hls : law_say n cl 0 (wl ρ c1 (f : Int)) = some v) (hvb : rkb v) : ∃ I1, am_call am_B am_M (d + 4) 30 [(.inr (.inr (some 88))), (.inr (.inr (some c))), (.inl (c1 : Int)), (.inl (f : Int))] (G, I, P) = some (some (.inl (m_told ρ n cl c1 f)), (G, I1, P)) ∧ (LF I I1) := by
  have h5 := RW_n1 hE.2.1
  have hf : f < 5 := by omega
  have hqc : c = 65 ∨ c = 93 ∨ c = 122 ∨ c = 139 ∨ c = 174 ∨ c = 191 := hCc
  have hvb : -1000000000 ≤ v ∧ v ≤ 1000000000 := hvb
  have w : am_ex (am_call am_B am_M (d + 3)) (am_B 30) (am_B 30 0) [some (.inr (.inr (some 88))), some (.inr (.inr (some c))), some (.inl (c1 : Int)), some (.inl (f : Int)), none] [] (G, I, P) (fun o => ∃ I1, o = (some (.inl (m_told ρ n cl c1 f)), (G, I1, P)) ∧ (LF I I1)) := by
    refine (ex_6_0 (ex_6_1 (ex_0 (ex_4_2 (ex_4_3 ?_)))))
    obtain ⟨J5, e5, f5⟩ := k_last (d := d) hS hCc hE hc (vb := 0) (fv := (f : Int)) (by omega)
    rw [hls] at e5
    refine (ix_46 (S' := [(.inl v)]) rfl (sh_88 hS) e5 rfl rfl (ex_7_4 rfl (ex_4_4 (ex_0 ?_))))
    refine ex_ic0 (fun hc14 => by exfalso; omega) (fun hc14 => ?_)
    refine (ex_4_4 (ix_45 (S' := [(.inl (m_within v 0 9))]) rfl k_near rfl rfl ?_))
    exact ex_53 ⟨J5, (by unfold m_told; rw [hls]; rfl), f5⟩
  obtain ⟨o, e, I1, rfl, h⟩ := am_doQ (as := [(.inr (.inr (some 88))), (.inr (.inr (some c))), (.inl (c1 : Int)), (.inl (f : Int))]) (Nat.le_of_ble_eq_true rfl) rfl w
  exact ⟨I1, e, h⟩
theorem k_told_n {d : Nat} {G : am_G} {I : Nat → Nat → Int} {P : Nat → Nat → Option Nat} (hS : ST G P) {c : Nat} (hCc : CQ c) {ρ : Nat → Int} {n : Nat} {cl : Nat → Cl} (hE : CE G I P c ρ n cl) {c1 f : Nat} (hc : c1 < 6) (hf1 : (f : Int) < ρ 1) (hls : law_say n cl 0 (wl ρ c1 (f : Int)) = none) : ∃ I1, am_call am_B am_M (d + 4) 30 [(.inr (.inr (some 88))), (.inr (.inr (some c))), (.inl (c1 : Int)), (.inl (f : Int))] (G, I, P) = some (some (.inl (m_told ρ n cl c1 f)), (G, I1, P)) ∧ (LF I I1) := by
  have h5 := RW_n1 hE.2.1
  have hf : f < 5 := by omega
  have hqc : c = 65 ∨ c = 93 ∨ c = 122 ∨ c = 139 ∨ c = 174 ∨ c = 191 := hCc
  have hki := RW_ki hE.2.1 c1 hc
  have hea := RW_ea hE.2.1 f hf
  have hra := RW_ra hE.2.1 c1 hc
  have hkn := m_knows_1 (ρ := ρ) (c := c1) (f := f)
  have w : am_ex (am_call am_B am_M (d + 3)) (am_B 30) (am_B 30 0) [some (.inr (.inr (some 88))), some (.inr (.inr (some c))), some (.inl (c1 : Int)), some (.inl (f : Int)), none] [] (G, I, P) (fun o => ∃ I1, o = (some (.inl (m_told ρ n cl c1 f)), (G, I1, P)) ∧ (LF I I1)) := by
    refine (ex_6_0 (ex_6_1 (ex_0 (ex_4_2 (ex_4_3 ?_)))))
    obtain ⟨J5, e5, f5⟩ := k_last (d := d) hS hCc hE hc (vb := 0) (fv := (f : Int)) (by omega)
    rw [hls] at e5
    refine (ix_46 (S' := [(.inl (-2000000000))]) rfl (sh_88 hS) e5 rfl rfl (ex_7_4 rfl (ex_4_4 (ex_0 (ex_ic0 (fun _ => ?_) (fun hc => by exfalso; revert hc; decide))))))
    refine (ex_6_1 (ex_4_3 (ex_4_2 ?_)))
    by_cases hb26 : (m_knows ρ c1 f = 1)
    · refine (ix_46 (S' := [(.inl 1)]) rfl (cs_0 hS hCc) (k_hears_t hS hCc (CC_LF hCc hE.1 f5) hf hc hea hki hb26) rfl rfl (ex_if0 (fun hc => by exfalso; revert hc; decide) (fun _ => ?_)))
      refine (ex_6_1 (ix_41r (cs_0 hS hCc) (cp_0_2 hS hCc) (ex_4_2 (ix_30 (j := c1) (v := (ρ (36 + c1))) (cs_6 hS hCc) (by omega) (by omega) (by omega) (((f5 _ _ (by omega) (by omega))).trans (CC_ra hE.1 c1 (by omega))) (ex_28 ?_)))))
      exact ex_53 ⟨J5, (by rw [show m_told ρ n cl c1 f = (ρ (36 + c1)) from by unfold m_told; rw [hls]; show m_within ((m_knows ρ c1 f : Int) * ρ (36 + c1)) 0 9 = _; unfold m_within; rw [show m_knows ρ c1 f = 1 by omega]; (repeat' split) <;> omega]), f5⟩
    · refine (ix_46 (S' := [(.inl 0)]) rfl (cs_0 hS hCc) (k_hears_f hS hCc (CC_LF hCc hE.1 f5) hf hc hea hki (by omega)) rfl rfl (ex_if0 (fun _ => ?_) (fun hc => by exfalso; revert hc; decide)))
      refine (ex_0 (ex_58 ?_))
      exact ex_53 ⟨J5, (by rw [show m_told ρ n cl c1 f = 0 from by unfold m_told; rw [hls]; show m_within ((m_knows ρ c1 f : Int) * ρ (36 + c1)) 0 9 = _; unfold m_within; rw [show m_knows ρ c1 f = 0 by omega]; (repeat' split) <;> omega]), f5⟩
  obtain ⟨o, e, I1, rfl, h⟩ := am_doQ (as := [(.inr (.inr (some 88))), (.inr (.inr (some c))), (.inl (c1 : Int)), (.inl (f : Int))]) (Nat.le_of_ble_eq_true rfl) rfl w
  exact ⟨I1, e, h⟩
theorem k_soak_s {d : Nat} {G : am_G} {I : Nat → Nat → Int} {P : Nat → Nat → Option Nat} (hS : ST G P) {c : Nat} (hCc : CQ c) {ρ : Nat → Int} {n : Nat} {cl : Nat → Cl} (hE : CE G I P c ρ n cl) {c1 f : Nat} (hc : c1 < 6) (hf1 : (f : Int) < ρ 1) {v : Int} (hls : law_say n cl 1 (wl ρ c1 (f : Int)) = some v) (hvb : rkb v) : ∃ I1, am_call am_B am_M (d + 4) 31 [(.inr (.inr (some 88))), (.inr (.inr (some c))), (.inl (c1 : Int)), (.inl (f : Int))] (G, I, P) = some (some (.inl (m_soak ρ n cl c1 f)), (G, I1, P)) ∧ (LF I I1) := by
  have h5 := RW_n1 hE.2.1
  have hf : f < 5 := by omega
  have hqc : c = 65 ∨ c = 93 ∨ c = 122 ∨ c = 139 ∨ c = 174 ∨ c = 191 := hCc
  have hvb : -1000000000 ≤ v ∧ v ≤ 1000000000 := hvb
  have w : am_ex (am_call am_B am_M (d + 3)) (am_B 31) (am_B 31 0) [some (.inr (.inr (some 88))), some (.inr (.inr (some c))), some (.inl (c1 : Int)), some (.inl (f : Int)), none] [] (G, I, P) (fun o => ∃ I1, o = (some (.inl (m_soak ρ n cl c1 f)), (G, I1, P)) ∧ (LF I I1)) := by
    refine (ex_6_0 (ex_6_1 (ex_0 (ex_4_2 (ex_4_3 ?_)))))
    obtain ⟨J5, e5, f5⟩ := k_last (d := d) hS hCc hE hc (vb := 1) (fv := (f : Int)) (by omega)
    rw [hls] at e5
    refine (ix_46 (S' := [(.inl v)]) rfl (sh_88 hS) e5 rfl rfl (ex_7_4 rfl (ex_4_4 (ex_0 ?_))))
    refine ex_ic1 (fun hc14 => ?_) (fun hc14 => by exfalso; omega)
    refine (ex_4_4 (ix_45 (S' := [(.inl (m_within v 0 9))]) rfl k_near rfl rfl (ex_58 ?_)))
    exact ex_53 ⟨J5, (by unfold m_soak; rw [hls]; rfl), f5⟩
  obtain ⟨o, e, I1, rfl, h⟩ := am_doQ (as := [(.inr (.inr (some 88))), (.inr (.inr (some c))), (.inl (c1 : Int)), (.inl (f : Int))]) (Nat.le_of_ble_eq_true rfl) rfl w
  exact ⟨I1, e, h⟩
theorem k_soak_n {d : Nat} {G : am_G} {I : Nat → Nat → Int} {P : Nat → Nat → Option Nat} (hS : ST G P) {c : Nat} (hCc : CQ c) {ρ : Nat → Int} {n : Nat} {cl : Nat → Cl} (hE : CE G I P c ρ n cl) {c1 f : Nat} (hc : c1 < 6) (hf1 : (f : Int) < ρ 1) (hls : law_say n cl 1 (wl ρ c1 (f : Int)) = none) : ∃ I1, am_call am_B am_M (d + 4) 31 [(.inr (.inr (some 88))), (.inr (.inr (some c))), (.inl (c1 : Int)), (.inl (f : Int))] (G, I, P) = some (some (.inl (m_soak ρ n cl c1 f)), (G, I1, P)) ∧ (LF I I1) := by
  have h5 := RW_n1 hE.2.1
  have hf : f < 5 := by omega
  have hqc : c = 65 ∨ c = 93 ∨ c = 122 ∨ c = 139 ∨ c = 174 ∨ c = 191 := hCc
  have hki := RW_ki hE.2.1 c1 hc
  have hea := RW_ea hE.2.1 f hf
  have hra := RW_ra hE.2.1 c1 hc
  have hkn := m_knows_1 (ρ := ρ) (c := c1) (f := f)
  have w : am_ex (am_call am_B am_M (d + 3)) (am_B 31) (am_B 31 0) [some (.inr (.inr (some 88))), some (.inr (.inr (some c))), some (.inl (c1 : Int)), some (.inl (f : Int)), none] [] (G, I, P) (fun o => ∃ I1, o = (some (.inl (m_soak ρ n cl c1 f)), (G, I1, P)) ∧ (LF I I1)) := by
    refine (ex_6_0 (ex_6_1 (ex_0 (ex_4_2 (ex_4_3 ?_)))))
    obtain ⟨J5, e5, f5⟩ := k_last (d := d) hS hCc hE hc (vb := 1) (fv := (f : Int)) (by omega)
    rw [hls] at e5
    refine (ix_46 (S' := [(.inl (-2000000000))]) rfl (sh_88 hS) e5 rfl rfl (ex_7_4 rfl (ex_4_4 (ex_0 (ex_ic1 (fun hc => by exfalso; revert hc; decide) (fun _ => ?_))))))
    refine (ex_6_1 (ix_41r (cs_0 hS hCc) (cp_0_2 hS hCc) (ex_4_2 (ix_30 (j := c1) (v := (ρ (36 + c1))) (cs_6 hS hCc) (by omega) (by omega) (by omega) (((f5 _ _ (by omega) (by omega))).trans (CC_ra hE.1 c1 (by omega))) (ex_28 ?_)))))
    exact ex_53 ⟨J5, (by rw [show m_soak ρ n cl c1 f = ρ (36 + c1) from by unfold m_soak; rw [hls]; show m_within (ρ (36 + c1)) 0 9 = _; unfold m_within; (repeat' split) <;> omega]), f5⟩
  obtain ⟨o, e, I1, rfl, h⟩ := am_doQ (as := [(.inr (.inr (some 88))), (.inr (.inr (some c))), (.inl (c1 : Int)), (.inl (f : Int))]) (Nat.le_of_ble_eq_true rfl) rfl w
  exact ⟨I1, e, h⟩
theorem k_told {d : Nat} {G : am_G} {I : Nat → Nat → Int} {P : Nat → Nat → Option Nat} (hS : ST G P) {c : Nat} (hCc : CQ c) {ρ : Nat → Int} {n : Nat} {cl : Nat → Cl} (hE : CE G I P c ρ n cl) {c1 f : Nat} (hc : c1 < 6) (hf1 : (f : Int) < ρ 1) : ∃ I1, am_call am_B am_M (d + 4) 30 [.inr (.inr (some 88)), .inr (.inr (some c)), .inl (c1 : Int), .inl (f : Int)] (G, I, P) = some (some (.inl (m_told ρ n cl c1 f)), (G, I1, P)) ∧ LF I I1 := by
  have h5 := RW_n1 hE.2.1
  have hw := wl_ok hE.2.1 hc (show -1 ≤ (f : Int) ∧ (f : Int) < 5 by omega)
  cases hls : law_say n cl 0 (wl ρ c1 (f : Int)) with
  | none => exact k_told_n hS hCc hE hc hf1 hls
  | some v => exact k_told_s hS hCc hE hc hf1 hls (CE_b hE hw v hls)
theorem k_soak {d : Nat} {G : am_G} {I : Nat → Nat → Int} {P : Nat → Nat → Option Nat} (hS : ST G P) {c : Nat} (hCc : CQ c) {ρ : Nat → Int} {n : Nat} {cl : Nat → Cl} (hE : CE G I P c ρ n cl) {c1 f : Nat} (hc : c1 < 6) (hf1 : (f : Int) < ρ 1) : ∃ I1, am_call am_B am_M (d + 4) 31 [.inr (.inr (some 88)), .inr (.inr (some c)), .inl (c1 : Int), .inl (f : Int)] (G, I, P) = some (some (.inl (m_soak ρ n cl c1 f)), (G, I1, P)) ∧ LF I I1 := by
  have h5 := RW_n1 hE.2.1
  have hw := wl_ok hE.2.1 hc (show -1 ≤ (f : Int) ∧ (f : Int) < 5 by omega)
  cases hls : law_say n cl 1 (wl ρ c1 (f : Int)) with
  | none => exact k_soak_n hS hCc hE hc hf1 hls
  | some v => exact k_soak_s hS hCc hE hc hf1 hls (CE_b hE hw v hls)
theorem bar_1 {n : Nat} {cl : Nat → Cl} {w : Nat → Int} (h : ∀ j, j < n → (cl j).1 = 3 → (cl j).2.1 = none) : ∀ v, law_say n cl 3 w = some v → v = 1 := by
  refine am_it_inv (f := fun i acc => law_1 cl 3 w i acc) (inv := fun _ acc => ∀ v, acc = some v → v = 1) (N := n) (fun i acc hi ih v hv => ?_) n 0 none (by omega) (fun v hv => by cases hv)
  have hv : law_1 cl 3 w i acc = some v := hv
  unfold law_1 at hv
  split at hv
  · rename_i h3
    cases hq : cl_says (cl i) w with
    | none => rw [hq] at hv; exact ih v hv
    | some u =>
      rw [hq] at hv
      have e : u = v := Option.some.inj hv
      unfold cl_says at hq
      split at hq
      · rw [h i hi h3] at hq
        have e2 : 1 = u := Option.some.inj hq
        rw [← e, ← e2]
      · cases hq
  · exact ih v hv
/-- what bars tells no number -/
def BarN (n : Nat) (cl : Nat → Cl) : Prop := ∀ j, j < n → (cl j).1 = 3 → (cl j).2.1 = none
theorem m_bar_iff {ρ : Nat → Int} {n : Nat} {cl : Nat → Cl} {c f : Nat} (h : BarN n cl) : m_bar ρ n cl c f ↔ ¬ law_say n cl 3 (wl ρ c f) = none := by
  unfold m_bar
  cases hq : law_say n cl 3 (wl ρ c f) with
  | none => constructor
            · intro z; exact absurd z (by decide)
            · intro z; exact absurd rfl z
  | some v => constructor
              · intro _ z; cases z
              · intro _; exact bar_1 h v hq
theorem k_bar_n {d : Nat} {G : am_G} {I : Nat → Nat → Int} {P : Nat → Nat → Option Nat} (hS : ST G P) {c : Nat} (hCc : CQ c) {ρ : Nat → Int} {n : Nat} {cl : Nat → Cl} (hE : CE G I P c ρ n cl) {c1 f : Nat} (hc : c1 < 6) (hf1 : (f : Int) < ρ 1) (hls : law_say n cl 3 (wl ρ c1 (f : Int)) = none) : ∃ I1, am_call am_B am_M (d + 4) 36 [(.inr (.inr (some 88))), (.inr (.inr (some c))), (.inl (c1 : Int)), (.inl (f : Int))] (G, I, P) = some (some (.inl 0), (G, I1, P)) ∧ (LF I I1) := by
  have h5 := RW_n1 hE.2.1
  have hf : f < 5 := by omega
  have hqc : c = 65 ∨ c = 93 ∨ c = 122 ∨ c = 139 ∨ c = 174 ∨ c = 191 := hCc
  have w : am_ex (am_call am_B am_M (d + 3)) (am_B 36) (am_B 36 0) [some (.inr (.inr (some 88))), some (.inr (.inr (some c))), some (.inl (c1 : Int)), some (.inl (f : Int))] [] (G, I, P) (fun o => ∃ I1, o = (some (.inl 0), (G, I1, P)) ∧ (LF I I1)) := by
    refine (ex_6_0 (ex_6_1 (ex_0 (ex_4_2 (ex_4_3 ?_)))))
    obtain ⟨J5, e5, f5⟩ := k_last (d := d) hS hCc hE hc (vb := 3) (fv := (f : Int)) (by omega)
    rw [hls] at e5
    refine (ix_46 (S' := [(.inl (-2000000000))]) rfl (sh_88 hS) e5 rfl rfl (ex_0 (ex_ic0 (fun _ => ?_) (fun hc => by exfalso; revert hc; decide))))
    refine (ex_0 (ex_58 ?_))
    exact ex_57 (by decide) ⟨J5, rfl, f5⟩
  obtain ⟨o, e, I1, rfl, h⟩ := am_doQ (as := [(.inr (.inr (some 88))), (.inr (.inr (some c))), (.inl (c1 : Int)), (.inl (f : Int))]) (Nat.le_of_ble_eq_true rfl) rfl w
  exact ⟨I1, e, h⟩
theorem k_bar_s {d : Nat} {G : am_G} {I : Nat → Nat → Int} {P : Nat → Nat → Option Nat} (hS : ST G P) {c : Nat} (hCc : CQ c) {ρ : Nat → Int} {n : Nat} {cl : Nat → Cl} (hE : CE G I P c ρ n cl) {c1 f : Nat} (hc : c1 < 6) (hf1 : (f : Int) < ρ 1) {v : Int} (hls : law_say n cl 3 (wl ρ c1 (f : Int)) = some v) (hvb : rkb v) : ∃ I1, am_call am_B am_M (d + 4) 36 [(.inr (.inr (some 88))), (.inr (.inr (some c))), (.inl (c1 : Int)), (.inl (f : Int))] (G, I, P) = some (some (.inl 1), (G, I1, P)) ∧ (LF I I1) := by
  have h5 := RW_n1 hE.2.1
  have hf : f < 5 := by omega
  have hqc : c = 65 ∨ c = 93 ∨ c = 122 ∨ c = 139 ∨ c = 174 ∨ c = 191 := hCc
  have hvb : -1000000000 ≤ v ∧ v ≤ 1000000000 := hvb
  have w : am_ex (am_call am_B am_M (d + 3)) (am_B 36) (am_B 36 0) [some (.inr (.inr (some 88))), some (.inr (.inr (some c))), some (.inl (c1 : Int)), some (.inl (f : Int))] [] (G, I, P) (fun o => ∃ I1, o = (some (.inl 1), (G, I1, P)) ∧ (LF I I1)) := by
    refine (ex_6_0 (ex_6_1 (ex_0 (ex_4_2 (ex_4_3 ?_)))))
    obtain ⟨J5, e5, f5⟩ := k_last (d := d) hS hCc hE hc (vb := 3) (fv := (f : Int)) (by omega)
    rw [hls] at e5
    refine (ix_46 (S' := [(.inl v)]) rfl (sh_88 hS) e5 rfl rfl (ex_0 ?_))
    refine ex_ic0 (fun hc10 => by exfalso; omega) (fun hc10 => ?_)
    refine (ex_0 (ex_28 ?_))
    exact ex_57 (by decide) ⟨J5, rfl, f5⟩
  obtain ⟨o, e, I1, rfl, h⟩ := am_doQ (as := [(.inr (.inr (some 88))), (.inr (.inr (some c))), (.inl (c1 : Int)), (.inl (f : Int))]) (Nat.le_of_ble_eq_true rfl) rfl w
  exact ⟨I1, e, h⟩
theorem k_barred_t {d : Nat} {G : am_G} {I : Nat → Nat → Int} {P : Nat → Nat → Option Nat} (hS : ST G P) {c : Nat} (hCc : CQ c) {ρ : Nat → Int} {n : Nat} {cl : Nat → Cl} (hE : CE G I P c ρ n cl) {c1 f : Nat} (hc : c1 < 6) (hf1 : (f : Int) < ρ 1) (hN : BarN n cl) (hb : m_bar ρ n cl c1 f) : ∃ I1, am_call am_B am_M (d + 4) 36 [.inr (.inr (some 88)), .inr (.inr (some c)), .inl (c1 : Int), .inl (f : Int)] (G, I, P) = some (some (.inl 1), (G, I1, P)) ∧ LF I I1 := by
  have h5 := RW_n1 hE.2.1
  have hw := wl_ok hE.2.1 hc (show -1 ≤ (f : Int) ∧ (f : Int) < 5 by omega)
  cases hls : law_say n cl 3 (wl ρ c1 (f : Int)) with
  | none => exact absurd hls ((m_bar_iff hN).mp hb)
  | some v => exact k_bar_s hS hCc hE hc hf1 hls (CE_b hE hw v hls)
theorem k_barred_f {d : Nat} {G : am_G} {I : Nat → Nat → Int} {P : Nat → Nat → Option Nat} (hS : ST G P) {c : Nat} (hCc : CQ c) {ρ : Nat → Int} {n : Nat} {cl : Nat → Cl} (hE : CE G I P c ρ n cl) {c1 f : Nat} (hc : c1 < 6) (hf1 : (f : Int) < ρ 1) (hN : BarN n cl) (hb : ¬ m_bar ρ n cl c1 f) : ∃ I1, am_call am_B am_M (d + 4) 36 [.inr (.inr (some 88)), .inr (.inr (some c)), .inl (c1 : Int), .inl (f : Int)] (G, I, P) = some (some (.inl 0), (G, I1, P)) ∧ LF I I1 := by
  cases hls : law_say n cl 3 (wl ρ c1 (f : Int)) with
  | none => exact k_bar_n hS hCc hE hc hf1 hls
  | some v => exact absurd ((m_bar_iff hN).mpr (by rw [hls]; intro z; cases z)) hb
theorem k_can_j {d : Nat} {G : am_G} {I : Nat → Nat → Int} {P : Nat → Nat → Option Nat} (hS : ST G P) {c : Nat} (hCc : CQ c) {ρ : Nat → Int} {n : Nat} {cl : Nat → Cl} (hE : CE G I P c ρ n cl) {c1 f : Nat} (hc : c1 < 6) (hf1 : (f : Int) < ρ 1) (hj : ¬ m_join ρ (ρ (9 + c1)).toNat (ρ (42 + f)).toNat) : ∃ I1, am_call am_B am_M (d + 4) 37 [(.inr (.inr (some 88))), (.inr (.inr (some c))), (.inl (c1 : Int)), (.inl (f : Int))] (G, I, P) = some (some (.inl 0), (G, I1, P)) ∧ (LF I I1) := by
  have h5 := RW_n1 hE.2.1
  have hf : f < 5 := by omega
  have hqc : c = 65 ∨ c = 93 ∨ c = 122 ∨ c = 139 ∨ c = 174 ∨ c = 191 := hCc
  have hat := RW_at hE.2.1 c1 hc
  have hby := RW_by hE.2.1 f hf
  have h8 := RW_sm hE.2.1
  have w : am_ex (am_call am_B am_M (d + 3)) (am_B 37) (am_B 37 0) [some (.inr (.inr (some 88))), some (.inr (.inr (some c))), some (.inl (c1 : Int)), some (.inl (f : Int))] [] (G, I, P) (fun o => ∃ I1, o = (some (.inl 0), (G, I1, P)) ∧ (LF I I1)) := by
    refine (ex_6_1 (ix_41r (cs_0 hS hCc) (cp_0_0 hS hCc) (ex_6_1 (ix_41r (cs_0 hS hCc) (cp_0_3 hS hCc) (ex_4_2 (ix_30 (j := c1) (v := ((ρ (9 + c1)).toNat : Int)) (cs_7 hS hCc) (by omega) (by omega) (by omega) ((CC_at hE.1 c1 hc).trans (Int.toNat_of_nonneg hat.1).symm) (ex_6_1 (ix_41r (cs_0 hS hCc) (cp_0_5 hS hCc) (ex_4_3 (ix_30 (j := f) (v := ((ρ (42 + f)).toNat : Int)) (cs_8 hS hCc) (by omega) (by omega) (by omega) ((CC_by hE.1 f hf).trans (Int.toNat_of_nonneg hby.1).symm) (ex_6_1 (ix_41r (cs_0 hS hCc) (cp_0_0 hS hCc) (ix_46 (S' := [(.inl (((wh (ρ 8).toNat) : Nat) : Int)), (.inl ((ρ (42 + f)).toNat : Int)), (.inl ((ρ (9 + c1)).toNat : Int)), (.inr (.inr (some (c + 1))))]) rfl (cs_1 hS hCc) (k_standing hS hCc hE.1 h8) rfl rfl ?_)))))))))))))
    have hb23 : ¬ (((m_comes ρ (ρ (9 + c1)).toNat (wh (ρ 8).toNat)).testBit (ρ (42 + f)).toNat = true)) := by exact hj
    refine (ix_46 (S' := [(.inl 0)]) rfl (cs_1 hS hCc) (k_joined_f hS hCc hE.1 (by omega) (by omega) wh_lt hb23) rfl rfl (ex_if0 (fun _ => ?_) (fun hc => by exfalso; revert hc; decide)))
    refine (ex_0 (ex_58 ?_))
    exact ex_57 (by decide) ⟨I, rfl, LF_refl⟩
  obtain ⟨o, e, I1, rfl, h⟩ := am_doQ (as := [(.inr (.inr (some 88))), (.inr (.inr (some c))), (.inl (c1 : Int)), (.inl (f : Int))]) (Nat.le_of_ble_eq_true rfl) rfl w
  exact ⟨I1, e, h⟩
theorem k_can_n {d : Nat} {G : am_G} {I : Nat → Nat → Int} {P : Nat → Nat → Option Nat} (hS : ST G P) {c : Nat} (hCc : CQ c) {ρ : Nat → Int} {n : Nat} {cl : Nat → Cl} (hE : CE G I P c ρ n cl) {c1 f : Nat} (hc : c1 < 6) (hf1 : (f : Int) < ρ 1) (hj : m_join ρ (ρ (9 + c1)).toNat (ρ (42 + f)).toNat) (hls : law_say n cl 3 (wl ρ c1 (f : Int)) = none) : ∃ I1, am_call am_B am_M (d + 4) 37 [(.inr (.inr (some 88))), (.inr (.inr (some c))), (.inl (c1 : Int)), (.inl (f : Int))] (G, I, P) = some (some (.inl 1), (G, I1, P)) ∧ (LF I I1) := by
  have h5 := RW_n1 hE.2.1
  have hf : f < 5 := by omega
  have hqc : c = 65 ∨ c = 93 ∨ c = 122 ∨ c = 139 ∨ c = 174 ∨ c = 191 := hCc
  have hat := RW_at hE.2.1 c1 hc
  have hby := RW_by hE.2.1 f hf
  have h8 := RW_sm hE.2.1
  have w : am_ex (am_call am_B am_M (d + 3)) (am_B 37) (am_B 37 0) [some (.inr (.inr (some 88))), some (.inr (.inr (some c))), some (.inl (c1 : Int)), some (.inl (f : Int))] [] (G, I, P) (fun o => ∃ I1, o = (some (.inl 1), (G, I1, P)) ∧ (LF I I1)) := by
    refine (ex_6_1 (ix_41r (cs_0 hS hCc) (cp_0_0 hS hCc) (ex_6_1 (ix_41r (cs_0 hS hCc) (cp_0_3 hS hCc) (ex_4_2 (ix_30 (j := c1) (v := ((ρ (9 + c1)).toNat : Int)) (cs_7 hS hCc) (by omega) (by omega) (by omega) ((CC_at hE.1 c1 hc).trans (Int.toNat_of_nonneg hat.1).symm) (ex_6_1 (ix_41r (cs_0 hS hCc) (cp_0_5 hS hCc) (ex_4_3 (ix_30 (j := f) (v := ((ρ (42 + f)).toNat : Int)) (cs_8 hS hCc) (by omega) (by omega) (by omega) ((CC_by hE.1 f hf).trans (Int.toNat_of_nonneg hby.1).symm) (ex_6_1 (ix_41r (cs_0 hS hCc) (cp_0_0 hS hCc) (ix_46 (S' := [(.inl (((wh (ρ 8).toNat) : Nat) : Int)), (.inl ((ρ (42 + f)).toNat : Int)), (.inl ((ρ (9 + c1)).toNat : Int)), (.inr (.inr (some (c + 1))))]) rfl (cs_1 hS hCc) (k_standing hS hCc hE.1 h8) rfl rfl ?_)))))))))))))
    have hb23 : ((m_comes ρ (ρ (9 + c1)).toNat (wh (ρ 8).toNat)).testBit (ρ (42 + f)).toNat = true) := by exact hj
    refine (ix_46 (S' := [(.inl 1)]) rfl (cs_1 hS hCc) (k_joined_t hS hCc hE.1 (by omega) (by omega) wh_lt hb23) rfl rfl (ex_if0 (fun hc => by exfalso; revert hc; decide) (fun _ => ?_)))
    refine (ex_6_0 (ex_6_1 (ex_0 (ex_4_2 (ex_4_3 ?_)))))
    obtain ⟨J34, e34, f34⟩ := k_last (d := d) hS hCc hE hc (vb := 3) (fv := (f : Int)) (by omega)
    rw [hls] at e34
    refine (ix_46 (S' := [(.inl (-2000000000))]) rfl (sh_88 hS) e34 rfl rfl (ex_0 (ex_ic1 (fun hc => by exfalso; revert hc; decide) (fun _ => ?_))))
    refine (ex_0 (ex_28 ?_))
    exact ex_57 (by decide) ⟨J34, rfl, f34⟩
  obtain ⟨o, e, I1, rfl, h⟩ := am_doQ (as := [(.inr (.inr (some 88))), (.inr (.inr (some c))), (.inl (c1 : Int)), (.inl (f : Int))]) (Nat.le_of_ble_eq_true rfl) rfl w
  exact ⟨I1, e, h⟩
theorem k_can_s {d : Nat} {G : am_G} {I : Nat → Nat → Int} {P : Nat → Nat → Option Nat} (hS : ST G P) {c : Nat} (hCc : CQ c) {ρ : Nat → Int} {n : Nat} {cl : Nat → Cl} (hE : CE G I P c ρ n cl) {c1 f : Nat} (hc : c1 < 6) (hf1 : (f : Int) < ρ 1) (hj : m_join ρ (ρ (9 + c1)).toNat (ρ (42 + f)).toNat) {v : Int} (hls : law_say n cl 3 (wl ρ c1 (f : Int)) = some v) (hvb : rkb v) : ∃ I1, am_call am_B am_M (d + 4) 37 [(.inr (.inr (some 88))), (.inr (.inr (some c))), (.inl (c1 : Int)), (.inl (f : Int))] (G, I, P) = some (some (.inl 0), (G, I1, P)) ∧ (LF I I1) := by
  have h5 := RW_n1 hE.2.1
  have hf : f < 5 := by omega
  have hqc : c = 65 ∨ c = 93 ∨ c = 122 ∨ c = 139 ∨ c = 174 ∨ c = 191 := hCc
  have hat := RW_at hE.2.1 c1 hc
  have hby := RW_by hE.2.1 f hf
  have h8 := RW_sm hE.2.1
  have hvb : -1000000000 ≤ v ∧ v ≤ 1000000000 := hvb
  have w : am_ex (am_call am_B am_M (d + 3)) (am_B 37) (am_B 37 0) [some (.inr (.inr (some 88))), some (.inr (.inr (some c))), some (.inl (c1 : Int)), some (.inl (f : Int))] [] (G, I, P) (fun o => ∃ I1, o = (some (.inl 0), (G, I1, P)) ∧ (LF I I1)) := by
    refine (ex_6_1 (ix_41r (cs_0 hS hCc) (cp_0_0 hS hCc) (ex_6_1 (ix_41r (cs_0 hS hCc) (cp_0_3 hS hCc) (ex_4_2 (ix_30 (j := c1) (v := ((ρ (9 + c1)).toNat : Int)) (cs_7 hS hCc) (by omega) (by omega) (by omega) ((CC_at hE.1 c1 hc).trans (Int.toNat_of_nonneg hat.1).symm) (ex_6_1 (ix_41r (cs_0 hS hCc) (cp_0_5 hS hCc) (ex_4_3 (ix_30 (j := f) (v := ((ρ (42 + f)).toNat : Int)) (cs_8 hS hCc) (by omega) (by omega) (by omega) ((CC_by hE.1 f hf).trans (Int.toNat_of_nonneg hby.1).symm) (ex_6_1 (ix_41r (cs_0 hS hCc) (cp_0_0 hS hCc) (ix_46 (S' := [(.inl (((wh (ρ 8).toNat) : Nat) : Int)), (.inl ((ρ (42 + f)).toNat : Int)), (.inl ((ρ (9 + c1)).toNat : Int)), (.inr (.inr (some (c + 1))))]) rfl (cs_1 hS hCc) (k_standing hS hCc hE.1 h8) rfl rfl ?_)))))))))))))
    have hb23 : ((m_comes ρ (ρ (9 + c1)).toNat (wh (ρ 8).toNat)).testBit (ρ (42 + f)).toNat = true) := by exact hj
    refine (ix_46 (S' := [(.inl 1)]) rfl (cs_1 hS hCc) (k_joined_t hS hCc hE.1 (by omega) (by omega) wh_lt hb23) rfl rfl (ex_if0 (fun hc => by exfalso; revert hc; decide) (fun _ => ?_)))
    refine (ex_6_0 (ex_6_1 (ex_0 (ex_4_2 (ex_4_3 ?_)))))
    obtain ⟨J34, e34, f34⟩ := k_last (d := d) hS hCc hE hc (vb := 3) (fv := (f : Int)) (by omega)
    rw [hls] at e34
    refine (ix_46 (S' := [(.inl v)]) rfl (sh_88 hS) e34 rfl rfl (ex_0 ?_))
    refine ex_ic1 (fun hc39 => ?_) (fun hc39 => by exfalso; omega)
    refine (ex_0 (ex_58 ?_))
    exact ex_57 (by decide) ⟨J34, rfl, f34⟩
  obtain ⟨o, e, I1, rfl, h⟩ := am_doQ (as := [(.inr (.inr (some 88))), (.inr (.inr (some c))), (.inl (c1 : Int)), (.inl (f : Int))]) (Nat.le_of_ble_eq_true rfl) rfl w
  exact ⟨I1, e, h⟩
theorem k_can_t {d : Nat} {G : am_G} {I : Nat → Nat → Int} {P : Nat → Nat → Option Nat} (hS : ST G P) {c : Nat} (hCc : CQ c) {ρ : Nat → Int} {n : Nat} {cl : Nat → Cl} (hE : CE G I P c ρ n cl) {c1 f : Nat} (hc : c1 < 6) (hf1 : (f : Int) < ρ 1) (hN : BarN n cl) (hb : m_can ρ n cl c1 f) : ∃ I1, am_call am_B am_M (d + 4) 37 [.inr (.inr (some 88)), .inr (.inr (some c)), .inl (c1 : Int), .inl (f : Int)] (G, I, P) = some (some (.inl 1), (G, I1, P)) ∧ LF I I1 := by
  have e : law_say n cl 3 (wl ρ c1 (f : Int)) = none := Classical.byContradiction fun q => hb.2 ((m_bar_iff hN).mpr q)
  exact k_can_n hS hCc hE hc hf1 hb.1 e
theorem k_can_f {d : Nat} {G : am_G} {I : Nat → Nat → Int} {P : Nat → Nat → Option Nat} (hS : ST G P) {c : Nat} (hCc : CQ c) {ρ : Nat → Int} {n : Nat} {cl : Nat → Cl} (hE : CE G I P c ρ n cl) {c1 f : Nat} (hc : c1 < 6) (hf1 : (f : Int) < ρ 1) (hN : BarN n cl) (hb : ¬ m_can ρ n cl c1 f) : ∃ I1, am_call am_B am_M (d + 4) 37 [.inr (.inr (some 88)), .inr (.inr (some c)), .inl (c1 : Int), .inl (f : Int)] (G, I, P) = some (some (.inl 0), (G, I1, P)) ∧ LF I I1 := by
  by_cases hj : m_join ρ (ρ (9 + c1)).toNat (ρ (42 + f)).toNat
  · have hbar : m_bar ρ n cl c1 f := Classical.byContradiction fun q => hb ⟨hj, q⟩
    have h5 := RW_n1 hE.2.1
    have hw := wl_ok hE.2.1 hc (show -1 ≤ (f : Int) ∧ (f : Int) < 5 by omega)
    cases hls : law_say n cl 3 (wl ρ c1 (f : Int)) with
    | none => exact absurd hls ((m_bar_iff hN).mp hbar)
    | some v => exact k_can_s hS hCc hE hc hf1 hj hls (CE_b hE hw v hls)
  · exact k_can_j hS hCc hE hc hf1 hj
theorem k_long_i {d : Nat} {G : am_G} {I : Nat → Nat → Int} {P : Nat → Nat → Option Nat} (hS : ST G P) {c : Nat} (hCc : CQ c) {ρ : Nat → Int} (hcc : CC I c ρ) {b : Nat} {o : Int} (hb : b < 6) (ho : 0 ≤ o ∧ o < 6) : am_call am_B am_M (d + 1) 75 [.inr (.inr (some (c + 1))), .inl (b : Int), .inl o] (G, I, P) = some (some (.inl (ρ (52 + 6 * b + o.toNat))), (G, I, P)) := by
  obtain ⟨n, rfl⟩ : ∃ n : Nat, o = (n : Int) := ⟨o.toNat, by omega⟩
  rw [Int.toNat_natCast]
  exact k_long hS hCc hcc hb (by omega)
theorem k_goalAs_b {d : Nat} {G : am_G} {I : Nat → Nat → Int} {P : Nat → Nat → Option Nat} (hS : ST G P) {c : Nat} (hCc : CQ c) {ρ : Nat → Int} (hcc : CC I c ρ) {c1 : Nat} (hc : c1 < 6) (hat : 0 ≤ ρ (9 + c1) ∧ ρ (9 + c1) < 6)  : am_call am_B am_M (d + 3) 34 [(.inr (.inr (some c))), (.inl (c1 : Int)), (.inl (-2000000000))] (G, I, P) = some (some (.inl (if (0 ≤ ((ρ (9 + c1) + 1) % 6) ∧ ((ρ (9 + c1) + 1) % 6) ≤ 5) ∧ 0 < ρ (52 + 6 * (ρ (9 + c1)).toNat + (((ρ (9 + c1) + 1) % 6)).toNat) then ((ρ (9 + c1) + 1) % 6) else ρ (9 + c1))), (G, I, P)) := by
  refine am_doL (L := [some (.inr (.inr (some c))), some (.inl (c1 : Int)), some (.inl (-2000000000)), none, none]) (Nat.le_of_ble_eq_true rfl) rfl ?_
  refine (ex_6_0 (ix_41r (cs_0 hS hCc) (cp_0_3 hS hCc) (ex_4_1 (ix_30 (j := c1) (v := ((ρ (9 + c1)).toNat : Int)) (cs_7 hS hCc) (by omega) (by omega) (by omega) ((CC_at hcc c1 hc).trans (Int.toNat_of_nonneg hat.1).symm) (ex_7_3 rfl (ex_4_2 (ex_0 (ex_ic1 (fun hc => by exfalso; revert hc; decide) (fun _ => ?_)))))))))
  refine (ex_4_3 (ex_0 (ex_add ⟨by omega, by omega⟩ (ex_0 (ex_12 (by decide) ((am_d4r (by omega) (by decide) (by omega) (by decide)).trans (by rw [Int.toNat_of_nonneg hat.1])) (ex_28 (ex_7_4 rfl (ex_4_4 ?_))))))))
  by_cases hb27 : ((0 : Int) ≤ ((ρ (9 + c1) + 1) % 6) ∧ (((ρ (9 + c1) + 1) % 6) : Int) < 6)
  · refine (ix_45 (S' := [(.inl 1)]) rfl (k_isBox_t hb27) rfl rfl (ex_if0 (fun hc => by exfalso; revert hc; decide) (fun _ => ?_)))
    refine (ex_6_0 (ix_41r (cs_0 hS hCc) (cp_0_0 hS hCc) (ex_4_3 (ex_4_4 (ix_46 (S' := [(.inl (ρ (52 + 6 * (ρ (9 + c1)).toNat + (((ρ (9 + c1) + 1) % 6)).toNat)))]) rfl (cs_1 hS hCc) (k_long_i hS hCc hcc (b := (ρ (9 + c1)).toNat) (by omega) (by omega)) rfl rfl ?_)))))
    refine ex_if5 (fun hc43 => ?_) (fun hc43 => ?_)
    · refine (ex_4_3 (ex_58 ?_))
      exact ex_53 (by rw [if_neg (by omega), Int.toNat_of_nonneg hat.1])
    · refine (ex_4_4 (ex_28 ?_))
      exact ex_53 (by rw [if_pos ⟨by omega, by omega⟩])
  · refine (ix_45 (S' := [(.inl 0)]) rfl (k_isBox_f hb27) rfl rfl (ex_if0 (fun _ => ?_) (fun hc => by exfalso; revert hc; decide)))
    refine (ex_4_3 (ex_58 ?_))
    exact ex_53 (by rw [if_neg (by omega), Int.toNat_of_nonneg hat.1])
theorem k_goalAs_s {d : Nat} {G : am_G} {I : Nat → Nat → Int} {P : Nat → Nat → Option Nat} (hS : ST G P) {c : Nat} (hCc : CQ c) {ρ : Nat → Int} (hcc : CC I c ρ) {c1 : Nat} (hc : c1 < 6) (hat : 0 ≤ ρ (9 + c1) ∧ ρ (9 + c1) < 6) {v : Int} (hv : ¬ v = -2000000000) : am_call am_B am_M (d + 3) 34 [(.inr (.inr (some c))), (.inl (c1 : Int)), (.inl v)] (G, I, P) = some (some (.inl (if (0 ≤ v ∧ v ≤ 5) ∧ 0 < ρ (52 + 6 * (ρ (9 + c1)).toNat + (v).toNat) then v else ρ (9 + c1))), (G, I, P)) := by
  refine am_doL (L := [some (.inr (.inr (some c))), some (.inl (c1 : Int)), some (.inl v), none, none]) (Nat.le_of_ble_eq_true rfl) rfl ?_
  refine (ex_6_0 (ix_41r (cs_0 hS hCc) (cp_0_3 hS hCc) (ex_4_1 (ix_30 (j := c1) (v := ((ρ (9 + c1)).toNat : Int)) (cs_7 hS hCc) (by omega) (by omega) (by omega) ((CC_at hcc c1 hc).trans (Int.toNat_of_nonneg hat.1).symm) (ex_7_3 rfl (ex_4_2 (ex_0 ?_)))))))
  refine ex_ic1 (fun hc10 => ?_) (fun hc10 => by exfalso; omega)
  refine (ex_4_2 (ex_58 (ex_7_4 rfl (ex_4_4 ?_))))
  by_cases hb27 : ((0 : Int) ≤ v ∧ (v : Int) < 6)
  · refine (ix_45 (S' := [(.inl 1)]) rfl (k_isBox_t hb27) rfl rfl (ex_if0 (fun hc => by exfalso; revert hc; decide) (fun _ => ?_)))
    refine (ex_6_0 (ix_41r (cs_0 hS hCc) (cp_0_0 hS hCc) (ex_4_3 (ex_4_4 (ix_46 (S' := [(.inl (ρ (52 + 6 * (ρ (9 + c1)).toNat + (v).toNat)))]) rfl (cs_1 hS hCc) (k_long_i hS hCc hcc (b := (ρ (9 + c1)).toNat) (by omega) (by omega)) rfl rfl ?_)))))
    refine ex_if5 (fun hc43 => ?_) (fun hc43 => ?_)
    · refine (ex_4_3 (ex_58 ?_))
      exact ex_53 (by rw [if_neg (by omega), Int.toNat_of_nonneg hat.1])
    · refine (ex_4_4 (ex_28 ?_))
      exact ex_53 (by rw [if_pos ⟨by omega, by omega⟩])
  · refine (ix_45 (S' := [(.inl 0)]) rfl (k_isBox_f hb27) rfl rfl (ex_if0 (fun _ => ?_) (fun hc => by exfalso; revert hc; decide)))
    refine (ex_4_3 (ex_58 ?_))
    exact ex_53 (by rw [if_neg (by omega), Int.toNat_of_nonneg hat.1])
theorem k_goalAs {d : Nat} {G : am_G} {I : Nat → Nat → Int} {P : Nat → Nat → Option Nat} (hS : ST G P) {c : Nat} (hCc : CQ c) {ρ : Nat → Int} (hcc : CC I c ρ) {n : Nat} {cl : Nat → Cl} {c1 : Nat} (hc : c1 < 6) (hat : 0 ≤ ρ (9 + c1) ∧ ρ (9 + c1) < 6) (hb : ∀ v, law_say n cl 2 (wl ρ c1 (-1)) = some v → rkb v) : am_call am_B am_M (d + 3) 34 [.inr (.inr (some c)), .inl (c1 : Int), .inl ((law_say n cl 2 (wl ρ c1 (-1))).getD (-2000000000))] (G, I, P) = some (some (.inl (m_goes ρ n cl c1)), (G, I, P)) := by
  unfold m_goes m_to
  cases hq : law_say n cl 2 (wl ρ c1 (-1)) with
  | none => exact k_goalAs_b hS hCc hcc hc hat
  | some v =>
    have hv : -1000000000 ≤ v ∧ v ≤ 1000000000 := hb v hq
    exact k_goalAs_s (v := v) hS hCc hcc hc hat (by omega)
theorem k_goal {d : Nat} {G : am_G} {I : Nat → Nat → Int} {P : Nat → Nat → Option Nat} (hS : ST G P) {c : Nat} (hCc : CQ c) {ρ : Nat → Int} {n : Nat} {cl : Nat → Cl} (hE : CE G I P c ρ n cl) {c1 : Nat} (hc : c1 < 6) : ∃ I1, am_call am_B am_M (d + 4) 33 [(.inr (.inr (some 88))), (.inr (.inr (some c))), (.inl (c1 : Int))] (G, I, P) = some (some (.inl (m_goes ρ n cl c1)), (G, I1, P)) ∧ (LF I I1) := by
  have h5 := RW_n1 hE.2.1
  have w : am_ex (am_call am_B am_M (d + 3)) (am_B 33) (am_B 33 0) [some (.inr (.inr (some 88))), some (.inr (.inr (some c))), some (.inl (c1 : Int))] [] (G, I, P) (fun o => ∃ I1, o = (some (.inl (m_goes ρ n cl c1)), (G, I1, P)) ∧ (LF I I1)) := by
    refine (ex_6_1 (ex_4_2 (ex_6_0 (ex_6_1 (ex_0 (ex_4_2 (ex_0 ?_)))))))
    obtain ⟨J7, e7, f7⟩ := k_last (d := d) hS hCc hE hc (vb := 2) (fv := -1) (by omega)
    refine (ix_46 (S' := [(.inl ((law_say n cl 2 (wl ρ c1 (-1))).getD (-2000000000))), (.inl (c1 : Int)), (.inr (.inr (some c)))]) rfl (sh_88 hS) e7 rfl rfl (ix_45 (S' := [(.inl (m_goes ρ n cl c1))]) rfl (k_goalAs (d := d) hS hCc (CC_LF hCc hE.1 f7) hc (RW_at hE.2.1 c1 hc) (CE_b hE (wl_ok hE.2.1 hc (by omega)))) rfl rfl ?_))
    exact ex_53 ⟨J7, rfl, f7⟩
  obtain ⟨o, e, I1, rfl, h⟩ := am_doQ (as := [(.inr (.inr (some 88))), (.inr (.inr (some c))), (.inl (c1 : Int))]) (Nat.le_of_ble_eq_true rfl) rfl w
  exact ⟨I1, e, h⟩
def k_go (n : Nat) (cl : Nat → Cl) (i : Nat) (ρ : Nat → Int) : Nat → Int := am_u1 ρ (9 + i) (m_goes ρ n cl i)
theorem wl_go {ρ ρ' : Nat → Int} {c : Nat} (h : ∀ j, ¬ (9 ≤ j ∧ j < 15) → ρ' j = ρ j) (h2 : ρ' (9 + c) = ρ (9 + c)) (hc : c < 6) : wl ρ' c (-1) = wl ρ c (-1) := by
  funext i
  unfold wl
  rw [h (30 + c) (by omega), h (36 + c) (by omega), h2, h 5 (by omega), h 7 (by omega)]
  rfl
theorem m_goes_go {ρ ρ' : Nat → Int} {n c : Nat} {cl : Nat → Cl} (hR : RW ρ) (h : ∀ j, ¬ (9 ≤ j ∧ j < 15) → ρ' j = ρ j) (h2 : ρ' (9 + c) = ρ (9 + c)) (hc : c < 6) : m_goes ρ' n cl c = m_goes ρ n cl c := by
  have e : m_to ρ' n cl c = m_to ρ n cl c := by unfold m_to; rw [wl_go h h2 hc, h2]
  have ha := RW_at hR c hc
  unfold m_goes
  rw [e, h2]
  by_cases q : 0 ≤ m_to ρ n cl c ∧ m_to ρ n cl c ≤ 5
  · rw [h _ (by omega)]
  · rw [if_neg (fun z => q z.1), if_neg (fun z => q z.1)]
theorem k_go_cp {ρ : Nat → Int} {n i : Nat} {cl : Nat → Cl} (hR : RW ρ) (hi : i < 6) : k_go n cl i (am_cp (fun c => m_goes ρ n cl c) ρ 0 9 i) = am_cp (fun c => m_goes ρ n cl c) ρ 0 9 (i + 1) := by
  unfold k_go
  rw [m_goes_go hR (ρ := ρ) (fun j hj => cp_out (by omega)) (cp_out (by omega)) hi]
  funext j
  unfold am_u1
  by_cases e : j = 9 + i
  · rw [if_pos e, cp_in (by omega)]
    exact congrArg (fun c => m_goes ρ n cl c) (by omega)
  · rw [if_neg e]
    by_cases q : 9 ≤ j ∧ j < 9 + i
    · rw [cp_in q, cp_in (by omega)]
    · rw [cp_out q, cp_out (by omega)]
theorem CE_set {G : am_G} {I J : Nat → Nat → Int} {P : Nat → Nat → Option Nat} {c n : Nat} {ρ ρ' : Nat → Int} {cl : Nat → Cl} (h : CE G I P c ρ n cl) (h1 : CC J c ρ') (h2 : RW ρ') (h4 : ρ' 4 = ρ 4) (hf : ∀ q k, 240 ≤ q → J q k = I q k) : CE G J P c ρ' n cl := by
  refine ⟨h1, h2, ?_⟩
  have := LWn_fr h.2.2 hf
  unfold LWn at this ⊢
  rw [h4]; exact this
theorem k_letGo {d : Nat} {G : am_G} {I : Nat → Nat → Int} {P : Nat → Nat → Option Nat} (hS : ST G P) {c : Nat} (hCc : CQ c) {ρ : Nat → Int} {n : Nat} {cl : Nat → Cl} (hE : CE G I P c ρ n cl) {N : Nat} (hN : ρ 0 = (N : Int)) (h59 : ρ 5 ≤ 1099) : ∃ I1, am_call am_B am_M (d + 4) 35 [(.inr (.inr (some 88))), (.inr (.inr (some c)))] (G, I, P) = some (none, (G, I1, P)) ∧ (CE G I1 P c (m_pass ρ n cl) n cl ∧ (∀ q k, ¬ q = 89 → ¬ q = 90 → ¬ q = c + 7 → ¬ q = c + 15 → I1 q k = I q k)) := by
  have hn6 := RW_n0 hE.2.1
  have hqc : c = 65 ∨ c = 93 ∨ c = 122 ∨ c = 139 ∨ c = 174 ∨ c = 191 := hCc
  have w : am_ex (am_call am_B am_M (d + 3)) (am_B 35) (am_B 35 0) [some (.inr (.inr (some 88))), some (.inr (.inr (some c))), none] [] (G, I, P) (fun o => ∃ I1, o = (none, (G, I1, P)) ∧ (CE G I1 P c (m_pass ρ n cl) n cl ∧ (∀ q k, ¬ q = 89 → ¬ q = 90 → ¬ q = c + 7 → ¬ q = c + 15 → I1 q k = I q k))) := by
    refine (ex_0 (ex_7_2 rfl (ex_58 ?_)))
    refine ex_forR (b := 1) (σ := Nat → Int) (N) (fun i s => k_go n cl i s) (fun i s J => CE G J P c s n cl ∧ s = am_cp (fun c => m_goes ρ n cl c) ρ 0 9 i ∧ (∀ q k, ¬ q = 89 → ¬ q = 90 → ¬ q = c + 7 → J q k = I q k)) (fun i s e_i => [some (.inr (.inr (some 88))), some (.inr (.inr (some c))), some (.inl (i : Int))]) ?_ (N) (0) (ρ) (fun k_ => ([some (.inr (.inr (some 88))), some (.inr (.inr (some c))), some (.inl 0)] : am_L).getD k_ none) (I) (by omega) (⟨hE, (funext fun j => (cp_out (by omega)).symm), fun _ _ _ _ _ => rfl⟩) rfl ?_
    · intro i s e_i J hii hvi hki
      obtain ⟨hEi, hsp, hfi⟩ := hvi
      have hs0 : s 0 = ρ 0 := by rw [hsp]; exact cp_out (by omega)
      have h5i := RW_n1 hEi.2.1
      refine (ex_4_2 (ex_6_1 (ix_41i (v := (N : Int)) (cs_0 hS hCc) ((CC_n0 hEi.1).trans (hs0.trans hN)) ?_)))
      refine ex_ic3 (fun hc7 => by exfalso; omega) (fun hc7 => ?_)
      refine (ex_6_1 (ix_41r (cs_0 hS hCc) (cp_0_3 hS hCc) (ex_4_2 (ex_6_1 (ex_4_2 (ex_6_0 (ex_6_1 (ex_0 (ex_4_2 (ex_0 ?_))))))))))
      obtain ⟨J22, e22, f22⟩ := k_last (d := d) hS hCc hEi (c1 := i) (by omega) (vb := 2) (fv := -1) (by omega)
      refine (ix_46 (S' := [(.inl ((law_say n cl 2 (wl s i (-1))).getD (-2000000000))), (.inl (i : Int)), (.inr (.inr (some c))), (.inl (i : Int)), (.inr (.inr (some (c + 7))))]) rfl (sh_88 hS) e22 rfl rfl (ix_45 (S' := [(.inl (m_goes s n cl i)), (.inl (i : Int)), (.inr (.inr (some (c + 7))))]) rfl (k_goalAs (d := d) hS hCc (CC_LF hCc hEi.1 f22) (c1 := i) (by omega) (RW_at hEi.2.1 i (by omega)) (CE_b hEi (wl_ok hEi.2.1 (show i < 6 by omega) (by omega)))) rfl rfl (ix_34 (j := i) (cs_7 hS hCc) (by omega) (by omega) (by omega) (ex_10_2 ⟨by omega, by omega⟩ rfl (ex_28 ?_)))))
      exact hki (k_go n cl i s) (fun k_ => ([some (.inr (.inr (some 88))), some (.inr (.inr (some c))), some (.inl ((i : Int) + 1))] : am_L).getD k_ none) _ (rfl) (⟨CE_set hEi (CCs_at (CC_LF hCc hEi.1 f22) (show i < 6 by omega)) (RWs_at hEi.2.1 (show i < 6 by omega) (m_goes_b hEi.2.1 (by omega))) (by show am_u1 s (9 + i) _ 4 = s 4; unfold am_u1; rw [if_neg (by omega)]) (fun q k h => (u2_q (by omega)).trans (f22 q k (by omega) (by omega))), (by rw [hsp]; exact k_go_cp hE.2.1 (by omega)), fun q k h1 h2 h3 => (u2_q h3).trans ((f22 q k h1 h2).trans (hfi q k h1 h2 h3))⟩)
    · intro s e_i J hsi hvi
      obtain ⟨hEi, hsp, hfi⟩ := hvi
      have hs0 : s 0 = ρ 0 := by rw [hsp]; exact cp_out (by omega)
      have h5i := RW_ni hEi.2.1
      have hs5 : s 5 = ρ 5 := by rw [hsp]; exact cp_out (by omega)
      refine (ex_4_2 (ex_6_1 (ix_41i (v := (N : Int)) (cs_0 hS hCc) ((CC_n0 hEi.1).trans (hs0.trans hN)) ?_)))
      refine ex_ic3 (fun hc7 => ?_) (fun hc7 => by exfalso; omega)
      refine (ex_6_1 (ix_41r (cs_0 hS hCc) (cp_0_14 hS hCc) (ex_0 (ex_23 rfl (ix_30 (j := 0) (v := (s 5)) (cs_15 hS hCc) (by decide) (by decide) rfl (CC_te hEi.1 0 (by decide)) (ex_0 (ex_add ⟨by omega, by omega⟩ (ix_34 (j := 0) (cs_15 hS hCc) (by decide) (by decide) rfl ?_))))))))
      exact ex_56 ⟨_, rfl, CE_set hEi (by have e := CCs_te (v := ρ 5 + 1) hEi.1 (i := 0) (by decide); rw [hsp] at e ⊢; unfold m_pass; rw [hN, Int.toNat_natCast]; rw [show (am_cp (fun c => m_goes ρ n cl c) ρ 0 9 N) 5 + 1 = ρ 5 + 1 from by rw [cp_out (by omega)]]; exact e) (RW_pass hE.2.1 h59) ((m_pass_out hE.2.1 (by omega)).trans (by rw [hsp]; exact (cp_out (by omega)).symm)) (fun q k h => u2_q (by omega)), fun q k h1 h2 h3 h4 => (u2_q h4).trans (hfi q k h1 h2 h3)⟩
  obtain ⟨o, e, I1, rfl, h⟩ := am_doQ (as := [(.inr (.inr (some 88))), (.inr (.inr (some c)))]) (Nat.le_of_ble_eq_true rfl) rfl w
  exact ⟨I1, e, h⟩
