/-! ===== the reference reads a clause of orders, whole ===== -/
theorem cx17_n {d : Nat} {G : am_G} {I J : Nat → Nat → Int} {P : Nat → Nat → Option Nat} (hS : ST G P) {b : Nat → Int} {n : Nat} (hB : TB b n) {s l c i : Nat} {c0 v : Nat} {o1 : Option Fn} {r : Nat ⊕ (Nat × Nat × Oc)} (hi : i < 12) (hv4 : v < 4) (hn1 : o1 = none ↔ v = 3) (hC : CO I J b n i c0 s l c v o1 none) (hr : r = stOK b n true v o1 s l) (hv0 : ¬ v = 0) : am_ex (am_call am_B am_M (d + 8)) (am_B 275) (am_B 275 17) [some (.inr (.inr (some 208))), some (.inl (v : Int)), some (.inl ((8 * i : Nat) : Int)), some (.inl 8)] [] (G, J, P) (QK G P b n true 238 MO I c0 i r) := by
  refine (ex_4_1 ?_)
  refine ex_if1 (fun hc126 => ?_) (fun hc126 => by exfalso; omega)
  exact cx21 hS hB hi hv4 hn1 ⟨fun _ => hv0, fun _ => rfl⟩ hC (by rw [hr]; unfold stOK stO st23 st2; rw [if_pos rfl, if_neg hv0]; simp only [bnd]; cases st3 b n s with | inl x => rfl | inr t => rfl)
theorem cx17_f {d : Nat} {G : am_G} {I J : Nat → Nat → Int} {P : Nat → Nat → Option Nat} (hS : ST G P) {b : Nat → Int} {n : Nat} (hB : TB b n) {s l c i : Nat} {c0 v : Nat} {o1 : Option Fn} {r : Nat ⊕ (Nat × Nat × Oc)} (hi : i < 12) (hv4 : v < 4) (hn1 : o1 = none ↔ v = 3) (hC : CO I J b n i c0 s l c v o1 none) (hr : r = stOK b n true v o1 s l) (hv0 : v = 0) (hto : ¬ tk b n s = [116, 111]) : am_ex (am_call am_B am_M (d + 8)) (am_B 275) (am_B 275 17) [some (.inr (.inr (some 208))), some (.inl (v : Int)), some (.inl ((8 * i : Nat) : Int)), some (.inl 8)] [] (G, J, P) (QK G P b n true 238 MO I c0 i r) := by
  obtain ⟨hX, hc0, h21, hv, h1, h2, hF⟩ := hC
  have hn4 := hB.1
  have hs := MX_s hX
  refine (ex_4_1 ?_)
  refine ex_if1 (fun hc126 => by exfalso; omega) (fun hc126 => ?_)
  refine (ex_6_0 (ix_41i (v := 0) (sh_208 hS) (MX_b hX) (ex_if1 (fun hc => by exfalso; revert hc; decide) (fun _ => ?_))))
  refine (ex_6_0 (ex_6_0 (ex_1 (ix_46 (S' := [(.inl 0), (.inr (.inr (some 208)))]) rfl (sh_208 hS) (c_isW_f hS hB (MX_M hX) (MX_s hX) (v := 655) [116, 111] (lets_of rfl) (by decide) (by decide) hto) rfl rfl (ix_46 (S' := []) rfl (sh_208 hS) (c_must_f hS (MX_M hX).2.1 (MX_b hX)) rfl rfl (ex_58 ?_))))))
  exact cx20_b (s := s) (l := l) (c := c) hS hB hi ((u2_k (by decide)).trans u2_e) u2_e (fun q k a1 a2 a3 => (u2_o (by omega)).trans ((u2_o (by omega)).trans ((MLF_MCF hF (Or.inr rfl)) q k a1 a2 a3))) (by rw [hr]; unfold stOK stO st23 st2; rw [if_pos rfl, if_pos hv0, if_neg hto]; rfl)
theorem cx17_x {d : Nat} {G : am_G} {I J : Nat → Nat → Int} {P : Nat → Nat → Option Nat} (hS : ST G P) {b : Nat → Int} {n : Nat} (hB : TB b n) {s l c i : Nat} {c0 v : Nat} {o1 : Option Fn} {r : Nat ⊕ (Nat × Nat × Oc)} (hi : i < 12) (hv4 : v < 4) (hn1 : o1 = none ↔ v = 3) (hC : CO I J b n i c0 s l c v o1 none) (hr : r = stOK b n true v o1 s l) (hv0 : v = 0) (hto : tk b n s = [116, 111]) {x : Nat} (hpv : px_sum b n true 8 (nx b n s) l = .inl x) : am_ex (am_call am_B am_M (d + 8)) (am_B 275) (am_B 275 17) [some (.inr (.inr (some 208))), some (.inl (v : Int)), some (.inl ((8 * i : Nat) : Int)), some (.inl 8)] [] (G, J, P) (QK G P b n true 238 MO I c0 i r) := by
  obtain ⟨hX, hc0, h21, hv, h1, h2, hF⟩ := hC
  have hn4 := hB.1
  have hs := MX_s hX
  have hlt := tk_lt hs hto
  have hnx := nx_2 (b := b) s hlt
  refine (ex_4_1 ?_)
  refine ex_if1 (fun hc126 => by exfalso; omega) (fun hc126 => ?_)
  refine (ex_6_0 (ix_41i (v := 0) (sh_208 hS) (MX_b hX) (ex_if1 (fun hc => by exfalso; revert hc; decide) (fun _ => ?_))))
  refine (ex_6_0 (ex_6_0 (ex_1 (ix_46 (S' := [(.inl 1), (.inr (.inr (some 208)))]) rfl (sh_208 hS) (c_isW_t hS hB (MX_M hX) (MX_s hX) (v := 655) [116, 111] (lets_of rfl) (by decide) (by decide) hto) rfl rfl ?_))))
  obtain ⟨J3, e3, m3, f3⟩ := c_must_t (d := d + 5) hS hB (MX_M hX) (MX_s hX) (MX_b hX)
  have hX3 := MX_next hX hlt m3 f3
  refine (ix_46 (S' := []) rfl (sh_208 hS) e3 rfl rfl (ex_58 (ex_6_0 (ex_4_2 (ex_0 (ex_11e (v := ((8 * i + 3 : Nat) : Int)) ((am_add ⟨by omega, by omega⟩).trans (by omega)) ?_))))))
  obtain ⟨o_, eo, qo⟩ := cs (d := d) (a := 8 * i + 3) hS hB hX3 (by omega)
  rw [hpv] at qo
  obtain ⟨J4, rfl, b4, x4, f4⟩ := qo
  refine (ix_46 (S' := []) rfl (sh_208 hS) eo rfl rfl (ex_58 ?_))
  exact cx21_b (s := s) (l := l) (c := c) hS hB hi b4 x4 (MLF_trans (MLF_MCF hF (Or.inr rfl)) (MLF_trans (MLF_MFr (MFr_MKF (c := 0) f3)) f4)) (by rw [hr]; unfold stOK stO st23 st2; rw [if_pos rfl, if_pos hv0, if_pos hto, hpv]; rfl)
theorem cx17_s {d : Nat} {G : am_G} {I J : Nat → Nat → Int} {P : Nat → Nat → Option Nat} (hS : ST G P) {b : Nat → Int} {n : Nat} (hB : TB b n) {s l c i : Nat} {c0 v : Nat} {o1 : Option Fn} {r : Nat ⊕ (Nat × Nat × Oc)} (hi : i < 12) (hv4 : v < 4) (hn1 : o1 = none ↔ v = 3) (hC : CO I J b n i c0 s l c v o1 none) (hr : r = stOK b n true v o1 s l) (hv0 : v = 0) (hto : tk b n s = [116, 111]) {s4 l4 : Nat} {g : Fn} (hpv : px_sum b n true 8 (nx b n s) l = .inr (s4, l4, g)) (hVg : Vs g) : am_ex (am_call am_B am_M (d + 8)) (am_B 275) (am_B 275 17) [some (.inr (.inr (some 208))), some (.inl (v : Int)), some (.inl ((8 * i : Nat) : Int)), some (.inl 8)] [] (G, J, P) (QK G P b n true 238 MO I c0 i r) := by
  obtain ⟨hX, hc0, h21, hv, h1, h2, hF⟩ := hC
  have hn4 := hB.1
  have hs := MX_s hX
  have hlt := tk_lt hs hto
  have hnx := nx_2 (b := b) s hlt
  refine (ex_4_1 ?_)
  refine ex_if1 (fun hc126 => by exfalso; omega) (fun hc126 => ?_)
  refine (ex_6_0 (ix_41i (v := 0) (sh_208 hS) (MX_b hX) (ex_if1 (fun hc => by exfalso; revert hc; decide) (fun _ => ?_))))
  refine (ex_6_0 (ex_6_0 (ex_1 (ix_46 (S' := [(.inl 1), (.inr (.inr (some 208)))]) rfl (sh_208 hS) (c_isW_t hS hB (MX_M hX) (MX_s hX) (v := 655) [116, 111] (lets_of rfl) (by decide) (by decide) hto) rfl rfl ?_))))
  obtain ⟨J3, e3, m3, f3⟩ := c_must_t (d := d + 5) hS hB (MX_M hX) (MX_s hX) (MX_b hX)
  have hX3 := MX_next hX hlt m3 f3
  refine (ix_46 (S' := []) rfl (sh_208 hS) e3 rfl rfl (ex_58 (ex_6_0 (ex_4_2 (ex_0 (ex_11e (v := ((8 * i + 3 : Nat) : Int)) ((am_add ⟨by omega, by omega⟩).trans (by omega)) ?_))))))
  obtain ⟨o_, eo, qo⟩ := cs (d := d) (a := 8 * i + 3) hS hB hX3 (by omega)
  rw [hpv] at qo
  obtain ⟨J4, c4, rfl, hX4, hM4, ha4, hb4, f4⟩ := qo
  refine (ix_46 (S' := []) rfl (sh_208 hS) eo rfl rfl (ex_58 ?_))
  have hcc := hM4.1
  have f34 : ∀ q k, ((q = 238 ∧ ¬ k = 8 * i + 3 ∧ ¬ k = 8 * i + 4) ∨ ((q = 219 ∨ q = 220) ∧ k < c) ∨ (q = 208 ∧ k = 21)) → J4 q k = J q k := fun q k hq => (f4 q k (by omega) (by omega) (by omega) (by omega)).trans (f3 q k (by omega))
  have hrow : ∀ k, k < c → J4 219 k = J 219 k ∧ J4 220 k = J 220 k := fun k hk => ⟨f34 _ _ (by omega), f34 _ _ (by omega)⟩
  exact cx21 hS hB hi hv4 hn1 (o2 := some g) ⟨fun hh => (by cases hh), fun hh => absurd hv0 hh⟩ ⟨hX4, by omega, (f34 _ _ (by omega)).trans h21, (f34 _ _ (by omega)).trans hv, SE_mono h1 (f34 _ _ (by omega)) (f34 _ _ (by omega)) hrow (by omega), ⟨c, c4, ha4, hb4, Nat.le_refl _, fun hh => (by cases hh), fun f hf => by cases hf; exact ⟨hM4, hVg⟩⟩, fun q k a1 a2 a3 a4 => (f4 q k (by omega) (by omega) (by omega) (by omega)).trans ((f3 q k (by omega)).trans (hF q k a1 a2 a3 a4))⟩ (by rw [hr]; unfold stOK stO st23 st2; rw [if_pos rfl, if_pos hv0, if_pos hto, hpv]; simp only [bnd, st_w]; cases st3 b n s4 with | inl x => rfl | inr t => rfl)
theorem cx17 {d : Nat} {G : am_G} {I J : Nat → Nat → Int} {P : Nat → Nat → Option Nat} (hS : ST G P) {b : Nat → Int} {n : Nat} (hB : TB b n) {s l c i : Nat} {c0 v : Nat} {o1 : Option Fn} {r : Nat ⊕ (Nat × Nat × Oc)} (hi : i < 12) (hv4 : v < 4) (hn1 : o1 = none ↔ v = 3) (hC : CO I J b n i c0 s l c v o1 none) (hr : r = stOK b n true v o1 s l) : am_ex (am_call am_B am_M (d + 8)) (am_B 275) (am_B 275 17) [some (.inr (.inr (some 208))), some (.inl (v : Int)), some (.inl ((8 * i : Nat) : Int)), some (.inl 8)] [] (G, J, P) (QK G P b n true 238 MO I c0 i r) := by
  by_cases hv0 : v = 0
  · by_cases hto : tk b n s = [116, 111]
    · have hnx := nx_2 (b := b) s (tk_lt (MX_s hC.1) hto)
      have hg := px_sum_ok (b := b) (n := n) (od := true) 8 (nx b n s) l hnx.2 (MX_l hC.1)
      cases hpv : px_sum b n true 8 (nx b n s) l with
      | inl x => exact cx17_x hS hB hi hv4 hn1 hC hr hv0 hto hpv
      | inr q => obtain ⟨s4, l4, g⟩ := q; rw [hpv] at hg; exact cx17_s hS hB hi hv4 hn1 hC hr hv0 hto hpv hg.2.2.2.2
    · exact cx17_f hS hB hi hv4 hn1 hC hr hv0 hto
  · exact cx17_n hS hB hi hv4 hn1 hC hr hv0
theorem cx12_p {d : Nat} {G : am_G} {I J : Nat → Nat → Int} {P : Nat → Nat → Option Nat} (hS : ST G P) {b : Nat → Int} {n : Nat} (hB : TB b n) {s l c i : Nat} {v : Nat} {r : Nat ⊕ (Nat × Nat × Oc)} (hi : i < 12) (hX : MX J b n true s l c) (h21 : J 208 21 = (i : Int)) (hv4 : v < 4) (hF : MCF 238 c i I J) (hr : r = st1K b n true v s l) (h3 : v = 3) : am_ex (am_call am_B am_M (d + 8)) (am_B 275) (am_B 275 12) [some (.inr (.inr (some 208))), some (.inl (v : Int)), some (.inl 4), none] [] (G, J, P) (QK G P b n true 238 MO I c i r) := by
  have hn4 := hB.1
  have hs := MX_s hX
  refine (ex_0 (ex_6_0 (ix_41i (v := (i : Int)) (sh_208 hS) h21 (ex_11e (v := ((8 * i : Nat) : Int)) ((am_mul ⟨by omega, by omega⟩).trans (by omega)) (ex_7_2 rfl (ex_6_0 (ex_22 rfl (ix_41i (v := (i : Int)) (sh_208 hS) h21 (ex_0 (ex_add ⟨by omega, by omega⟩ (ix_42i (sh_208 hS) (ex_0 (ex_7_3 rfl (ex_58 ?_))))))))))))))
  refine ex_forR (b := 13) (σ := Unit) (8) (fun j u => u) (fun j u K => MX K b n true s l c ∧ K 208 21 = ((i + 1 : Nat) : Int) ∧ (∀ e, e < j → K 238 (8 * i + e) = 0) ∧ MCF 238 c i I K) (fun j u e_j => [some (.inr (.inr (some 208))), some (.inl (v : Int)), some (.inl ((8 * i : Nat) : Int)), some (.inl (j : Int))]) ?_ (8) (0) (()) (fun k_ => ([some (.inr (.inr (some 208))), some (.inl (v : Int)), some (.inl ((8 * i : Nat) : Int)), some (.inl 0)] : am_L).getD k_ none) ((am_u2 J 208 21 ((i : Int) + 1))) (by omega) (⟨MX_fr hX (fun q k hq => u2_o (by omega)), u2_e, fun e he => absurd he (by omega), fun q k a1 a2 a3 a4 => (u2_o (by omega)).trans (hF q k a1 a2 a3 a4)⟩) rfl ?_
  · intro j u e_j K hij hvj hkj
    obtain ⟨hXj, h21j, hzj, hFj⟩ := hvj
    refine (ex_4_3 (ex_0 ?_))
    refine ex_ic3 (fun hc88 => by exfalso; omega) (fun hc88 => ?_)
    refine (ex_6_0 (ix_41r (sh_208 hS) (pt_208_50 hS) (ex_4_2 (ex_4_3 (ex_11e (v := ((8 * i + j : Nat) : Int)) ((am_add ⟨by omega, by omega⟩).trans (by omega)) (ex_0 (ix_34 (j := (8 * i + j)) (sh_238 hS) (by omega) (by omega) (by omega) (ex_10_3 ⟨by omega, by omega⟩ rfl (ex_28 ?_)))))))))
    exact hkj (()) (fun k_ => ([some (.inr (.inr (some 208))), some (.inl (v : Int)), some (.inl ((8 * i : Nat) : Int)), some (.inl ((j : Int) + 1))] : am_L).getD k_ none) _ (rfl) (⟨MX_fr hXj (fun q k hq => u2_o (by omega)), (u2_q (by decide)).trans h21j, fun e he => (by by_cases e0 : e = j; (rw [e0]; exact u2_e); (exact (u2_k (by omega)).trans (hzj e (by omega)))), MCF_w hFj hij⟩)
  · intro u e_j K hsj hvj
    obtain ⟨hXj, h21j, hzj, hFj⟩ := hvj
    refine (ex_4_3 (ex_0 ?_))
    refine ex_ic3 (fun hc88 => ?_) (fun hc88 => by exfalso; omega)
    refine (ex_6_0 (ix_41r (sh_208 hS) (pt_208_50 hS) (ex_4_2 (ex_4_1 (ix_34 (j := (8 * i)) (sh_238 hS) (by omega) (by omega) (by omega) (ex_4_1 (ex_0 ?_)))))))
    refine ex_ic0 (fun hc115 => ?_) (fun hc115 => by exfalso; omega)
    have hX3 : MX (am_u2 K 238 (8 * i) (v : Int)) b n true s l c := MX_fr hXj (fun q k hq => u2_o (by omega))
    have z : ∀ e, 0 < e → e < 8 → (am_u2 K 238 (8 * i) (v : Int)) 238 (8 * i + e) = 0 := fun e h0 h8 => (u2_k (by omega)).trans (hzj e h8)
    have hFk : MCF 238 c i I (am_u2 K 238 (8 * i) (v : Int)) := MCF_w0 hFj
    have h21k : (am_u2 K 238 (8 * i) (v : Int)) 208 21 = ((i + 1 : Nat) : Int) := (u2_q (by decide)).trans h21j
    have hSN : ∀ e, (e = 1 ∨ e = 3) → SE true (am_u2 K 238 (8 * i) (v : Int)) 238 i e c none := fun e he => ⟨0, 0, z e (by omega) (by omega), z (e + 1) (by omega) (by omega), Nat.zero_le _, fun _ => rfl, fun f hf => (by cases hf)⟩
    exact cx17 hS hB hi hv4 (o1 := none) ⟨fun _ => h3, fun _ => rfl⟩ ⟨hX3, Nat.le_refl _, h21k, u2_e, hSN 1 (Or.inl rfl), hSN 3 (Or.inr rfl), hFk⟩ (by rw [hr]; unfold st1K st1; rw [if_pos h3]; rfl)
theorem cx12_x {d : Nat} {G : am_G} {I J : Nat → Nat → Int} {P : Nat → Nat → Option Nat} (hS : ST G P) {b : Nat → Int} {n : Nat} (hB : TB b n) {s l c i : Nat} {v : Nat} {r : Nat ⊕ (Nat × Nat × Oc)} (hi : i < 12) (hX : MX J b n true s l c) (h21 : J 208 21 = (i : Int)) (hv4 : v < 4) (hF : MCF 238 c i I J) (hr : r = st1K b n true v s l) (h3 : ¬ v = 3) {x : Nat} (hpv : px_sum b n true 8 s l = .inl x) : am_ex (am_call am_B am_M (d + 8)) (am_B 275) (am_B 275 12) [some (.inr (.inr (some 208))), some (.inl (v : Int)), some (.inl 4), none] [] (G, J, P) (QK G P b n true 238 MO I c i r) := by
  have hn4 := hB.1
  have hs := MX_s hX
  refine (ex_0 (ex_6_0 (ix_41i (v := (i : Int)) (sh_208 hS) h21 (ex_11e (v := ((8 * i : Nat) : Int)) ((am_mul ⟨by omega, by omega⟩).trans (by omega)) (ex_7_2 rfl (ex_6_0 (ex_22 rfl (ix_41i (v := (i : Int)) (sh_208 hS) h21 (ex_0 (ex_add ⟨by omega, by omega⟩ (ix_42i (sh_208 hS) (ex_0 (ex_7_3 rfl (ex_58 ?_))))))))))))))
  refine ex_forR (b := 13) (σ := Unit) (8) (fun j u => u) (fun j u K => MX K b n true s l c ∧ K 208 21 = ((i + 1 : Nat) : Int) ∧ (∀ e, e < j → K 238 (8 * i + e) = 0) ∧ MCF 238 c i I K) (fun j u e_j => [some (.inr (.inr (some 208))), some (.inl (v : Int)), some (.inl ((8 * i : Nat) : Int)), some (.inl (j : Int))]) ?_ (8) (0) (()) (fun k_ => ([some (.inr (.inr (some 208))), some (.inl (v : Int)), some (.inl ((8 * i : Nat) : Int)), some (.inl 0)] : am_L).getD k_ none) ((am_u2 J 208 21 ((i : Int) + 1))) (by omega) (⟨MX_fr hX (fun q k hq => u2_o (by omega)), u2_e, fun e he => absurd he (by omega), fun q k a1 a2 a3 a4 => (u2_o (by omega)).trans (hF q k a1 a2 a3 a4)⟩) rfl ?_
  · intro j u e_j K hij hvj hkj
    obtain ⟨hXj, h21j, hzj, hFj⟩ := hvj
    refine (ex_4_3 (ex_0 ?_))
    refine ex_ic3 (fun hc88 => by exfalso; omega) (fun hc88 => ?_)
    refine (ex_6_0 (ix_41r (sh_208 hS) (pt_208_50 hS) (ex_4_2 (ex_4_3 (ex_11e (v := ((8 * i + j : Nat) : Int)) ((am_add ⟨by omega, by omega⟩).trans (by omega)) (ex_0 (ix_34 (j := (8 * i + j)) (sh_238 hS) (by omega) (by omega) (by omega) (ex_10_3 ⟨by omega, by omega⟩ rfl (ex_28 ?_)))))))))
    exact hkj (()) (fun k_ => ([some (.inr (.inr (some 208))), some (.inl (v : Int)), some (.inl ((8 * i : Nat) : Int)), some (.inl ((j : Int) + 1))] : am_L).getD k_ none) _ (rfl) (⟨MX_fr hXj (fun q k hq => u2_o (by omega)), (u2_q (by decide)).trans h21j, fun e he => (by by_cases e0 : e = j; (rw [e0]; exact u2_e); (exact (u2_k (by omega)).trans (hzj e (by omega)))), MCF_w hFj hij⟩)
  · intro u e_j K hsj hvj
    obtain ⟨hXj, h21j, hzj, hFj⟩ := hvj
    refine (ex_4_3 (ex_0 ?_))
    refine ex_ic3 (fun hc88 => ?_) (fun hc88 => by exfalso; omega)
    refine (ex_6_0 (ix_41r (sh_208 hS) (pt_208_50 hS) (ex_4_2 (ex_4_1 (ix_34 (j := (8 * i)) (sh_238 hS) (by omega) (by omega) (by omega) (ex_4_1 (ex_0 ?_)))))))
    refine ex_ic0 (fun hc115 => by exfalso; omega) (fun hc115 => ?_)
    refine (ex_6_0 (ex_4_2 (ex_0 (ex_11e (v := ((8 * i + 1 : Nat) : Int)) ((am_add ⟨by omega, by omega⟩).trans (by omega)) ?_))))
    have hX3 : MX (am_u2 K 238 (8 * i) (v : Int)) b n true s l c := MX_fr hXj (fun q k hq => u2_o (by omega))
    have z : ∀ e, 0 < e → e < 8 → (am_u2 K 238 (8 * i) (v : Int)) 238 (8 * i + e) = 0 := fun e h0 h8 => (u2_k (by omega)).trans (hzj e h8)
    have hFk : MCF 238 c i I (am_u2 K 238 (8 * i) (v : Int)) := MCF_w0 hFj
    have h21k : (am_u2 K 238 (8 * i) (v : Int)) 208 21 = ((i + 1 : Nat) : Int) := (u2_q (by decide)).trans h21j
    have hSN : ∀ e, (e = 1 ∨ e = 3) → SE true (am_u2 K 238 (8 * i) (v : Int)) 238 i e c none := fun e he => ⟨0, 0, z e (by omega) (by omega), z (e + 1) (by omega) (by omega), Nat.zero_le _, fun _ => rfl, fun f hf => (by cases hf)⟩
    obtain ⟨o_, eo, qo⟩ := cs (d := d) (a := 8 * i + 1) hS hB hX3 (by omega)
    rw [hpv] at qo
    obtain ⟨J4, rfl, b4, x4, f4⟩ := qo
    refine (ix_46 (S' := []) rfl (sh_208 hS) eo rfl rfl (ex_58 ?_))
    exact cx17_b (s := s) (l := l) (c := c) hS hB hi b4 x4 (MLF_trans (MLF_MCF hFk (Or.inr rfl)) f4) (by rw [hr]; unfold st1K st1; rw [if_neg h3, hpv]; rfl)
theorem cx12_s {d : Nat} {G : am_G} {I J : Nat → Nat → Int} {P : Nat → Nat → Option Nat} (hS : ST G P) {b : Nat → Int} {n : Nat} (hB : TB b n) {s l c i : Nat} {v : Nat} {r : Nat ⊕ (Nat × Nat × Oc)} (hi : i < 12) (hX : MX J b n true s l c) (h21 : J 208 21 = (i : Int)) (hv4 : v < 4) (hF : MCF 238 c i I J) (hr : r = st1K b n true v s l) (h3 : ¬ v = 3) {s4 l4 : Nat} {g : Fn} (hpv : px_sum b n true 8 s l = .inr (s4, l4, g)) (hVg : Vs g) : am_ex (am_call am_B am_M (d + 8)) (am_B 275) (am_B 275 12) [some (.inr (.inr (some 208))), some (.inl (v : Int)), some (.inl 4), none] [] (G, J, P) (QK G P b n true 238 MO I c i r) := by
  have hn4 := hB.1
  have hs := MX_s hX
  refine (ex_0 (ex_6_0 (ix_41i (v := (i : Int)) (sh_208 hS) h21 (ex_11e (v := ((8 * i : Nat) : Int)) ((am_mul ⟨by omega, by omega⟩).trans (by omega)) (ex_7_2 rfl (ex_6_0 (ex_22 rfl (ix_41i (v := (i : Int)) (sh_208 hS) h21 (ex_0 (ex_add ⟨by omega, by omega⟩ (ix_42i (sh_208 hS) (ex_0 (ex_7_3 rfl (ex_58 ?_))))))))))))))
  refine ex_forR (b := 13) (σ := Unit) (8) (fun j u => u) (fun j u K => MX K b n true s l c ∧ K 208 21 = ((i + 1 : Nat) : Int) ∧ (∀ e, e < j → K 238 (8 * i + e) = 0) ∧ MCF 238 c i I K) (fun j u e_j => [some (.inr (.inr (some 208))), some (.inl (v : Int)), some (.inl ((8 * i : Nat) : Int)), some (.inl (j : Int))]) ?_ (8) (0) (()) (fun k_ => ([some (.inr (.inr (some 208))), some (.inl (v : Int)), some (.inl ((8 * i : Nat) : Int)), some (.inl 0)] : am_L).getD k_ none) ((am_u2 J 208 21 ((i : Int) + 1))) (by omega) (⟨MX_fr hX (fun q k hq => u2_o (by omega)), u2_e, fun e he => absurd he (by omega), fun q k a1 a2 a3 a4 => (u2_o (by omega)).trans (hF q k a1 a2 a3 a4)⟩) rfl ?_
  · intro j u e_j K hij hvj hkj
    obtain ⟨hXj, h21j, hzj, hFj⟩ := hvj
    refine (ex_4_3 (ex_0 ?_))
    refine ex_ic3 (fun hc88 => by exfalso; omega) (fun hc88 => ?_)
    refine (ex_6_0 (ix_41r (sh_208 hS) (pt_208_50 hS) (ex_4_2 (ex_4_3 (ex_11e (v := ((8 * i + j : Nat) : Int)) ((am_add ⟨by omega, by omega⟩).trans (by omega)) (ex_0 (ix_34 (j := (8 * i + j)) (sh_238 hS) (by omega) (by omega) (by omega) (ex_10_3 ⟨by omega, by omega⟩ rfl (ex_28 ?_)))))))))
    exact hkj (()) (fun k_ => ([some (.inr (.inr (some 208))), some (.inl (v : Int)), some (.inl ((8 * i : Nat) : Int)), some (.inl ((j : Int) + 1))] : am_L).getD k_ none) _ (rfl) (⟨MX_fr hXj (fun q k hq => u2_o (by omega)), (u2_q (by decide)).trans h21j, fun e he => (by by_cases e0 : e = j; (rw [e0]; exact u2_e); (exact (u2_k (by omega)).trans (hzj e (by omega)))), MCF_w hFj hij⟩)
  · intro u e_j K hsj hvj
    obtain ⟨hXj, h21j, hzj, hFj⟩ := hvj
    refine (ex_4_3 (ex_0 ?_))
    refine ex_ic3 (fun hc88 => ?_) (fun hc88 => by exfalso; omega)
    refine (ex_6_0 (ix_41r (sh_208 hS) (pt_208_50 hS) (ex_4_2 (ex_4_1 (ix_34 (j := (8 * i)) (sh_238 hS) (by omega) (by omega) (by omega) (ex_4_1 (ex_0 ?_)))))))
    refine ex_ic0 (fun hc115 => by exfalso; omega) (fun hc115 => ?_)
    refine (ex_6_0 (ex_4_2 (ex_0 (ex_11e (v := ((8 * i + 1 : Nat) : Int)) ((am_add ⟨by omega, by omega⟩).trans (by omega)) ?_))))
    have hX3 : MX (am_u2 K 238 (8 * i) (v : Int)) b n true s l c := MX_fr hXj (fun q k hq => u2_o (by omega))
    have z : ∀ e, 0 < e → e < 8 → (am_u2 K 238 (8 * i) (v : Int)) 238 (8 * i + e) = 0 := fun e h0 h8 => (u2_k (by omega)).trans (hzj e h8)
    have hFk : MCF 238 c i I (am_u2 K 238 (8 * i) (v : Int)) := MCF_w0 hFj
    have h21k : (am_u2 K 238 (8 * i) (v : Int)) 208 21 = ((i + 1 : Nat) : Int) := (u2_q (by decide)).trans h21j
    have hSN : ∀ e, (e = 1 ∨ e = 3) → SE true (am_u2 K 238 (8 * i) (v : Int)) 238 i e c none := fun e he => ⟨0, 0, z e (by omega) (by omega), z (e + 1) (by omega) (by omega), Nat.zero_le _, fun _ => rfl, fun f hf => (by cases hf)⟩
    obtain ⟨o_, eo, qo⟩ := cs (d := d) (a := 8 * i + 1) hS hB hX3 (by omega)
    rw [hpv] at qo
    obtain ⟨J4, c4, rfl, hX4, hM4, ha4, hb4, f4⟩ := qo
    refine (ix_46 (S' := []) rfl (sh_208 hS) eo rfl rfl (ex_58 ?_))
    have hcc := hM4.1
    have f34 : ∀ q k, ((q = 238 ∧ ¬ k = 8 * i + 1 ∧ ¬ k = 8 * i + 2) ∨ (q = 208 ∧ k = 21)) → J4 q k = (am_u2 K 238 (8 * i) (v : Int)) q k := fun q k hq => f4 q k (by omega) (by omega) (by omega) (by omega)
    exact cx17 hS hB hi hv4 (o1 := some g) ⟨fun hh => (by cases hh), fun hh => absurd hh h3⟩ ⟨hX4, by omega, (f34 _ _ (by omega)).trans h21k, (f34 _ _ (by omega)).trans u2_e, ⟨c, c4, ha4, hb4, Nat.le_refl _, fun hh => (by cases hh), fun f hf => by cases hf; exact ⟨hM4, hVg⟩⟩, ⟨0, 0, (f34 _ _ (by omega)).trans (z 3 (by decide) (by decide)), (f34 _ _ (by omega)).trans (z 4 (by decide) (by decide)), Nat.zero_le _, fun _ => rfl, fun f hf => (by cases hf)⟩, fun q k a1 a2 a3 a4 => (f4 q k (by omega) (by omega) (by omega) (by omega)).trans (hFk q k a1 a2 a3 a4)⟩ (by rw [hr]; unfold st1K st1; rw [if_neg h3, hpv]; rfl)
theorem cx_f {d : Nat} {G : am_G} {I : Nat → Nat → Int} {P : Nat → Nat → Option Nat} (hS : ST G P) {b : Nat → Int} {n : Nat} (hB : TB b n) {s l c i : Nat} (hX : MX I b n true s l c) (h21 : I 208 21 = (i : Int)) (hf : vrb true (tk b n s) = -1 ∨ 12 ≤ i) : ∃ o, am_call am_B am_M (d + 9) 275 [(.inr (.inr (some 208)))] (G, I, P) = some o ∧ QK G P b n true 238 MO I c i (if i < 12 then px_cl b n true s l else .inl s) o := by
  have hlet : ∀ k, k < 4 → lets (AWs.getD k []) := fun k hk => lets_of (by revert k hk; decide)
  have hlen : ∀ k, k < 4 → 0 < (AWs.getD k []).length ∧ (AWs.getD k []).length ≤ 10 := by decide
  have hKw := (MX_K hX).2.2.2
  have hn4 := hB.1
  have hs := MX_s hX
  have hve : vrb true (tk b n s) = ooI AWs 0 (tk b n s) := rfl
  refine am_doQ (L := [some (.inr (.inr (some 208))), none, none, none]) (Nat.le_of_ble_eq_true rfl) rfl ?_
  refine (ex_0 (ex_7_1 rfl (ex_0 (ex_7_2 rfl (ex_58 ?_)))))
  refine ex_forH (b := 1) (σ := Int) (4) (fun k its => hit AWs (tk b n s) k its) (fun k its => True) (fun k its e_k => [some (.inr (.inr (some 208))), some (.inl its), some (.inl (k : Int)), none]) (fun k its => (G, I, P)) ?_ ?_ (4) (0) ((-1)) (fun k_ => ([some (.inr (.inr (some 208))), some (.inl (-1)), some (.inl 0), none] : am_L).getD k_ none) (by omega) (trivial) rfl (rfl) ?_
  · intro k its hik hvk
    exact trivial
  · intro k its e_k hik hvk its' hsk hkk
    refine (ex_4_2 (ex_0 ?_))
    refine ex_ic3 (fun hc6 => by exfalso; omega) (fun hc6 => ?_)
    refine (ex_6_0 (ex_6_0 (ix_41r (sh_208 hS) (pt_208_49 hS) (ex_4_2 (ix_32 (j := k) (v := (I 237 k)) (sh_237 hS) (by omega) (by omega) (by omega) rfl ?_)))))
    by_cases hb16 : (tk b n s = AWs.getD k [])
    · refine (ix_46 (S' := [(.inl 1)]) rfl (sh_208 hS) (c_isW_t hS hB (MX_M hX) (MX_s hX) (AWs.getD k []) (hlet k hik) (hlen k hik) (hKw k hik).symm hb16) rfl rfl (ex_if0 (fun hc => by exfalso; revert hc; decide) (fun _ => ?_)))
      refine (ex_4_2 (ex_28 (ex_7_1 rfl (ex_10_2 ⟨by omega, by omega⟩ rfl (ex_28 ?_)))))
      have e : its' = (k : Int) := hsk.trans (if_pos hb16)
      rw [e] at hkk
      exact hkk (fun k_ => ([some (.inr (.inr (some 208))), some (.inl (k : Int)), some (.inl ((k : Int) + 1)), none] : am_L).getD k_ none)
    · refine (ix_46 (S' := [(.inl 0)]) rfl (sh_208 hS) (c_isW_f hS hB (MX_M hX) (MX_s hX) (AWs.getD k []) (hlet k hik) (hlen k hik) (hKw k hik).symm hb16) rfl rfl (ex_if0 (fun _ => ?_) (fun hc => by exfalso; revert hc; decide)))
      refine (ex_4_1 (ex_58 (ex_7_1 rfl (ex_10_2 ⟨by omega, by omega⟩ rfl (ex_28 ?_)))))
      have e : its' = its := hsk.trans (if_neg hb16)
      rw [e] at hkk
      exact hkk (fun k_ => ([some (.inr (.inr (some 208))), some (.inl its), some (.inl ((k : Int) + 1)), none] : am_L).getD k_ none)
  · intro its e_k hsk hvk
    rw [aw_at] at hsk
    rw [← hve] at hsk
    refine (ex_4_2 (ex_0 ?_))
    refine ex_ic3 (fun hc6 => ?_) (fun hc6 => by exfalso; omega)
    refine (ex_6_0 (ex_4_1 (ex_0 ?_)))
    refine ex_ic0 (fun hc37 => ?_) (fun hc37 => ?_)
    · refine (ex_0 (ex_58 (ix_46 (S' := []) rfl (sh_208 hS) (c_must_f hS (MX_M hX).2.1 (MX_b hX)) rfl rfl (ex_6_0 (ix_41i (v := 1) (sh_208 hS) ((u2_k (by decide)).trans u2_e) (ex_if0 (fun hc => by exfalso; revert hc; decide) (fun _ => ?_)))))))
      exact ex_56 (QK_inl (by by_cases h12 : i < 12; (rw [if_pos h12]; unfold px_cl; rw [if_pos (hf.resolve_right (by omega))]); (rw [if_neg h12])) ((u2_k (by decide)).trans u2_e) u2_e (fun q k a _ _ => (u2_o (by omega)).trans (u2_o (by omega))))
    · refine (ex_6_0 (ix_41i (v := (i : Int)) (sh_208 hS) h21 (ex_0 ?_)))
      refine ex_ic3 (fun hc46 => ?_) (fun hc46 => by exfalso; omega)
      refine (ex_0 (ex_58 (ix_46 (S' := []) rfl (sh_208 hS) (c_must_f hS (MX_M hX).2.1 (MX_b hX)) rfl rfl (ex_6_0 (ix_41i (v := 1) (sh_208 hS) ((u2_k (by decide)).trans u2_e) (ex_if0 (fun hc => by exfalso; revert hc; decide) (fun _ => ?_)))))))
      exact ex_56 (QK_inl (by by_cases h12 : i < 12; (rw [if_pos h12]; unfold px_cl; rw [if_pos (hf.resolve_right (by omega))]); (rw [if_neg h12])) ((u2_k (by decide)).trans u2_e) u2_e (fun q k a _ _ => (u2_o (by omega)).trans (u2_o (by omega))))
theorem cx_g {d : Nat} {G : am_G} {I : Nat → Nat → Int} {P : Nat → Nat → Option Nat} (hS : ST G P) {b : Nat → Int} {n : Nat} (hB : TB b n) {s l c i : Nat} (hX : MX I b n true s l c) (h21 : I 208 21 = (i : Int)) {v : Nat} (hvn : vrb true (tk b n s) = (v : Int)) (hi : i < 12) : ∃ o, am_call am_B am_M (d + 9) 275 [(.inr (.inr (some 208)))] (G, I, P) = some o ∧ QK G P b n true 238 MO I c i (if i < 12 then px_cl b n true s l else .inl s) o := by
  have hlet : ∀ k, k < 4 → lets (AWs.getD k []) := fun k hk => lets_of (by revert k hk; decide)
  have hlen : ∀ k, k < 4 → 0 < (AWs.getD k []).length ∧ (AWs.getD k []).length ≤ 10 := by decide
  have hKw := (MX_K hX).2.2.2
  have hn4 := hB.1
  have hs := MX_s hX
  have hve : vrb true (tk b n s) = ooI AWs 0 (tk b n s) := rfl
  have hvm : ¬ vrb true (tk b n s) = -1 := by omega
  have hrng := ooI_rng (t := tk b n s) AWs 0
  have hln : AWs.length = 4 := rfl
  rw [← hve, hln] at hrng
  have hv4 : v < 4 := by omega
  have hlt : s < n := by
    have h9 := ooI_some (t := tk b n s) AWs 0 (fun zz => hvm (hve.trans zz))
    have hne : ∀ w, w ∈ AWs → ¬ w = [] := by decide
    cases e : tk b n s with
    | nil => exact absurd e (hne _ h9)
    | cons cc kw => exact tk_lt hs e
  have hr : (if i < 12 then px_cl b n true s l else Sum.inl s) = st1K b n true v (nx b n s) l := by rw [if_pos hi]; unfold px_cl; rw [if_neg hvm, hvn, Int.toNat_natCast]
  have hnx := nx_2 (b := b) s hlt
  have hg := px_sum_ok (b := b) (n := n) (od := true) 8 (nx b n s) l hnx.2 (MX_l hX)
  refine am_doQ (L := [some (.inr (.inr (some 208))), none, none, none]) (Nat.le_of_ble_eq_true rfl) rfl ?_
  refine (ex_0 (ex_7_1 rfl (ex_0 (ex_7_2 rfl (ex_58 ?_)))))
  refine ex_forH (b := 1) (σ := Int) (4) (fun k its => hit AWs (tk b n s) k its) (fun k its => True) (fun k its e_k => [some (.inr (.inr (some 208))), some (.inl its), some (.inl (k : Int)), none]) (fun k its => (G, I, P)) ?_ ?_ (4) (0) ((-1)) (fun k_ => ([some (.inr (.inr (some 208))), some (.inl (-1)), some (.inl 0), none] : am_L).getD k_ none) (by omega) (trivial) rfl (rfl) ?_
  · intro k its hik hvk
    exact trivial
  · intro k its e_k hik hvk its' hsk hkk
    refine (ex_4_2 (ex_0 ?_))
    refine ex_ic3 (fun hc6 => by exfalso; omega) (fun hc6 => ?_)
    refine (ex_6_0 (ex_6_0 (ix_41r (sh_208 hS) (pt_208_49 hS) (ex_4_2 (ix_32 (j := k) (v := (I 237 k)) (sh_237 hS) (by omega) (by omega) (by omega) rfl ?_)))))
    by_cases hb16 : (tk b n s = AWs.getD k [])
    · refine (ix_46 (S' := [(.inl 1)]) rfl (sh_208 hS) (c_isW_t hS hB (MX_M hX) (MX_s hX) (AWs.getD k []) (hlet k hik) (hlen k hik) (hKw k hik).symm hb16) rfl rfl (ex_if0 (fun hc => by exfalso; revert hc; decide) (fun _ => ?_)))
      refine (ex_4_2 (ex_28 (ex_7_1 rfl (ex_10_2 ⟨by omega, by omega⟩ rfl (ex_28 ?_)))))
      have e : its' = (k : Int) := hsk.trans (if_pos hb16)
      rw [e] at hkk
      exact hkk (fun k_ => ([some (.inr (.inr (some 208))), some (.inl (k : Int)), some (.inl ((k : Int) + 1)), none] : am_L).getD k_ none)
    · refine (ix_46 (S' := [(.inl 0)]) rfl (sh_208 hS) (c_isW_f hS hB (MX_M hX) (MX_s hX) (AWs.getD k []) (hlet k hik) (hlen k hik) (hKw k hik).symm hb16) rfl rfl (ex_if0 (fun _ => ?_) (fun hc => by exfalso; revert hc; decide)))
      refine (ex_4_1 (ex_58 (ex_7_1 rfl (ex_10_2 ⟨by omega, by omega⟩ rfl (ex_28 ?_)))))
      have e : its' = its := hsk.trans (if_neg hb16)
      rw [e] at hkk
      exact hkk (fun k_ => ([some (.inr (.inr (some 208))), some (.inl its), some (.inl ((k : Int) + 1)), none] : am_L).getD k_ none)
  · intro its e_k hsk hvk
    rw [aw_at] at hsk
    rw [← hve, hvn] at hsk
    subst hsk
    refine (ex_4_2 (ex_0 ?_))
    refine ex_ic3 (fun hc6 => ?_) (fun hc6 => by exfalso; omega)
    refine (ex_6_0 (ex_4_1 (ex_0 ?_)))
    refine ex_ic0 (fun hc37 => by exfalso; omega) (fun hc37 => ?_)
    refine (ex_6_0 (ix_41i (v := (i : Int)) (sh_208 hS) h21 (ex_0 ?_)))
    refine ex_ic3 (fun hc46 => by exfalso; omega) (fun hc46 => ?_)
    refine (ex_0 (ex_28 ?_))
    obtain ⟨J1, e1, m1, f1⟩ := c_must_t (d := d + 5) hS hB (MX_M hX) (MX_s hX) (MX_b hX)
    have hX1 := MX_next hX hlt m1 f1
    refine (ix_46 (S' := []) rfl (sh_208 hS) e1 rfl rfl (ex_6_0 (ix_41i (v := 0) (sh_208 hS) (MX_b hX1) (ex_if0 (fun _ => ?_) (fun hc => by exfalso; revert hc; decide)))))
    have h21b : J1 208 21 = (i : Int) := (f1 _ _ (by decide)).trans h21
    have hFb : MCF 238 c i I J1 := fun q k a _ _ _ => f1 q k (by omega)
    rw [hr]
    by_cases h3 : v = 3
    · exact cx12_p hS hB hi hX1 h21b hv4 hFb rfl h3
    · cases hpv : px_sum b n true 8 (nx b n s) l with
      | inl x => exact cx12_x hS hB hi hX1 h21b hv4 hFb rfl h3 hpv
      | inr q => obtain ⟨s4, l4, g⟩ := q; rw [hpv] at hg; exact cx12_s hS hB hi hX1 h21b hv4 hFb rfl h3 hpv hg.2.2.2.2
theorem cx {d : Nat} {G : am_G} {I : Nat → Nat → Int} {P : Nat → Nat → Option Nat} (hS : ST G P) {b : Nat → Int} {n : Nat} (hB : TB b n) {s l c i : Nat} (hX : MX I b n true s l c) (h21 : I 208 21 = (i : Int)) : ∃ o, am_call am_B am_M (d + 9) 275 [.inr (.inr (some 208))] (G, I, P) = some o ∧ QK G P b n true 238 MO I c i (if i < 12 then px_cl b n true s l else .inl s) o := by
  by_cases hf : vrb true (tk b n s) = -1 ∨ 12 ≤ i
  · exact cx_f hS hB hX h21 hf
  · have h0 := ooI_rng (t := tk b n s) AWs 0
    have hve : vrb true (tk b n s) = ooI AWs 0 (tk b n s) := rfl
    exact cx_g hS hB hX h21 (v := (vrb true (tk b n s)).toNat) (by omega) (by omega)
