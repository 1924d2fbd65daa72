/-! ===== the reference: law() ===== -/
def clO (oc : Oc) : Cl := (oc.1, oc.2.1, oc.2.2.2.2)
/-- the row with a law more -/
def LR (K : Nat → Nat → Int) (A m c : Nat) (ρ ρ' : Nat → Int) : Prop := ρ' (A + 1) = (m : Int) ∧ (∀ j, j < 8 * m → ρ' (A + 2 + j) = K 218 j) ∧ (∀ j, j < c → ρ' (A + 98 + 2 * j) = K 219 j ∧ ρ' (A + 98 + 2 * j + 1) = K 220 j) ∧ (∀ j, ¬ (A + 1 ≤ j ∧ j < A + 900) → ρ' j = ρ j)
theorem LR_law {K : Nat → Nat → Int} {A m c : Nat} {ρ ρ' : Nat → Int} {cl : Nat → Oc} (h : LR K A m c ρ ρ') (hm : m ≤ 12) (hc : c ≤ 400) (hC : ∀ j, j < m → ML K j c (cl j)) : RowLaw ρ' A m (fun j => clO (cl j)) := by
  obtain ⟨h1, h2, h3, h4⟩ := h
  have hop : ∀ {a x D : Nat} {f : Fn}, MS false (K 219) (K 220) a x D f → x ≤ c → D ≤ 100 → ∀ w, okw w → mseg (opL ρ' A) (argL ρ' A) (wvL w) a x 100 (f w) := by
    intro a x D f hM hx hD w hw
    have := hM.2.2 (opL ρ' A) (argL ρ' A) (fun k _ hk => ⟨(h3 k (by omega)).1, (h3 k (by omega)).2⟩) w hw
    exact mseg_more this hD
  refine ⟨h1, hm, fun j hj => ?_⟩
  obtain ⟨g1, g2, g0, ⟨a1, x1, s1, s2, s3, s4, s5⟩, ⟨a2, x2, t1, t2, t3, t4, t5⟩, g5⟩ := hC j hj
  have row : ∀ e, e < 8 → ρ' (A + 2 + 8 * j + e) = K 218 (8 * j + e) := fun e he => by
    rw [show A + 2 + 8 * j + e = A + 2 + (8 * j + e) by omega]; exact h2 _ (by omega)
  refine ⟨(row 0 (by decide)).trans g1, g2, a1, x1, a2, x2, (row 3 (by decide)).trans s1, (row 4 (by decide)).trans s2, (row 5 (by decide)).trans t1, (row 6 (by decide)).trans t2, by omega, by omega, g0, fun f hf w hw => hop (s5 f hf).1 s3 (by decide) w hw, fun ht => by have := t4 ht; omega, fun f hf => ⟨(t5 f hf).1.1, fun w hw => ⟨g5 f hf w hw, hop (t5 f hf).1 t3 (by decide) w hw⟩⟩⟩
theorem cw_copy {d : Nat} {G : am_G} {K : Nat → Nat → Int} {P : Nat → Nat → Option Nat} (hS : ST G P) {i3 m c : Nat} (hi3 : i3 < 6) (hm : m ≤ 12) (hc : c ≤ 400) (h3 : K 210 3 = (i3 : Int)) (h21 : K 208 21 = (m : Int)) (h23 : K 208 23 = (c : Int)) {A : Nat} (hA : A = 100 + 900 * i3) : am_ex (am_call am_B am_M (d + 9)) (am_B 224) (am_B 224 8) [some (.inr (.inr (some 208))), none, none] [] (G, K, P) (fun o => ∃ I1, o = (some (.inl (i3 : Int)), (G, I1, P)) ∧ LR K A m c (am_u1 (K 210) 3 ((i3 : Int) + 1)) (I1 210) ∧ I1 208 1 = 0 ∧ (∀ q k, ¬ q = 210 → ¬ (q = 208 ∧ k = 1) → I1 q k = K q k)) := by
  refine (ex_0 (ex_0 (ex_6_0 (ix_41r (sh_208 hS) (pt_208_3 hS) (ex_0 (ix_30 (j := 3) (v := (i3 : Int)) (sh_210 hS) (by decide) (by decide) rfl h3 (ex_11e (v := ((900 * i3 : Nat) : Int)) ((am_mul ⟨by omega, by omega⟩).trans (by omega)) (ex_11e (v := (A : Int)) ((am_add ⟨by omega, by omega⟩).trans (by omega)) (ex_7_1 rfl (ex_6_0 (ix_41r (sh_208 hS) (pt_208_3 hS) (ex_4_1 (ex_0 (ex_11e (v := ((A + 1 : Nat) : Int)) ((am_add ⟨by omega, by omega⟩).trans (by omega)) (ex_6_0 (ix_41i (v := (m : Int)) (sh_208 hS) h21 (ix_34 (j := (A + 1)) (sh_210 hS) (by omega) (by omega) (by omega) (ex_0 (ex_7_2 rfl (ex_58 ?_))))))))))))))))))))
  refine ex_forR (b := 9) (σ := Unit) ((8 * m)) (fun x u => u) (fun x u J => (∀ q k, ¬ q = 210 → J q k = K q k) ∧ J 210 (A + 1) = (m : Int) ∧ (∀ j, j < x → J 210 (A + 2 + j) = K 218 j) ∧ (∀ j, ¬ (A + 1 ≤ j ∧ j < A + 900) → J 210 j = K 210 j)) (fun x u e_x => [some (.inr (.inr (some 208))), some (.inl (A : Int)), some (.inl (x : Int))]) ?_ ((8 * m)) (0) (()) (fun k_ => ([some (.inr (.inr (some 208))), some (.inl (A : Int)), some (.inl 0)] : am_L).getD k_ none) ((am_u2 K 210 (A + 1) (m : Int))) (by omega) (⟨fun q k h => u2_q h, u2_e, fun j hj => absurd hj (by omega), fun j hj => u2_k (by omega)⟩) rfl ?_
  · intro x u e_x J hix hvx hkx
    obtain ⟨hvq, hv1, hv2, hvo⟩ := hvx
    refine (ex_4_2 (ex_0 (ex_6_0 (ix_41i (v := (m : Int)) (sh_208 hS) ((hvq 208 21 (by decide)).trans h21) (ex_11e (v := ((8 * m : Nat) : Int)) ((am_mul ⟨by omega, by omega⟩).trans (by omega)) ?_)))))
    refine ex_ic3 (fun hc118 => by exfalso; omega) (fun hc118 => ?_)
    refine (ex_6_0 (ix_41r (sh_208 hS) (pt_208_3 hS) (ex_4_1 (ex_0 (ex_11e (v := ((A + 2 : Nat) : Int)) ((am_add ⟨by omega, by omega⟩).trans (by omega)) (ex_4_2 (ex_11e (v := ((A + 2 + x : Nat) : Int)) ((am_add ⟨by omega, by omega⟩).trans (by omega)) (ex_6_0 (ix_41r (sh_208 hS) (pt_208_22 hS) (ex_4_2 (ix_30 (j := x) (v := (K 218 x)) (sh_218 hS) (by omega) (by omega) (by omega) (hvq _ _ (by decide)) (ix_34 (j := (A + 2 + x)) (sh_210 hS) (by omega) (by omega) (by omega) (ex_10_2 ⟨by omega, by omega⟩ rfl (ex_28 ?_))))))))))))))
    exact hkx (()) (fun k_ => ([some (.inr (.inr (some 208))), some (.inl (A : Int)), some (.inl ((x : Int) + 1))] : am_L).getD k_ none) _ (rfl) (⟨fun q k h => (u2_q h).trans (hvq q k h), (u2_k (by omega)).trans hv1, fun j hj => (by by_cases e : j = x; (rw [e]; exact u2_e); (exact (u2_k (by omega)).trans (hv2 j (by omega)))), fun j hj => (u2_k (by omega)).trans (hvo j hj)⟩)
  · intro u e_x J hsx hvx
    obtain ⟨hvq, hv1, hv2, hvo⟩ := hvx
    refine (ex_4_2 (ex_0 (ex_6_0 (ix_41i (v := (m : Int)) (sh_208 hS) ((hvq 208 21 (by decide)).trans h21) (ex_11e (v := ((8 * m : Nat) : Int)) ((am_mul ⟨by omega, by omega⟩).trans (by omega)) ?_)))))
    refine ex_ic3 (fun hc118 => ?_) (fun hc118 => by exfalso; omega)
    refine (ex_0 (ex_7_2 rfl (ex_58 ?_)))
    refine ex_forR (b := 12) (σ := Unit) (c) (fun x u => u) (fun x u J => (∀ q k, ¬ q = 210 → J q k = K q k) ∧ J 210 (A + 1) = (m : Int) ∧ (∀ j, j < 8 * m → J 210 (A + 2 + j) = K 218 j) ∧ (∀ j, j < x → J 210 (A + 98 + 2 * j) = K 219 j ∧ J 210 (A + 98 + 2 * j + 1) = K 220 j) ∧ (∀ j, ¬ (A + 1 ≤ j ∧ j < A + 900) → J 210 j = K 210 j)) (fun x u e_x => [some (.inr (.inr (some 208))), some (.inl (A : Int)), some (.inl (x : Int))]) ?_ (c) (0) (()) (fun k_ => ([some (.inr (.inr (some 208))), some (.inl (A : Int)), some (.inl 0)] : am_L).getD k_ none) (J) (by omega) (⟨hvq, hv1, hv2, fun j hj => absurd hj (by omega), hvo⟩) rfl ?_
    · intro x u e_x J hix hvx hkx
      obtain ⟨hvq, hv1, hv2, hv3, hvo⟩ := hvx
      refine (ex_4_2 (ex_6_0 (ix_41i (v := (c : Int)) (sh_208 hS) ((hvq 208 23 (by decide)).trans h23) ?_)))
      refine ex_ic3 (fun hc150 => by exfalso; omega) (fun hc150 => ?_)
      refine (ex_6_0 (ix_41r (sh_208 hS) (pt_208_3 hS) (ex_4_1 (ex_0 (ex_11e (v := ((A + 98 : Nat) : Int)) ((am_add ⟨by omega, by omega⟩).trans (by omega)) (ex_0 (ex_4_2 (ex_11e (v := ((2 * x : Nat) : Int)) ((am_mul ⟨by omega, by omega⟩).trans (by omega)) (ex_11e (v := ((A + 98 + 2 * x : Nat) : Int)) ((am_add ⟨by omega, by omega⟩).trans (by omega)) (ex_6_0 (ix_41r (sh_208 hS) (pt_208_24 hS) (ex_4_2 (ix_30 (j := x) (v := (K 219 x)) (sh_219 hS) (by omega) (by omega) (by omega) (hvq _ _ (by decide)) (ix_34 (j := (A + 98 + 2 * x)) (sh_210 hS) (by omega) (by omega) (by omega) (ex_6_0 (ix_41r (sh_208 hS) (pt_208_3 hS) (ex_4_1 (ex_0 (ex_11e (v := ((A + 98 : Nat) : Int)) ((am_add ⟨by omega, by omega⟩).trans (by omega)) (ex_0 (ex_4_2 (ex_11e (v := ((2 * x : Nat) : Int)) ((am_mul ⟨by omega, by omega⟩).trans (by omega)) (ex_11e (v := ((A + 98 + 2 * x : Nat) : Int)) ((am_add ⟨by omega, by omega⟩).trans (by omega)) (ex_0 (ex_11e (v := ((A + 98 + 2 * x + 1 : Nat) : Int)) ((am_add ⟨by omega, by omega⟩).trans (by omega)) (ex_6_0 (ix_41r (sh_208 hS) (pt_208_25 hS) (ex_4_2 (ix_30 (j := x) (v := (K 220 x)) (sh_220 hS) (by omega) (by omega) (by omega) ((u2_q (by decide)).trans (hvq _ _ (by decide))) (ix_34 (j := (A + 98 + 2 * x + 1)) (sh_210 hS) (by omega) (by omega) (by omega) (ex_10_2 ⟨by omega, by omega⟩ rfl (ex_28 ?_))))))))))))))))))))))))))))))))
      exact hkx (()) (fun k_ => ([some (.inr (.inr (some 208))), some (.inl (A : Int)), some (.inl ((x : Int) + 1))] : am_L).getD k_ none) _ (rfl) (⟨fun q k h => (u2_q h).trans ((u2_q h).trans (hvq q k h)), (u2_k (by omega)).trans ((u2_k (by omega)).trans hv1), fun j hj => (u2_k (by omega)).trans ((u2_k (by omega)).trans (hv2 j hj)), fun j hj => (by by_cases e : j = x; (rw [e]; exact ⟨(u2_k (by omega)).trans u2_e, u2_e⟩); (exact ⟨(u2_k (by omega)).trans ((u2_k (by omega)).trans (hv3 j (by omega)).1), (u2_k (by omega)).trans ((u2_k (by omega)).trans (hv3 j (by omega)).2)⟩)), fun j hj => (u2_k (by omega)).trans ((u2_k (by omega)).trans (hvo j hj))⟩)
    · intro u e_x J hsx hvx
      obtain ⟨hvq, hv1, hv2, hv3, hvo⟩ := hvx
      refine (ex_4_2 (ex_6_0 (ix_41i (v := (c : Int)) (sh_208 hS) ((hvq 208 23 (by decide)).trans h23) ?_)))
      refine ex_ic3 (fun hc150 => ?_) (fun hc150 => by exfalso; omega)
      refine (ex_6_0 (ix_41r (sh_208 hS) (pt_208_3 hS) (ex_0 (ex_23 rfl (ix_30 (j := 3) (v := (i3 : Int)) (sh_210 hS) (by decide) (by decide) rfl ((hvo 3 (by omega)).trans h3) (ex_0 (ex_add ⟨by omega, by omega⟩ (ix_34 (j := 3) (sh_210 hS) (by decide) (by decide) rfl (ex_6_0 (ex_6_0 (ix_41r (sh_208 hS) (pt_208_3 hS) (ex_0 (ix_30 (j := 3) (v := ((i3 : Int) + 1)) (sh_210 hS) (by decide) (by decide) rfl u2_e (ex_0 (ex_11e (v := (i3 : Int)) ((am_sub ⟨by omega, by omega⟩).trans (by omega)) (ix_46 (S' := [(.inl (i3 : Int))]) rfl (sh_208 hS) (c_tell_p hS (by omega)) rfl rfl ?_))))))))))))))))
      exact ex_53 ⟨_, rfl, ⟨(u2_q (by decide)).trans ((u2_k (by omega)).trans hv1), fun j hj => (u2_q (by decide)).trans ((u2_k (by omega)).trans (hv2 j hj)), fun j hj => ⟨(u2_q (by decide)).trans ((u2_k (by omega)).trans (hv3 j hj).1), (u2_q (by decide)).trans ((u2_k (by omega)).trans (hv3 j hj).2)⟩, fun j hj => (u2_q (by decide)).trans (by rw [u2_at, am_u1]; by_cases e : j = 3; (rw [if_pos e, if_pos e]); (rw [if_neg e, if_neg e]; exact hvo j hj))⟩, u2_e, fun q k h1 h2 => (u2_o (by omega)).trans ((u2_q h1).trans (hvq q k h1))⟩
theorem m_law_n {d : Nat} {G : am_G} {I : Nat → Nat → Int} {P : Nat → Nat → Option Nat} (hS : ST G P) (h3 : I 210 3 = 6) (hR5 : 0 ≤ I 209 5 ∧ I 209 5 ≤ 1000000) : am_call am_B am_M (d + 10) 224 [(.inr (.inr (some 208)))] (G, I, P) = some (some (.inl (-5)), (G, am_u2 (am_u2 (am_u2 (am_u2 I 208 0 0) 208 13 0) 208 1 (-5)) 209 5 (I 209 5 + 1), P)) := by
  refine am_doL (L := [some (.inr (.inr (some 208))), none, none]) (Nat.le_of_ble_eq_true rfl) rfl ?_
  refine (ex_6_0 (ex_0 (ix_42i (sh_208 hS) (ex_6_0 (ix_41r (sh_208 hS) (pt_208_3 hS) (ex_0 (ix_30 (j := 3) (v := 6) (sh_210 hS) (by decide) (by decide) rfl ((u2_q (by decide)).trans h3) (ex_0 (ex_ic1 (fun hc => by exfalso; revert hc; decide) (fun _ => ?_))))))))))
  refine (ex_6_0 (ex_0 (ix_42i (sh_208 hS) (ex_6_0 (ex_0 (ix_46 (S' := [(.inl (-5))]) rfl (sh_208 hS) (c_tell_c hS (k := 5) (by decide) (by decide) ((u2_q (by decide)).trans (u2_q (by decide))) hR5) rfl rfl ?_))))))
  exact ex_53 rfl
def MLF1 (I J : Nat → Nat → Int) : Prop := ∀ q k, ¬ (q = 208 ∧ (k = 0 ∨ k = 1 ∨ (13 ≤ k ∧ k ≤ 21) ∨ k = 23 ∨ k = 26 ∨ k = 29 ∨ k = 30)) → ¬ (218 ≤ q ∧ q ≤ 222) → ¬ q = 238 → ¬ (q = 209 ∧ k = 6) → ¬ q = 210 → J q k = I q k
def QLa (G : am_G) (P : Nat → Nat → Option Nat) (I : Nat → Nat → Int) (i3 : Nat) (r : Nat ⊕ (Nat × (Nat → Oc))) (o : am_O) : Prop := match r with
  | .inl x => ∃ I1, o = (some (.inl (-6)), (G, I1, P)) ∧ I1 208 18 = (x : Int) ∧ I1 208 13 = 0 ∧ I1 208 20 = 0 ∧ I1 208 1 = -6 ∧ I1 209 6 = I 209 6 + 1 ∧ I1 210 = I 210 ∧ MLF1 I I1
  | .inr (m, cl) => ∃ I1, o = (some (.inl (i3 : Int)), (G, I1, P)) ∧ I1 208 18 = -1 ∧ I1 208 13 = 0 ∧ I1 208 20 = 0 ∧ I1 208 1 = 0 ∧ I1 209 6 = I 209 6 ∧ RowLaw (I1 210) (100 + 900 * i3) m (fun j => clO (cl j)) ∧ I1 210 3 = (i3 : Int) + 1 ∧ (∀ j, ¬ j = 3 → ¬ (101 + 900 * i3 ≤ j ∧ j < 1000 + 900 * i3) → I1 210 j = I 210 j) ∧ MLF1 I I1
theorem m_law {d : Nat} {G : am_G} {I : Nat → Nat → Int} {P : Nat → Nat → Option Nat} (hS : ST G P) (hK : KM I) {b : Nat → Int} {n : Nat} (hB : TB b n) (hn : I 208 13 = (n : Int)) (hb : ∀ k, k < n → I 217 k = b k) {i3 : Nat} (hi3 : i3 < 6) (h3 : I 210 3 = (i3 : Int)) (hR6 : 0 ≤ I 209 6 ∧ I 209 6 ≤ 1000000) : ∃ o, am_call am_B am_M (d + 10) 224 [.inr (.inr (some 208))] (G, I, P) = some o ∧ QLa G P I i3 (px_text b n false) o := by
  refine am_doQ (L := [some (.inr (.inr (some 208))), none, none]) (Nat.le_of_ble_eq_true rfl) rfl ?_
  obtain ⟨J0, e0, hX0, h210, f0⟩ := c_beginText (d := d + 5) (I := am_u2 I 208 0 0) (od := false) hS (KM_fr hK (fun q k hq => u2_q (by omega))) hB ((u2_k (by decide)).trans hn) (fun k hk => (u2_q (by decide)).trans (hb k hk))
  have fI : ∀ {J : Nat → Nat → Int}, MLF J0 J → ∀ q k, ¬ (q = 208 ∧ (k = 0 ∨ (13 ≤ k ∧ k ≤ 21) ∨ k = 23 ∨ k = 26 ∨ k = 29 ∨ k = 30)) → ¬ (218 ≤ q ∧ q ≤ 222) → ¬ q = 238 → J q k = I q k := fun hF q k a b' c => (hF q k (by omega) b' c).trans ((f0 q k (by omega) b' c).trans (u2_o (by omega)))
  refine ex_6_0 (ex_0 (ix_42i (sh_208 hS) (ex_6_0 (ix_41r (sh_208 hS) (pt_208_3 hS) (ex_0 (ix_30 (j := 3) (v := (i3 : Int)) (sh_210 hS) (by decide) (by decide) rfl ((u2_q (by decide)).trans h3) (ex_0 (ex_ic1 (fun _ => ?_) (fun h => by exfalso; omega)))))))))
  refine ex_6_0 (ex_0 (ix_46 (S' := []) rfl (sh_208 hS) e0 rfl rfl (ex_6_0 ?_)))
  obtain ⟨o_, eo, qo⟩ := cw (d := d) (i := 0) hS hB hX0 h210
  rw [if_pos (by decide)] at qo
  have fin : ∀ K, PO ML J0 K (px_text b n false) → zW d G P (QLa G P I i3 (px_text b n false)) K := by
    intro K hPO
    obtain ⟨k13, k20, kF, kr⟩ := hPO
    cases hp : px_text b n false with
    | inl x =>
      rw [hp] at kr
      obtain ⟨k19, k18⟩ := kr
      refine ex_6_0 (ix_41i (v := 1) (sh_208 hS) k19 (ex_if0 (fun h => by exfalso; revert h; decide) (fun _ => ?_)))
      have h6 : K 209 6 = I 209 6 := fI kF 209 6 (by decide) (by decide) (by decide)
      refine ex_6_0 (ex_0 (ix_46 (S' := [.inl (-6)]) rfl (sh_208 hS) (c_tell_c hS (k := 6) (by decide) (by decide) h6 hR6) rfl rfl (ex_53 ?_)))
      refine ⟨_, rfl, (u2_q (by decide)).trans ((u2_k (by decide)).trans k18), (u2_q (by decide)).trans ((u2_k (by decide)).trans k13), (u2_q (by decide)).trans ((u2_k (by decide)).trans k20), (u2_q (by decide)).trans u2_e, u2_e, ?_, fun q k a1 a2 a3 a4 a5 => (u2_o (by omega)).trans ((u2_o (by omega)).trans (fI kF q k (by omega) a2 a3))⟩
      funext k
      exact (u2_q (by decide)).trans ((u2_q (by decide)).trans (fI kF 210 k (by omega) (by omega) (by omega)))
    | inr q =>
      obtain ⟨m, cl⟩ := q
      rw [hp] at kr
      obtain ⟨k19, k18, k21, km, c, k23, kc, kC⟩ := kr
      refine ex_6_0 (ix_41i (v := 0) (sh_208 hS) k19 (ex_if0 (fun _ => ?_) (fun h => absurd rfl h)))
      have h210' : ∀ k, K 210 k = I 210 k := fun k => fI kF 210 k (by omega) (by omega) (by omega)
      obtain ⟨n_, o1, r_, I1, rfl, hLR, h1, hf⟩ := cw_copy (d := d) (A := 100 + 900 * i3) hS hi3 km kc ((h210' 3).trans h3) k21 k23 rfl
      refine ⟨n_, _, r_, I1, rfl, (hf 208 18 (by decide) (by decide)).trans k18, (hf 208 13 (by decide) (by decide)).trans k13, (hf 208 20 (by decide) (by decide)).trans k20, h1, (hf 209 6 (by decide) (by decide)).trans (fI kF 209 6 (by decide) (by decide) (by decide)), LR_law hLR km kc kC, ?_, fun j j3 jA => ?_, fun q k a1 a2 a3 a4 a5 => (hf q k a5 (by omega)).trans (fI kF q k (by omega) a2 a3)⟩
      · rw [hLR.2.2.2 3 (by omega)]; exact if_pos rfl
      · rw [hLR.2.2.2 j (by omega), am_u1, if_neg j3]; exact h210' j
  cases hp : px_cl b n false (sk b n 0) 0 with
  | inl x =>
    rw [hp] at qo
    obtain ⟨J2, rfl, b2, x2, f2⟩ := qo
    refine ix_46 (S' := []) rfl (sh_208 hS) eo rfl rfl (ex_58 ?_)
    refine ex_6_0 (ix_41i (v := 1) (sh_208 hS) b2 (ex_if1 (fun _ => ?_) (fun h => by exfalso; revert h; decide)))
    rw [show px_text b n false = .inl x from by unfold px_text; simp only [px_cls, hp]] at fin ⊢
    exact zW_b hS b2 x2 f2 fin
  | inr q =>
    obtain ⟨s2, l2, oc⟩ := q
    rw [hp] at qo
    obtain ⟨J2, c2, rfl, hX2, hc2, h212, hC2, f2⟩ := qo
    refine ix_46 (S' := []) rfl (sh_208 hS) eo rfl rfl (ex_58 ?_)
    rw [show px_text b n false = (if s2 = n then .inr (1, am_u1 (fun _ => (0, none, none, 0, none)) 0 oc) else if tk b n s2 = [59] then px_cls b n false 11 (nx b n s2) l2 1 (am_u1 (fun _ => (0, none, none, 0, none)) 0 oc) else .inl s2) from by unfold px_text; simp only [px_cls, hp]] at fin ⊢
    refine zW_l hS hB 11 1 J2 s2 l2 c2 _ rfl hX2 h212 (fun j hj => ?_) (MLF_MCF f2 (Or.inl rfl)) fin
    rw [show j = 0 by omega, am_u1, if_pos rfl]
    exact hC2
