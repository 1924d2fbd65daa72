/-! ===== the reference: orders() ===== -/
theorem c_lin {d : Nat} {G : am_G} {I : Nat → Nat → Int} {P : Nat → Nat → Option Nat} {Q : am_O → Prop} (hS : ST G P) {n m cc : Nat} {cl : Nat → Cl} {c : Nat → Oc} {ρ : Nat → Int} {had : Int} (hm : m ≤ 12) (h21 : I 208 21 = (m : Int)) (hcc : cc ≤ 400) (hO : ∀ j, j < m → MO I j cc (c j)) (hOC : ∀ j, j < m → OCok (c j)) (hLN : LawNow ρ n cl) {i : Nat} (hi : i < m) : ∀ (k t : Nat) (J : Nat → Nat → Int) (z : Od), t + k = (c i).2.2.2.1 → MOI J z → OzI ρ (20 * i + t) z → MOF I J → (oT n cl (c i) k z = none → ∀ x K, K 208 20 = 0 → MOF I K → am_ex (am_call am_B am_M (d + 11)) (am_B 279) (am_B 279 17) [some (.inr (.inr (some 208))), some (.inl had), some (.inl (i : Int)), x] [] (G, K, P) Q) → (∀ z2, oT n cl (c i) k z = some z2 → ∀ K, MOI K z2 → OzI ρ (20 * i + (c i).2.2.2.1) z2 → MOF I K → am_ex (am_call am_B am_M (d + 11)) (am_B 279) (am_B 279 19) [some (.inr (.inr (some 208))), some (.inl had), some (.inl (i : Int)), some (.inl ((c i).2.2.2.1 : Int))] [] (G, K, P) Q) → am_ex (am_call am_B am_M (d + 11)) (am_B 279) (am_B 279 15) [some (.inr (.inr (some 208))), some (.inl had), some (.inl (i : Int)), some (.inl (t : Int))] [] (G, J, P) Q := by
  have hTi := (hOC i hi).2.2.2
  have hOi := hO i hi
  intro k
  induction k with
  | zero =>
    intro t J z ht hK hZ hF h0 h1
    have hti : (t : Int) = ((c i).2.2.2.1 : Int) := by omega
    refine (ex_4_3 (ex_6_0 (ix_41r (sh_208 hS) (pt_208_50 hS) (ex_0 (ex_4_2 (ex_11e (v := ((8 * i : Nat) : Int)) ((am_mul ⟨by omega, by omega⟩).trans (by omega)) (ex_0 (ex_11e (v := ((8 * i + 7 : Nat) : Int)) ((am_add ⟨by omega, by omega⟩).trans (by omega)) (ix_30 (j := (8 * i + 7)) (v := (((c i).2.2.2.1) : Int)) (sh_238 hS) (by omega) (by omega) (by omega) ((hF.1 238 _ (by decide) (by decide) (by decide) (by decide) (by decide) (by decide) (by decide) (by omega)).trans hOi.2.2.2.2.2.2.1) ?_)))))))))
    refine ex_ic3 (fun hc163 => ?_) (fun hc163 => by exfalso; omega)
    rw [hti]
    exact h1 z rfl J hK (OzI_mono hZ (by omega)) hF
  | succ k ih =>
    intro t J z ht hK hZ hF h0 h1
    have hOJ : MO J i cc (c i) := MO_fr hOi (funext fun k => hF.1 _ _ (by decide) (by decide) (by decide) (by decide) (by decide) (by decide) (by decide) (by omega)) (funext fun k => hF.1 _ _ (by decide) (by decide) (by decide) (by decide) (by decide) (by decide) (by decide) (by omega)) (funext fun k => hF.1 _ _ (by decide) (by decide) (by decide) (by decide) (by decide) (by decide) (by decide) (by omega))
    have hLz : LawNow z.1.1 n cl := LawNow_congr (hZ.2.1 4 (by omega)) (fun j hj => hZ.2.1 j (by omega)) hLN
    obtain ⟨o_, eo, qo⟩ := c_run (d := d) hS (i := i) (by omega) hcc hOJ hK hLz hZ (by omega) (hOC i hi)
    cases hr : orun n cl (c i) z with
    | none =>
      rw [hr] at qo
      obtain ⟨K, rfl, h20K, fK⟩ := qo
      refine (ex_4_3 (ex_6_0 (ix_41r (sh_208 hS) (pt_208_50 hS) (ex_0 (ex_4_2 (ex_11e (v := ((8 * i : Nat) : Int)) ((am_mul ⟨by omega, by omega⟩).trans (by omega)) (ex_0 (ex_11e (v := ((8 * i + 7 : Nat) : Int)) ((am_add ⟨by omega, by omega⟩).trans (by omega)) (ix_30 (j := (8 * i + 7)) (v := (((c i).2.2.2.1) : Int)) (sh_238 hS) (by omega) (by omega) (by omega) ((hF.1 238 _ (by decide) (by decide) (by decide) (by decide) (by decide) (by decide) (by decide) (by omega)).trans hOi.2.2.2.2.2.2.1) ?_)))))))))
      refine ex_ic3 (fun hc163 => by exfalso; omega) (fun hc163 => ?_)
      refine (ex_6_0 (ex_0 (ex_4_2 (ex_11e (v := ((8 * i : Nat) : Int)) ((am_mul ⟨by omega, by omega⟩).trans (by omega)) (ix_46 (S' := [(.inl (-3))]) rfl (sh_208 hS) eo rfl rfl (ex_if3 (fun hc => by exfalso; revert hc; decide) (fun _ => ?_)))))))
      exact h0 (oT_n hr) _ K h20K (MOF_trans hF fK)
    | some z2 =>
      rw [hr] at qo
      obtain ⟨K, rfl, iK, fK⟩ := qo
      have hZ2 := OzI_run (hOC i hi).1 hZ hr
      refine (ex_4_3 (ex_6_0 (ix_41r (sh_208 hS) (pt_208_50 hS) (ex_0 (ex_4_2 (ex_11e (v := ((8 * i : Nat) : Int)) ((am_mul ⟨by omega, by omega⟩).trans (by omega)) (ex_0 (ex_11e (v := ((8 * i + 7 : Nat) : Int)) ((am_add ⟨by omega, by omega⟩).trans (by omega)) (ix_30 (j := (8 * i + 7)) (v := (((c i).2.2.2.1) : Int)) (sh_238 hS) (by omega) (by omega) (by omega) ((hF.1 238 _ (by decide) (by decide) (by decide) (by decide) (by decide) (by decide) (by decide) (by omega)).trans hOi.2.2.2.2.2.2.1) ?_)))))))))
      refine ex_ic3 (fun hc163 => by exfalso; omega) (fun hc163 => ?_)
      refine (ex_6_0 (ex_0 (ex_4_2 (ex_11e (v := ((8 * i : Nat) : Int)) ((am_mul ⟨by omega, by omega⟩).trans (by omega)) (ix_46 (S' := [(.inl 0)]) rfl (sh_208 hS) eo rfl rfl (ex_if3 (fun _ => ?_) (fun hc => by exfalso; revert hc; decide)))))))
      refine (ex_10_3 ⟨by omega, by omega⟩ rfl (ex_28 ?_))
      exact ih (t + 1) K z2 (by omega) iK hZ2 (MOF_trans hF fK) (fun e => h0 ((oT_s hr).trans e)) (fun z3 e => h1 z3 ((oT_s hr).trans e))
theorem c_lout {d : Nat} {G : am_G} {I : Nat → Nat → Int} {P : Nat → Nat → Option Nat} {Q : am_O → Prop} (hS : ST G P) {n m cc : Nat} {cl : Nat → Cl} {c : Nat → Oc} {ρ : Nat → Int} {had : Int} (hm : m ≤ 12) (h21 : I 208 21 = (m : Int)) (hcc : cc ≤ 400) (hO : ∀ j, j < m → MO I j cc (c j)) (hOC : ∀ j, j < m → OCok (c j)) (hLN : LawNow ρ n cl) : ∀ (k i : Nat) (J : Nat → Nat → Int) (z : Od) (e3 : Option am_V), i + k = m → MOI J z → OzI ρ (20 * i) z → MOF I J → (∀ i2, oW n cl c k i z = .inl i2 → i2 < m → ∀ x K, K 208 20 = 0 → MOF I K → am_ex (am_call am_B am_M (d + 11)) (am_B 279) (am_B 279 17) [some (.inr (.inr (some 208))), some (.inl had), some (.inl (i2 : Int)), x] [] (G, K, P) Q) → (∀ z2, oW n cl c k i z = .inr z2 → ∀ x K, MOI K z2 → OzI ρ 240 z2 → MOF I K → am_ex (am_call am_B am_M (d + 11)) (am_B 279) (am_B 279 20) [some (.inr (.inr (some 208))), some (.inl had), some (.inl (m : Int)), x] [] (G, K, P) Q) → am_ex (am_call am_B am_M (d + 11)) (am_B 279) (am_B 279 13) [some (.inr (.inr (some 208))), some (.inl had), some (.inl (i : Int)), e3] [] (G, J, P) Q := by
  intro k
  induction k with
  | zero =>
    intro i J z e3 hi hK hZ hF h0 h1
    refine (ex_4_2 (ex_6_0 (ix_41i (v := (m : Int)) (sh_208 hS) ((hF.1 208 21 (by decide) (by decide) (by decide) (by decide) (by decide) (by decide) (by decide) (by decide)).trans h21) ?_)))
    refine ex_ic3 (fun hc145 => ?_) (fun hc145 => by exfalso; omega)
    have him : i = m := by omega
    subst him
    exact h1 z rfl e3 J hK (OzI_mono hZ (by omega)) hF
  | succ k ih =>
    intro i J z e3 hi hK hZ hF h0 h1
    have hT20 := (hOC i (by omega)).2.2.2
    refine (ex_4_2 (ex_6_0 (ix_41i (v := (m : Int)) (sh_208 hS) ((hF.1 208 21 (by decide) (by decide) (by decide) (by decide) (by decide) (by decide) (by decide) (by decide)).trans h21) ?_)))
    refine ex_ic3 (fun hc145 => by exfalso; omega) (fun hc145 => ?_)
    refine (ex_0 (ex_7_3 rfl (ex_58 ?_)))
    refine c_lin (d := d) hS hm h21 hcc hO hOC hLN (i := i) (by omega) (c i).2.2.2.1 0 J z (by omega) hK hZ hF (fun e x K h20 fK => h0 i (oW_n e) (by omega) x K h20 fK) (fun z2 e K iK hZ2 fK => ?_)
    refine (ex_10_2 ⟨by omega, by omega⟩ rfl (ex_28 ?_))
    exact ih (i + 1) K z2 _ (by omega) iK (OzI_mono hZ2 (by omega)) fK (fun i2 e2 => h0 i2 ((oW_s e).trans e2)) (fun z3 e2 => h1 z3 ((oW_s e).trans e2))
/-- what orders() of the reference leaves alone -/
def MFo (kk : Nat) (I J : Nat → Nat → Int) : Prop := ∀ q k, ¬ q = 210 → ¬ (213 ≤ q ∧ q ≤ 216) → ¬ (218 ≤ q ∧ q ≤ 222) → ¬ (226 ≤ q ∧ q ≤ 229) → ¬ q = 238 → ¬ (q = 208 ∧ (k = 0 ∨ k = 1 ∨ k = 8 ∨ (13 ≤ k ∧ k ≤ 21) ∨ k = 23 ∨ k = 26 ∨ k = 29 ∨ k = 30 ∨ k = 34 ∨ k = 38 ∨ k = 39 ∨ k = 40 ∨ (51 ≤ k ∧ k ≤ 54))) → ¬ (q = 209 ∧ k = kk) → J q k = I q k
def QMo (G : am_G) (P : Nat → Nat → Option Nat) (I : Nat → Nat → Int) (ρ : Nat → Int) (lg : List De) (n : Nat) (cl : Nat → Cl) (r : Nat ⊕ (Nat × (Nat → Oc))) (o : am_O) : Prop := match r with
  | .inl x => ∃ I1, o = (some (.inl (-6)), (G, I1, P)) ∧ I1 208 18 = (x : Int) ∧ I1 208 13 = 0 ∧ I1 208 20 = 0 ∧ I1 208 1 = -6 ∧ I1 209 6 = I 209 6 + 1 ∧ I1 208 53 = -1 ∧ I1 210 = ρ ∧ MLg I1 ρ lg ∧ MFo 6 I I1
  | .inr (m, c) => (match oW n cl c m 0 ((ρ, lg), 0, -1) with
    | .inl i => ∃ I1, o = (some (.inl (-3)), (G, I1, P)) ∧ I1 208 18 = -1 ∧ I1 208 13 = 0 ∧ I1 208 20 = 0 ∧ I1 208 1 = -3 ∧ I1 209 3 = I 209 3 + 1 ∧ I1 208 53 = (i : Int) ∧ I1 210 = ρ ∧ MLg I1 ρ lg ∧ MFo 3 I I1
    | .inr z => ∃ I1, o = (some (.inl z.2.1), (G, I1, P)) ∧ I1 208 18 = -1 ∧ I1 208 13 = 0 ∧ I1 208 20 = 0 ∧ I1 208 1 = 0 ∧ I1 208 53 = -1 ∧ I1 210 = z.1.1 ∧ MLg I1 z.1.1 z.1.2 ∧ OzI ρ 240 z ∧ MFo 0 I I1)
theorem c_o13 {d : Nat} {G : am_G} {I : Nat → Nat → Int} {P : Nat → Nat → Option Nat} (hS : ST G P) {n m cc : Nat} {cl : Nat → Cl} {c : Nat → Oc} {ρ : Nat → Int} {lg : List De} {B : Nat → Nat → Int} (hm : m ≤ 12) (h21 : I 208 21 = (m : Int)) (hcc : cc ≤ 400) (hO : ∀ j, j < m → MO I j cc (c j)) (hOC : ∀ j, j < m → OCok (c j)) (hLN : LawNow ρ n cl) (hI : MOI I ((ρ, lg), 0, -1)) (hW : WR ρ lg) (hL : MLg B ρ lg) (g5 : ∀ j, j < 400 → I 215 j = B 213 j) (g6 : ∀ j, j < 16 → I 216 j = B 214 j) (gb : ∀ j, j < 25 → I 213 (25 * 17 + j) = ρ (5 + j)) (h18 : I 208 18 = -1) (h13 : I 208 13 = 0) (h53 : I 208 53 = -1) {rx : Int} (hR3 : I 209 3 = rx) (hrx : 0 ≤ rx ∧ rx ≤ 1000000) {e3 : Option am_V} : am_ex (am_call am_B am_M (d + 11)) (am_B 279) (am_B 279 13) [some (.inr (.inr (some 208))), some (.inl ((lg.length : Nat) : Int)), some (.inl ((0 : Nat) : Int)), e3] [] (G, I, P) (fun o => match oW n cl c m 0 ((ρ, lg), 0, -1) with | .inl i => ∃ I1, o = (some (.inl (-3)), (G, I1, P)) ∧ I1 208 18 = -1 ∧ I1 208 13 = 0 ∧ I1 208 20 = 0 ∧ I1 208 1 = -3 ∧ I1 209 3 = rx + 1 ∧ I1 208 53 = (i : Int) ∧ I1 210 = ρ ∧ MLg I1 ρ lg ∧ MFo 3 I I1 | .inr z => ∃ I1, o = (some (.inl z.2.1), (G, I1, P)) ∧ I1 208 18 = -1 ∧ I1 208 13 = 0 ∧ I1 208 20 = 0 ∧ I1 208 1 = 0 ∧ I1 208 53 = -1 ∧ I1 210 = z.1.1 ∧ MLg I1 z.1.1 z.1.2 ∧ OzI ρ 240 z ∧ MFo 0 I I1) := by
  refine c_lout (d := d) (had := ((lg.length : Nat) : Int)) hS hm h21 hcc hO hOC hLN m 0 I _ e3 (by omega) hI ⟨hW, fun _ _ => rfl, show (0 : Int) ≤ 0 ∧ (0 : Int) ≤ ((20 * 0 : Nat) : Int) from ⟨by decide, by decide⟩, show (-1 : Int) ≤ -1 ∧ (-1 : Int) ≤ 1000 from ⟨by decide, by decide⟩⟩ MOF_refl (fun i2 e2 hi2 x K h20K fK => ?_) (fun z2 e2 x K iK hZ2 fK => ?_)
  · skip
    refine (ex_6_0 (ex_4_1 ?_))
    obtain ⟨Kg, eg, q8, q210, q213, q214, fq⟩ := c_giveBack (d := d + 9) (I := K) (v := ((lg.length : Nat) : Int)) hS
    have r209 : Kg 209 3 = rx := (fq _ _ (by decide) (by decide) (by decide) (by decide)).trans ((fK.1 _ _ (by decide) (by decide) (by decide) (by decide) (by decide) (by decide) (by decide) (by decide)).trans hR3)
    have fKg : ∀ k, ¬ (k = 8 ∨ k = 34 ∨ k = 38 ∨ k = 39 ∨ k = 40 ∨ k = 51 ∨ k = 52 ∨ k = 54) → Kg 208 k = I 208 k := fun k hk => (fq 208 k (by decide) (by decide) (by decide) (by omega)).trans (fK.1 208 k (by decide) (by decide) (by decide) (by decide) (by decide) (by decide) (by decide) (by omega))
    have row : Kg 210 = ρ := by
      rw [q210]
      funext j
      by_cases hj : 5 ≤ j ∧ j < 5 + 25
      · rw [cp_in hj, fK.2.1 _ (by omega), gb _ (by omega)]; exact congrArg ρ (by omega)
      · rw [cp_out hj, fK.2.2 _ (by omega)]; exact congrFun hI.1 j
    have hLg : MLg Kg ρ lg := MLg_fr hL (q8.trans hL.2.1.symm) (fun j hj => (q213 j hj).trans ((fK.1 _ _ (by decide) (by decide) (by decide) (by decide) (by decide) (by decide) (by decide) (by omega)).trans (g5 j hj))) (fun j hj => (q214 j hj).trans ((fK.1 _ _ (by decide) (by decide) (by decide) (by decide) (by decide) (by decide) (by decide) (by omega)).trans (g6 j hj)))
    refine (ix_46 (S' := []) rfl (sh_208 hS) eg rfl rfl (ex_6_0 (ex_4_2 (ix_42i (sh_208 hS) (ex_6_0 (ex_0 (ix_46 (S' := [(.inl (-3))]) rfl (sh_208 hS) (c_tell_c hS (k := 3) (by decide) (by decide) ((u2_q (by decide)).trans r209) hrx) rfl rfl ?_)))))))
    exact ex_53 (by rw [e2]; exact ⟨_, rfl, (u2_q (by decide)).trans ((u2_k (by decide)).trans ((u2_k (by decide)).trans ((fKg _ (by decide)).trans h18))), (u2_q (by decide)).trans ((u2_k (by decide)).trans ((u2_k (by decide)).trans ((fKg _ (by decide)).trans h13))), (u2_q (by decide)).trans ((u2_k (by decide)).trans ((u2_k (by decide)).trans ((fq _ _ (by decide) (by decide) (by decide) (by decide)).trans h20K))), (u2_q (by decide)).trans (u2_e), u2_e, (u2_q (by decide)).trans ((u2_k (by decide)).trans (u2_e)), (u2_qf (by decide)).trans ((u2_qf (by decide)).trans ((u2_qf (by decide)).trans (row))), MLg_fr hLg ((u2_q (by decide)).trans ((u2_k (by decide)).trans (u2_k (by decide)))) (fun j _ => (u2_q (by decide)).trans ((u2_q (by decide)).trans (u2_q (by decide)))) (fun j _ => (u2_q (by decide)).trans ((u2_q (by decide)).trans (u2_q (by decide)))), fun q k a1 a2 a3 a4 a5 a6 a7 => (u2_o a7).trans ((u2_o (by omega)).trans ((u2_o (by omega)).trans ((fq q k a1 (by omega) (by omega) (by omega)).trans (fK.1 q k (by omega) (by omega) (by omega) a1 (by omega) (by omega) (by omega) (by omega)))))⟩)
  · have hvp : 0 ≤ z2.2.1 := hZ2.2.2.1.1
    refine (ex_6_0 (ex_6_0 (ix_41i (v := z2.2.1) (sh_208 hS) iK.2.2.1 (ix_46 (S' := [(.inl z2.2.1)]) rfl (sh_208 hS) (c_tell_p hS hvp) rfl rfl ?_))))
    exact ex_53 (by rw [e2]; exact ⟨_, rfl, (u2_k (by decide)).trans ((fK.1 208 18 (by decide) (by decide) (by decide) (by decide) (by decide) (by decide) (by decide) (by decide)).trans h18), (u2_k (by decide)).trans ((fK.1 208 13 (by decide) (by decide) (by decide) (by decide) (by decide) (by decide) (by decide) (by decide)).trans h13), (u2_k (by decide)).trans iK.2.2.2.2, u2_e, (u2_k (by decide)).trans ((fK.1 208 53 (by decide) (by decide) (by decide) (by decide) (by decide) (by decide) (by decide) (by decide)).trans h53), (u2_qf (by decide)).trans iK.1, MLg_fr iK.2.1 (u2_k (by decide)) (fun j _ => u2_q (by decide)) (fun j _ => u2_q (by decide)), hZ2, fun q k a1 a2 a3 a4 a5 a6 a7 => (u2_o (by omega)).trans (fK.1 q k (by omega) (by omega) (by omega) a1 (by omega) (by omega) (by omega) (by omega))⟩)
theorem c_o6 {d : Nat} {G : am_G} {I : Nat → Nat → Int} {P : Nat → Nat → Option Nat} (hS : ST G P) {n m cc : Nat} {cl : Nat → Cl} {c : Nat → Oc} {ρ : Nat → Int} {lg : List De} (hm : m ≤ 12) (h21 : I 208 21 = (m : Int)) (hcc : cc ≤ 400) (hO : ∀ j, j < m → MO I j cc (c j)) (hOC : ∀ j, j < m → OCok (c j)) (hLN : LawNow ρ n cl) (hr : I 210 = ρ) (hL : MLg I ρ lg) (hW : WR ρ lg) (h20 : I 208 20 = 0) (h18 : I 208 18 = -1) (h13 : I 208 13 = 0) (h53 : I 208 53 = -1) {rx : Int} (hR3 : I 209 3 = rx) (hrx : 0 ≤ rx ∧ rx ≤ 1000000) : am_ex (am_call am_B am_M (d + 11)) (am_B 279) (am_B 279 6) [some (.inr (.inr (some 208))), none, none, none] [] (G, I, P) (fun o => match oW n cl c m 0 ((ρ, lg), 0, -1) with | .inl i => ∃ I1, o = (some (.inl (-3)), (G, I1, P)) ∧ I1 208 18 = -1 ∧ I1 208 13 = 0 ∧ I1 208 20 = 0 ∧ I1 208 1 = -3 ∧ I1 209 3 = rx + 1 ∧ I1 208 53 = (i : Int) ∧ I1 210 = ρ ∧ MLg I1 ρ lg ∧ MFo 3 I I1 | .inr z => ∃ I1, o = (some (.inl z.2.1), (G, I1, P)) ∧ I1 208 18 = -1 ∧ I1 208 13 = 0 ∧ I1 208 20 = 0 ∧ I1 208 1 = 0 ∧ I1 208 53 = -1 ∧ I1 210 = z.1.1 ∧ MLg I1 z.1.1 z.1.2 ∧ OzI ρ 240 z ∧ MFo 0 I I1) := by
  refine (ex_6_0 (ex_0 (ix_46 (S' := []) rfl (sh_208 hS) (c_keepAll hS (k := 17) (by decide)) rfl rfl (ex_6_0 (ix_41i (v := ((lg.length : Nat) : Int)) (sh_208 hS) ((u1_qk (by decide)).trans hL.2.1) (ex_7_1 rfl (ex_0 (ex_7_2 rfl (ex_58 ?_)))))))))
  refine ex_forR (b := 7) (σ := Unit) (400) (fun x s => s) (fun x s J => (∀ j, j < x → J 215 j = (am_u1 I 213 (am_cp (I 210) (I 213) (5) (25 * 17) 25)) 213 j) ∧ (∀ q k, ¬ q = 215 → J q k = (am_u1 I 213 (am_cp (I 210) (I 213) (5) (25 * 17) 25)) q k)) (fun x s e_x => [some (.inr (.inr (some 208))), some (.inl ((lg.length : Nat) : Int)), some (.inl (x : Int)), none]) ?_ (400) (0) (()) (fun k_ => ([some (.inr (.inr (some 208))), some (.inl ((lg.length : Nat) : Int)), some (.inl 0), none] : am_L).getD k_ none) ((am_u1 I 213 (am_cp (I 210) (I 213) (5) (25 * 17) 25))) (by omega) (⟨fun j hj => absurd hj (by omega), fun q k _ => rfl⟩) rfl ?_
  · intro x s e_x J hix hvx hkx
    obtain ⟨g1, g2⟩ := hvx
    refine (ex_4_2 (ex_0 ?_))
    refine ex_ic3 (fun hc81 => by exfalso; omega) (fun hc81 => ?_)
    refine (ex_6_0 (ix_41r (sh_208 hS) (pt_208_9 hS) (ex_4_2 (ex_6_0 (ix_41r (sh_208 hS) (pt_208_6 hS) (ex_4_2 (ix_30 (j := x) (v := ((am_u1 I 213 (am_cp (I 210) (I 213) (5) (25 * 17) 25)) 213 x)) (sh_213 hS) (by omega) (by omega) (by omega) (g2 _ _ (by decide)) (ix_34 (j := x) (sh_215 hS) (by omega) (by omega) (by omega) (ex_10_2 ⟨by omega, by omega⟩ rfl (ex_28 ?_))))))))))
    exact hkx (()) (fun k_ => ([some (.inr (.inr (some 208))), some (.inl ((lg.length : Nat) : Int)), some (.inl ((x : Int) + 1)), none] : am_L).getD k_ none) _ (rfl) (⟨fun j hj => (by rw [u2_at]; by_cases e : j = x; (rw [if_pos e, e]); (rw [if_neg e]; exact g1 j (by omega))), fun q k a => (u2_q a).trans (g2 q k a)⟩)
  · intro s e_x J hsx hvx
    obtain ⟨g1, g2⟩ := hvx
    refine (ex_4_2 (ex_0 ?_))
    refine ex_ic3 (fun hc81 => ?_) (fun hc81 => by exfalso; omega)
    refine (ex_0 (ex_7_2 rfl (ex_58 ?_)))
    refine ex_forR (b := 10) (σ := Unit) (16) (fun x s => s) (fun x s J => (∀ j, j < 400 → J 215 j = (am_u1 I 213 (am_cp (I 210) (I 213) (5) (25 * 17) 25)) 213 j) ∧ (∀ j, j < x → J 216 j = I 214 j) ∧ (∀ q k, ¬ q = 215 → ¬ q = 216 → J q k = (am_u1 I 213 (am_cp (I 210) (I 213) (5) (25 * 17) 25)) q k)) (fun x s e_x => [some (.inr (.inr (some 208))), some (.inl ((lg.length : Nat) : Int)), some (.inl (x : Int)), none]) ?_ (16) (0) (()) (fun k_ => ([some (.inr (.inr (some 208))), some (.inl ((lg.length : Nat) : Int)), some (.inl 0), none] : am_L).getD k_ none) (J) (by omega) (⟨g1, fun j hj => absurd hj (by omega), fun q k a _ => g2 q k a⟩) rfl ?_
    · intro x s e_x J hix hvx hkx
      obtain ⟨g1, g2, g3⟩ := hvx
      refine (ex_4_2 (ex_0 ?_))
      refine ex_ic3 (fun hc107 => by exfalso; omega) (fun hc107 => ?_)
      refine (ex_6_0 (ix_41r (sh_208 hS) (pt_208_10 hS) (ex_4_2 (ex_6_0 (ix_41r (sh_208 hS) (pt_208_7 hS) (ex_4_2 (ix_30 (j := x) (v := (I 214 x)) (sh_214 hS) (by omega) (by omega) (by omega) ((g3 _ _ (by decide) (by decide)).trans (u1_qk (by decide))) (ix_34 (j := x) (sh_216 hS) (by omega) (by omega) (by omega) (ex_10_2 ⟨by omega, by omega⟩ rfl (ex_28 ?_))))))))))
      exact hkx (()) (fun k_ => ([some (.inr (.inr (some 208))), some (.inl ((lg.length : Nat) : Int)), some (.inl ((x : Int) + 1)), none] : am_L).getD k_ none) _ (rfl) (⟨fun j hj => (u2_q (by decide)).trans (g1 j hj), fun j hj => (by rw [u2_at]; by_cases e : j = x; (rw [if_pos e, e]); (rw [if_neg e]; exact g2 j (by omega))), fun q k a b => (u2_q b).trans (g3 q k a b)⟩)
    · intro s e_x J hsx hvx
      obtain ⟨g1, g2, g3⟩ := hvx
      refine (ex_4_2 (ex_0 ?_))
      refine ex_ic3 (fun hc107 => ?_) (fun hc107 => by exfalso; omega)
      refine (ex_6_0 (ex_0 (ix_42i (sh_208 hS) (ex_6_0 (ex_0 (ix_42i (sh_208 hS) (ex_0 (ex_7_2 rfl (ex_58 ?_)))))))))
      have fJ : ∀ q k, ¬ q = 213 → ¬ q = 215 → ¬ q = 216 → ¬ (q = 208 ∧ (k = 51 ∨ k = 52)) → (am_u2 (am_u2 J 208 51 0) 208 52 (-1)) q k = I q k := fun q k a b e f => (u2_o (by omega)).trans ((u2_o (by omega)).trans ((g3 q k b e).trans (u1_qk a)))
      have f213 : ∀ j, (am_u2 (am_u2 J 208 51 0) 208 52 (-1)) 213 j = (am_u1 I 213 (am_cp (I 210) (I 213) (5) (25 * 17) 25)) 213 j := fun j => (u2_q (by decide)).trans ((u2_q (by decide)).trans (g3 _ _ (by decide) (by decide)))
      have lo : ∀ j, j < 400 → (am_u1 I 213 (am_cp (I 210) (I 213) (5) (25 * 17) 25)) 213 j = I 213 j := fun j hj => by rw [u1_e, cp_out (by omega)]
      have hi_ : ∀ j, j < 25 → (am_u1 I 213 (am_cp (I 210) (I 213) (5) (25 * 17) 25)) 213 (25 * 17 + j) = ρ (5 + j) := fun j hj => by rw [u1_e, cp_in (by omega), hr]; exact congrArg ρ (by omega)
      have hIJ : MOI (am_u2 (am_u2 J 208 51 0) 208 52 (-1)) ((ρ, lg), 0, -1) := ⟨(funext fun k => fJ _ _ (by decide) (by decide) (by decide) (by omega)).trans hr, MLg_fr hL (fJ _ _ (by decide) (by decide) (by decide) (by decide)) (fun j hj => (f213 j).trans (lo j hj)) (fun j _ => fJ _ _ (by decide) (by decide) (by decide) (by omega)), (u2_k (by decide)).trans u2_e, u2_e, (fJ _ _ (by decide) (by decide) (by decide) (by decide)).trans h20⟩
      have hOJ : ∀ j, j < m → MO (am_u2 (am_u2 J 208 51 0) 208 52 (-1)) j cc (c j) := fun j hj => MO_fr (hO j hj) (funext fun k => fJ _ _ (by decide) (by decide) (by decide) (by omega)) (funext fun k => fJ _ _ (by decide) (by decide) (by decide) (by omega)) (funext fun k => fJ _ _ (by decide) (by decide) (by decide) (by omega))
      have h5J : ∀ j, j < 400 → (am_u2 (am_u2 J 208 51 0) 208 52 (-1)) 215 j = I 213 j := fun j hj => (u2_q (by decide)).trans ((u2_q (by decide)).trans ((g1 j hj).trans (lo j hj)))
      have h6J : ∀ j, j < 16 → (am_u2 (am_u2 J 208 51 0) 208 52 (-1)) 216 j = I 214 j := fun j hj => (u2_q (by decide)).trans ((u2_q (by decide)).trans (g2 j hj))
      have hbJ : ∀ j, j < 25 → (am_u2 (am_u2 J 208 51 0) 208 52 (-1)) 213 (25 * 17 + j) = ρ (5 + j) := fun j hj => (f213 _).trans (hi_ j hj)
      generalize (am_u2 (am_u2 J 208 51 0) 208 52 (-1)) = JX at *
      have res := c_o13 (d := d) (I := JX) (B := I) (rx := rx) hS hm ((fJ _ _ (by decide) (by decide) (by decide) (by decide)).trans h21) hcc hOJ hOC hLN hIJ hW hL h5J h6J hbJ ((fJ _ _ (by decide) (by decide) (by decide) (by decide)).trans h18) ((fJ _ _ (by decide) (by decide) (by decide) (by decide)).trans h13) ((fJ _ _ (by decide) (by decide) (by decide) (by decide)).trans h53) ((fJ _ _ (by decide) (by decide) (by decide) (by decide)).trans hR3) hrx (e3 := none)
      have frm : ∀ kk K, MFo kk JX K → MFo kk I K := fun kk K h q k a1 a2 a3 a4 a5 a6 a7 => (h q k a1 a2 a3 a4 a5 a6 a7).trans (fJ q k (by omega) (by omega) (by omega) (by omega))
      obtain ⟨nn, o, rn, ro⟩ := res
      refine ⟨nn, o, rn, ?_⟩
      revert ro
      cases ho : oW n cl c m 0 ((ρ, lg), 0, -1) with
      | inl i => intro ro; obtain ⟨K, r0, r1, r2, r3, r4, r5, r6, r7, r8, r9⟩ := ro; exact ⟨K, r0, r1, r2, r3, r4, r5, r6, r7, r8, frm _ _ r9⟩
      | inr z => intro ro; obtain ⟨K, r0, r1, r2, r3, r4, r6, r7, r8, r9, r10⟩ := ro; exact ⟨K, r0, r1, r2, r3, r4, r6, r7, r8, r9, frm _ _ r10⟩
theorem m_orders {d : Nat} {G : am_G} {I : Nat → Nat → Int} {P : Nat → Nat → Option Nat} (hS : ST G P) (hK : KM I) {b : Nat → Int} {n : Nat} (hB : TB b n) (hn : I 208 13 = (n : Int)) (hb : ∀ k, k < n → I 217 k = b k) {ρ : Nat → Int} {lg : List De} {n2 : Nat} {cl2 : Nat → Cl} (hM : ME I ρ n2 cl2) (hL : MLg I ρ lg) (hW : WR ρ lg) (hR3 : 0 ≤ I 209 3 ∧ I 209 3 ≤ 1000000) (hR6 : 0 ≤ I 209 6 ∧ I 209 6 ≤ 1000000) : ∃ o, am_call am_B am_M (d + 12) 279 [.inr (.inr (some 208))] (G, I, P) = some o ∧ QMo G P I ρ lg n2 cl2 (px_text b n true) o := by
  refine am_doQ (L := [some (.inr (.inr (some 208))), none, none, none]) (Nat.le_of_ble_eq_true rfl) rfl ?_
  obtain ⟨J0, e0, hX0, h210, f0⟩ := c_beginText (d := d + 7) (I := am_u2 (am_u2 I 208 0 0) 208 53 (-1)) (od := true) hS (KM_fr hK (fun q k hq => (u2_q (by omega)).trans (u2_q (by omega)))) hB ((u2_k (by decide)).trans ((u2_k (by decide)).trans hn)) (fun k hk => (u2_q (by decide)).trans ((u2_q (by decide)).trans (hb k hk)))
  have fI : ∀ {J : Nat → Nat → Int}, MLF J0 J → ∀ q k, ¬ (q = 208 ∧ (k = 0 ∨ k = 53 ∨ (13 ≤ k ∧ k ≤ 21) ∨ k = 23 ∨ k = 26 ∨ k = 29 ∨ k = 30)) → ¬ (218 ≤ q ∧ q ≤ 222) → ¬ q = 238 → J q k = I q k := fun hF q k a b' c => (hF q k (by omega) b' c).trans ((f0 q k (by omega) b' c).trans ((u2_o (by omega)).trans (u2_o (by omega))))
  have f53 : ∀ {J : Nat → Nat → Int}, MLF J0 J → J 208 53 = -1 := fun hF => (hF _ _ (by decide) (by decide) (by decide)).trans ((f0 _ _ (by decide) (by decide) (by decide)).trans u2_e)
  refine ex_6_0 (ex_0 (ix_42i (sh_208 hS) (ex_6_0 (ex_0 (ix_42i (sh_208 hS) ?_)))))
  refine ex_6_0 (ex_0 (ix_46 (S' := []) rfl (sh_208 hS) e0 rfl rfl (ex_6_0 ?_)))
  obtain ⟨o_, eo, qo⟩ := cx (d := d + 2) (i := 0) hS hB hX0 h210
  rw [if_pos (by decide)] at qo
  have fin : ∀ K, PO MO J0 K (px_text b n true) → zO (d + 2) G P (QMo G P I ρ lg n2 cl2 (px_text b n true)) K := by
    intro K hPO
    obtain ⟨k13, k20, kF, kr⟩ := hPO
    have k210 : K 210 = ρ := (funext fun k => fI kF 210 k (by omega) (by omega) (by omega)).trans hM.1
    have kL : MLg K ρ lg := MLg_fr hL (fI kF 208 8 (by decide) (by decide) (by decide)) (fun j _ => fI kF 213 j (by omega) (by omega) (by omega)) (fun j _ => fI kF 214 j (by omega) (by omega) (by omega))
    cases hp : px_text b n true with
    | inl x =>
      rw [hp] at kr
      obtain ⟨k19, k18⟩ := kr
      refine ex_6_0 (ix_41i (v := 1) (sh_208 hS) k19 (ex_if0 (fun h => by exfalso; revert h; decide) (fun _ => ?_)))
      have h6 : K 209 6 = I 209 6 := fI kF 209 6 (by decide) (by decide) (by decide)
      refine ex_6_0 (ex_0 (ix_46 (S' := [.inl (-6)]) rfl (sh_208 hS) (c_tell_c hS (k := 6) (by decide) (by decide) h6 hR6) rfl rfl (ex_53 ?_)))
      exact ⟨_, rfl, (u2_q (by decide)).trans ((u2_k (by decide)).trans k18), (u2_q (by decide)).trans ((u2_k (by decide)).trans k13), (u2_q (by decide)).trans ((u2_k (by decide)).trans k20), (u2_q (by decide)).trans u2_e, u2_e, (u2_q (by decide)).trans ((u2_k (by decide)).trans (f53 kF)), (u2_qf (by decide)).trans ((u2_qf (by decide)).trans k210), MLg_fr kL ((u2_q (by decide)).trans (u2_k (by decide))) (fun j _ => (u2_q (by decide)).trans (u2_q (by decide))) (fun j _ => (u2_q (by decide)).trans (u2_q (by decide))), fun q k a1 a2 a3 a4 a5 a6 a7 => (u2_o a7).trans ((u2_o (by omega)).trans (fI kF q k (by omega) a3 a5))⟩
    | inr q =>
      obtain ⟨m, c⟩ := q
      rw [hp] at kr
      obtain ⟨k19, k18, k21, km, cc, k23, kc, kC⟩ := kr
      refine ex_6_0 (ix_41i (v := 0) (sh_208 hS) k19 (ex_if0 (fun _ => ?_) (fun h => absurd rfl h)))
      obtain ⟨nn, o, rn, ro⟩ := c_o6 (d := d) (I := K) hS km k21 kc kC (px_text_ok hp).2 hM.2.2.1 k210 kL hW k20 k18 k13 (f53 kF) (fI kF 209 3 (by decide) (by decide) (by decide)) hR3
      refine ⟨nn, o, rn, ?_⟩
      have frm : ∀ kk K2, MFo kk K K2 → MFo kk I K2 := fun kk K2 h q k a1 a2 a3 a4 a5 a6 a7 => (h q k a1 a2 a3 a4 a5 a6 a7).trans (fI kF q k (by omega) a3 a5)
      show (match oW n2 cl2 c m 0 ((ρ, lg), 0, -1) with | .inl i => _ | .inr z => _)
      revert ro
      cases ho : oW n2 cl2 c m 0 ((ρ, lg), 0, -1) with
      | inl i => intro ro; obtain ⟨K3, r0, r1, r2, r3, r4, r5, r6, r7, r8, r9⟩ := ro; exact ⟨K3, r0, r1, r2, r3, r4, r5, r6, r7, r8, frm _ _ r9⟩
      | inr z => intro ro; obtain ⟨K3, r0, r1, r2, r3, r4, r6, r7, r8, r9, r10⟩ := ro; exact ⟨K3, r0, r1, r2, r3, r4, r6, r7, r8, r9, frm _ _ r10⟩
  cases hp : px_cl b n true (sk b n 0) 0 with
  | inl x =>
    rw [hp] at qo
    obtain ⟨J2, rfl, b2, x2, f2⟩ := qo
    refine ix_46 (S' := []) rfl (sh_208 hS) eo rfl rfl (ex_58 ?_)
    refine ex_6_0 (ix_41i (v := 1) (sh_208 hS) b2 (ex_if1 (fun _ => ?_) (fun h => by exfalso; revert h; decide)))
    rw [show px_text b n true = .inl x from by unfold px_text; simp only [px_cls, hp]] at fin ⊢
    exact zO_b (d := d + 2) hS b2 x2 f2 fin
  | inr q =>
    obtain ⟨s2, l2, oc⟩ := q
    rw [hp] at qo
    obtain ⟨J2, c2, rfl, hX2, hc2, h212, hC2, f2⟩ := qo
    refine ix_46 (S' := []) rfl (sh_208 hS) eo rfl rfl (ex_58 ?_)
    rw [show px_text b n true = (if s2 = n then .inr (1, am_u1 (fun _ => (0, none, none, 0, none)) 0 oc) else if tk b n s2 = [59] then px_cls b n true 11 (nx b n s2) l2 1 (am_u1 (fun _ => (0, none, none, 0, none)) 0 oc) else .inl s2) from by unfold px_text; simp only [px_cls, hp]] at fin ⊢
    refine zO_l (d := d + 2) hS hB 11 1 J2 s2 l2 c2 _ rfl hX2 h212 (fun j hj => ?_) (MLF_MCF f2 (Or.inr rfl)) fin
    rw [show j = 0 by omega, am_u1, if_pos rfl]
    exact hC2
