/-! ===== the fair share ===== -/
noncomputable def ft1 (ρ : Nat → Int) (n : Nat) (cl : Nat → Cl) (sh : Nat → Int) (c f : Nat) (u : Int) : Int := @ite Int ((u = -1 ∨ sh f < sh u.toNat) ∧ m_can ρ n cl c f) (Classical.propDecidable _) (f : Int) u
noncomputable def fas (ρ : Nat → Int) (n : Nat) (cl : Nat → Cl) (F c : Nat) (sh : Nat → Int) : Nat → Int := if am_it (fun f u => ft1 ρ n cl sh c f u) F 0 (-1) = -1 then sh else am_u1 sh (am_it (fun f u => ft1 ρ n cl sh c f u) F 0 (-1)).toNat (sh (am_it (fun f u => ft1 ρ n cl sh c f u) F 0 (-1)).toNat + m_told ρ n cl c (am_it (fun f u => ft1 ρ n cl sh c f u) F 0 (-1)).toNat)
noncomputable def fsh (ρ : Nat → Int) (n : Nat) (cl : Nat → Cl) (F N : Nat) : Nat → Int := am_it (fun c sh => fas ρ n cl F c sh) N 0 (fun _ => 0)
theorem fas_b {ρ : Nat → Int} {n : Nat} {cl : Nat → Cl} {F c : Nat} {sh : Nat → Int} (h : ∀ j, 0 ≤ sh j ∧ sh j ≤ 9 * (c : Int)) : ∀ j, 0 ≤ fas ρ n cl F c sh j ∧ fas ρ n cl F c sh j ≤ 9 * ((c + 1 : Nat) : Int) := by
  intro j
  unfold fas
  generalize am_it (fun f u => ft1 ρ n cl sh c f u) F 0 (-1) = u
  have h1 := h j
  split
  · omega
  · have h2 := h u.toNat
    have h3 := m_told_b (ρ := ρ) (n := n) (cl := cl) (c := c) (f := u.toNat)
    unfold am_u1
    split <;> omega
/-- the reference: all but where the fair shares are worked out, and what is thrown -/
def FFm (I J : Nat → Nat → Int) : Prop := ∀ q k, ¬ q = 228 → ¬ q = 226 → ¬ q = 235 → ¬ (q = 208 ∧ (k = 0 ∨ k = 34 ∨ k = 38 ∨ k = 39 ∨ k = 40)) → J q k = I q k
theorem FFm_trans {I J K : Nat → Nat → Int} (h : FFm I J) (h2 : FFm J K) : FFm I K := fun q k a b c d => (h2 q k a b c d).trans (h q k a b c d)
theorem FFm_TF {I J : Nat → Nat → Int} (h : TF I J) : FFm I J := fun q k a b _ c => h q k a b (by omega)
theorem FFm_th {I : Nat → Nat → Int} : FFm I (am_u2 I 208 0 0) := fun q k a b _ c => u2_o (by omega)
theorem FFm_w {I : Nat → Nat → Int} {k : Nat} {v : Int} : FFm I (am_u2 I 235 k v) := fun q j a b c d => u2_q c
theorem ME_u235 {I : Nat → Nat → Int} {ρ : Nat → Int} {n : Nat} {cl : Nat → Cl} {k : Nat} {v : Int} (h : ME I ρ n cl) : ME (am_u2 I 235 k v) ρ n cl := ⟨(u2_qf (by decide)).trans h.1, h.2.1, h.2.2.1, (u2_q (by decide)).trans h.2.2.2⟩
theorem k_fair {d : Nat} {G : am_G} {I : Nat → Nat → Int} {P : Nat → Nat → Option Nat} (hS : ST G P) {c : Nat} (hCc : CQ c) {ρ : Nat → Int} {n : Nat} {cl : Nat → Cl} (hE : CE G I P c ρ n cl) {N F : Nat} (hN : ρ 0 = (N : Int)) (hF : ρ 1 = (F : Int)) (hBN : BarN n cl) {f : Nat} (hf : f < 5) : ∃ I1, am_call am_B am_M (d + 5) 9 [(.inr (.inr (some 116))), (.inr (.inr (some c))), (.inl (f : Int))] (G, I, P) = some (some (.inl (fsh ρ n cl F N f)), (G, I1, P)) ∧ (CE G I1 P c ρ n cl ∧ AF I I1) := by
  have h06 := RW_n0 hE.2.1
  have h15 := RW_n1 hE.2.1
  have hqc : c = 65 ∨ c = 93 ∨ c = 122 ∨ c = 139 ∨ c = 174 ∨ c = 191 := hCc
  have w : am_ex (am_call am_B am_M (d + 4)) (am_B 9) (am_B 9 0) [some (.inr (.inr (some 116))), some (.inr (.inr (some c))), some (.inl (f : Int)), none, none, none] [] (G, I, P) (fun o => ∃ I1, o = (some (.inl (fsh ρ n cl F N f)), (G, I1, P)) ∧ (CE G I1 P c ρ n cl ∧ AF I I1)) := by
    refine (ex_0 (ex_7_3 rfl (ex_58 ?_)))
    refine ex_forR (b := 1) (σ := Unit) (5) (fun x t => t) (fun x t J => CE G J P c ρ n cl ∧ (∀ j, j < x → J 120 j = 0) ∧ AF I J) (fun x t e_x => [some (.inr (.inr (some 116))), some (.inr (.inr (some c))), some (.inl (f : Int)), some (.inl (x : Int)), none, none]) ?_ (5) (0) (()) (fun k_ => ([some (.inr (.inr (some 116))), some (.inr (.inr (some c))), some (.inl (f : Int)), some (.inl 0), none, none] : am_L).getD k_ none) (I) (by omega) (⟨hE, fun j hj => absurd hj (by omega), AF_refl⟩) rfl ?_
    · intro x t e_x J hix hvx hkx
      obtain ⟨hEJ, hzx, hfx⟩ := hvx
      refine (ex_4_3 (ex_0 ?_))
      refine ex_ic3 (fun hc4 => by exfalso; omega) (fun hc4 => ?_)
      refine (ex_6_0 (ix_41r (sh_116 hS) (pt_116_4 hS) (ex_4_3 (ex_0 (ix_34 (j := x) (sh_120 hS) (by omega) (by omega) (by omega) (ex_10_3 ⟨by omega, by omega⟩ rfl (ex_28 ?_)))))))
      exact hkx (()) (fun k_ => ([some (.inr (.inr (some 116))), some (.inr (.inr (some c))), some (.inl (f : Int)), some (.inl ((x : Int) + 1)), none, none] : am_L).getD k_ none) _ (rfl) (⟨(CE_AF hCc hEJ (fun q k a b e => u2_q (by omega))), fun t ht => (by rw [u2_at]; by_cases e : t = x; (rw [if_pos e]); (rw [if_neg e]; exact hzx t (by omega))), AF_trans hfx (fun q k a b e => u2_q (by omega))⟩)
    · intro t e_x J hsx hvx
      obtain ⟨hEJ, hzx, hfx⟩ := hvx
      refine (ex_4_3 (ex_0 ?_))
      refine ex_ic3 (fun hc4 => ?_) (fun hc4 => by exfalso; omega)
      refine (ex_0 (ex_7_3 rfl (ex_58 ?_)))
      refine ex_forR (b := 4) (σ := Nat → Int) (N) (fun i s => fas ρ n cl F i s) (fun i s J => CE G J P c ρ n cl ∧ (∀ j, j < 5 → J 120 j = s j) ∧ (∀ j, 0 ≤ s j ∧ s j ≤ 9 * (i : Int)) ∧ AF I J) (fun i s e_i => [some (.inr (.inr (some 116))), some (.inr (.inr (some c))), some (.inl (f : Int)), some (.inl (i : Int)), (e_i 4), (e_i 5)]) ?_ (N) (0) ((fun _ => 0)) (fun k_ => ([some (.inr (.inr (some 116))), some (.inr (.inr (some c))), some (.inl (f : Int)), some (.inl 0), none, none] : am_L).getD k_ none) (J) (by omega) (⟨hEJ, hzx, fun j => ⟨Int.le_refl _, by show (0 : Int) ≤ _; omega⟩, hfx⟩) rfl ?_
      · intro i s e_i J hii hvi hki
        clear hEJ
        obtain ⟨hEJ, hsJ, hbi, hfi⟩ := hvi
        refine (ex_4_3 (ex_6_1 (ix_41i (v := (N : Int)) (cs_0 hS hCc) ((CC_n0 hEJ.1).trans hN) ?_)))
        refine ex_ic3 (fun hc27 => by exfalso; omega) (fun hc27 => ?_)
        refine (ex_0 (ex_7_4 rfl (ex_0 (ex_7_5 rfl (ex_58 ?_)))))
        refine ex_forR (b := 6) (σ := Int) (F) (fun y u => ft1 ρ n cl s i y u) (fun y u J => CE G J P c ρ n cl ∧ (∀ j, j < 5 → J 120 j = s j) ∧ (u = -1 ∨ (0 ≤ u ∧ u < (y : Int))) ∧ AF I J) (fun y u e_y => [some (.inr (.inr (some 116))), some (.inr (.inr (some c))), some (.inl (f : Int)), some (.inl (i : Int)), some (.inl u), some (.inl (y : Int))]) ?_ (F) (0) ((-1)) (fun k_ => ([some (.inr (.inr (some 116))), some (.inr (.inr (some c))), some (.inl (f : Int)), some (.inl (i : Int)), some (.inl (-1)), some (.inl 0)] : am_L).getD k_ none) (J) (by omega) (⟨hEJ, hsJ, Or.inl rfl, hfi⟩) rfl ?_
        · intro y u e_y J hiy hvy hky
          clear hEJ hsJ
          obtain ⟨hEJ, hsJ, huy, hfy⟩ := hvy
          refine (ex_4_5 (ex_6_1 (ix_41i (v := (F : Int)) (cs_0 hS hCc) ((CC_n1 hEJ.1).trans hF) ?_)))
          refine ex_ic3 (fun hc42 => by exfalso; omega) (fun hc42 => ?_)
          refine (ex_4_4 (ex_0 ?_))
          refine ex_ic0 (fun hc48 => ?_) (fun hc48 => ?_)
          · by_cases hcan : m_can ρ n cl i y
            · refine (ex_6_0 (ix_41r (sh_116 hS) (pt_116_0 hS) (ex_6_1 (ex_4_3 (ex_4_5 ?_)))))
              obtain ⟨K, eK, fK⟩ := k_can_t (d := d) hS hCc hEJ (c1 := i) (f := y) (by omega) (by omega) hBN hcan
              refine (ix_46 (S' := [(.inl 1)]) rfl (sh_88 hS) eK rfl rfl (ex_if0 (fun hc => by exfalso; revert hc; decide) (fun _ => ?_)))
              refine (ex_4_5 (ex_7_4 rfl (ex_58 (ex_10_5 ⟨by omega, by omega⟩ rfl (ex_28 ?_)))))
              exact hky ((y : Int)) (fun k_ => ([some (.inr (.inr (some 116))), some (.inr (.inr (some c))), some (.inl (f : Int)), some (.inl (i : Int)), some (.inl (y : Int)), some (.inl ((y : Int) + 1))] : am_L).getD k_ none) _ ((by show ((y : Int) : Int) = ft1 ρ n cl s i y u; unfold ft1; exact (if_pos ⟨Or.inl hc48, hcan⟩).symm)) (⟨(CE_LF hCc hEJ fK), fun j hj => ((fK : LF J K) _ _ (by decide) (by decide)).trans (hsJ j hj), by omega, AF_trans hfy (AF_LF fK)⟩)
            · refine (ex_6_0 (ix_41r (sh_116 hS) (pt_116_0 hS) (ex_6_1 (ex_4_3 (ex_4_5 ?_)))))
              obtain ⟨K, eK, fK⟩ := k_can_f (d := d) hS hCc hEJ (c1 := i) (f := y) (by omega) (by omega) hBN hcan
              refine (ix_46 (S' := [(.inl 0)]) rfl (sh_88 hS) eK rfl rfl (ex_if0 (fun _ => ?_) (fun hc => by exfalso; revert hc; decide)))
              refine (ex_10_5 ⟨by omega, by omega⟩ rfl (ex_28 ?_))
              exact hky (u) (fun k_ => ([some (.inr (.inr (some 116))), some (.inr (.inr (some c))), some (.inl (f : Int)), some (.inl (i : Int)), some (.inl u), some (.inl ((y : Int) + 1))] : am_L).getD k_ none) _ ((by show (u : Int) = ft1 ρ n cl s i y u; unfold ft1; exact (if_neg (fun z => hcan z.2)).symm)) (⟨(CE_LF hCc hEJ fK), fun j hj => ((fK : LF J K) _ _ (by decide) (by decide)).trans (hsJ j hj), by omega, AF_trans hfy (AF_LF fK)⟩)
          · obtain ⟨m, hm⟩ : ∃ m : Nat, u = (m : Int) := ⟨u.toNat, by omega⟩
            subst hm
            refine (ex_6_0 (ix_41r (sh_116 hS) (pt_116_4 hS) (ex_4_5 (ix_30 (j := y) (v := (s y)) (sh_120 hS) (by omega) (by omega) (by omega) (hsJ _ (by omega)) (ex_6_0 (ix_41r (sh_116 hS) (pt_116_4 hS) (ex_4_4 (ix_30 (j := m) (v := (s m)) (sh_120 hS) (by omega) (by omega) (by omega) (hsJ _ (by omega)) ?_))))))))
            refine ex_ic3 (fun hc65 => ?_) (fun hc65 => ?_)
            · refine (ex_10_5 ⟨by omega, by omega⟩ rfl (ex_28 ?_))
              exact hky ((m : Int)) (fun k_ => ([some (.inr (.inr (some 116))), some (.inr (.inr (some c))), some (.inl (f : Int)), some (.inl (i : Int)), some (.inl (m : Int)), some (.inl ((y : Int) + 1))] : am_L).getD k_ none) _ ((by show ((m : Int) : Int) = ft1 ρ n cl s i y (m : Int); unfold ft1; exact (if_neg (fun z => by rcases z.1 with z | z; omega; rw [Int.toNat_natCast] at z; omega)).symm)) (⟨(CE_LF hCc hEJ LF_refl), fun j hj => ((LF_refl : LF J J) _ _ (by decide) (by decide)).trans (hsJ j hj), by omega, AF_trans hfy (AF_LF LF_refl)⟩)
            · by_cases hcan : m_can ρ n cl i y
              · refine (ex_6_0 (ix_41r (sh_116 hS) (pt_116_0 hS) (ex_6_1 (ex_4_3 (ex_4_5 ?_)))))
                obtain ⟨K, eK, fK⟩ := k_can_t (d := d) hS hCc hEJ (c1 := i) (f := y) (by omega) (by omega) hBN hcan
                refine (ix_46 (S' := [(.inl 1)]) rfl (sh_88 hS) eK rfl rfl (ex_if0 (fun hc => by exfalso; revert hc; decide) (fun _ => ?_)))
                refine (ex_4_5 (ex_7_4 rfl (ex_58 (ex_10_5 ⟨by omega, by omega⟩ rfl (ex_28 ?_)))))
                exact hky ((y : Int)) (fun k_ => ([some (.inr (.inr (some 116))), some (.inr (.inr (some c))), some (.inl (f : Int)), some (.inl (i : Int)), some (.inl (y : Int)), some (.inl ((y : Int) + 1))] : am_L).getD k_ none) _ ((by show ((y : Int) : Int) = ft1 ρ n cl s i y (m : Int); unfold ft1; exact (if_pos ⟨Or.inr (by rw [Int.toNat_natCast]; omega), hcan⟩).symm)) (⟨(CE_LF hCc hEJ fK), fun j hj => ((fK : LF J K) _ _ (by decide) (by decide)).trans (hsJ j hj), by omega, AF_trans hfy (AF_LF fK)⟩)
              · refine (ex_6_0 (ix_41r (sh_116 hS) (pt_116_0 hS) (ex_6_1 (ex_4_3 (ex_4_5 ?_)))))
                obtain ⟨K, eK, fK⟩ := k_can_f (d := d) hS hCc hEJ (c1 := i) (f := y) (by omega) (by omega) hBN hcan
                refine (ix_46 (S' := [(.inl 0)]) rfl (sh_88 hS) eK rfl rfl (ex_if0 (fun _ => ?_) (fun hc => by exfalso; revert hc; decide)))
                refine (ex_10_5 ⟨by omega, by omega⟩ rfl (ex_28 ?_))
                exact hky ((m : Int)) (fun k_ => ([some (.inr (.inr (some 116))), some (.inr (.inr (some c))), some (.inl (f : Int)), some (.inl (i : Int)), some (.inl (m : Int)), some (.inl ((y : Int) + 1))] : am_L).getD k_ none) _ ((by show ((m : Int) : Int) = ft1 ρ n cl s i y (m : Int); unfold ft1; exact (if_neg (fun z => hcan z.2)).symm)) (⟨(CE_LF hCc hEJ fK), fun j hj => ((fK : LF J K) _ _ (by decide) (by decide)).trans (hsJ j hj), by omega, AF_trans hfy (AF_LF fK)⟩)
        · intro u e_y J hsy hvy
          clear hEJ hsJ
          obtain ⟨hEJ, hsJ, huy, hfy⟩ := hvy
          refine (ex_4_5 (ex_6_1 (ix_41i (v := (F : Int)) (cs_0 hS hCc) ((CC_n1 hEJ.1).trans hF) ?_)))
          refine ex_ic3 (fun hc42 => ?_) (fun hc42 => by exfalso; omega)
          refine (ex_4_4 (ex_0 ?_))
          refine ex_ic0 (fun hc95 => ?_) (fun hc95 => ?_)
          · refine (ex_10_3 ⟨by omega, by omega⟩ rfl (ex_28 ?_))
            exact hki (s) (fun k_ => ([some (.inr (.inr (some 116))), some (.inr (.inr (some c))), some (.inl (f : Int)), some (.inl ((i : Int) + 1)), some (.inl u), some (.inl ((F) : Int))] : am_L).getD k_ none) _ ((by unfold fas; rw [← hsy, if_pos (by omega)])) (⟨hEJ, hsJ, (by have h := fas_b (ρ := ρ) (n := n) (cl := cl) (F := F) hbi; unfold fas at h; rw [← hsy, if_pos (by omega)] at h; exact h), hfy⟩)
          · obtain ⟨m, hm⟩ : ∃ m : Nat, u = (m : Int) := ⟨u.toNat, by omega⟩
            subst hm
            have htb := m_told_b (ρ := ρ) (n := n) (cl := cl) (c := i) (f := m)
            have hsm := hbi m
            refine (ex_6_0 (ix_41r (sh_116 hS) (pt_116_4 hS) (ex_4_4 (ex_23 rfl (ix_30 (j := m) (v := (s m)) (sh_120 hS) (by omega) (by omega) (by omega) (hsJ _ (by omega)) (ex_6_0 (ix_41r (sh_116 hS) (pt_116_0 hS) (ex_6_1 (ex_4_3 (ex_4_4 ?_))))))))))
            obtain ⟨Q_, eQ, fQ⟩ := k_told (d := d) hS hCc hEJ (c1 := i) (f := m) (by omega) (by omega)
            refine (ix_46 (S' := [(.inl (m_told ρ n cl i m)), (.inl (s m)), (.inl (m : Int)), (.inr (.inr (some 120)))]) rfl (sh_88 hS) eQ rfl rfl (ex_add ⟨by omega, by omega⟩ (ix_34 (j := m) (sh_120 hS) (by omega) (by omega) (by omega) (ex_58 (ex_10_3 ⟨by omega, by omega⟩ rfl (ex_28 ?_))))))
            exact hki ((am_u1 s m (s m + m_told ρ n cl i m))) (fun k_ => ([some (.inr (.inr (some 116))), some (.inr (.inr (some c))), some (.inl (f : Int)), some (.inl ((i : Int) + 1)), some (.inl (m : Int)), some (.inl ((F) : Int))] : am_L).getD k_ none) _ ((by unfold fas; rw [← hsy, if_neg (by omega), Int.toNat_natCast])) (⟨(CE_AF hCc hEJ (AF_trans (AF_LF fQ) (fun q k a b e => u2_q (by omega)))), fun j hj => (by rw [u2_at]; unfold am_u1; by_cases e : j = m; (rw [if_pos e, if_pos e]); (rw [if_neg e, if_neg e, (fQ : LF J Q_) _ _ (by decide) (by decide)]; exact hsJ j hj)), (by have h := fas_b (ρ := ρ) (n := n) (cl := cl) (F := F) hbi; unfold fas at h; rw [← hsy, if_neg (by omega), Int.toNat_natCast] at h; exact h), AF_trans hfy (AF_trans (AF_LF fQ) (fun q k a b e => u2_q (by omega)))⟩)
      · intro s e_i J hsi hvi
        clear hEJ
        obtain ⟨hEJ, hsJ, hbi, hfi⟩ := hvi
        refine (ex_4_3 (ex_6_1 (ix_41i (v := (N : Int)) (cs_0 hS hCc) ((CC_n0 hEJ.1).trans hN) ?_)))
        refine ex_ic3 (fun hc27 => ?_) (fun hc27 => by exfalso; omega)
        refine (ex_6_0 (ix_41r (sh_116 hS) (pt_116_4 hS) (ex_4_2 (ix_30 (j := f) (v := (s f)) (sh_120 hS) (by omega) (by omega) (by omega) (hsJ _ (by omega)) ?_))))
        exact ex_53 ⟨_, by rw [hsi]; rfl, hEJ, hfi⟩
  obtain ⟨o, e, I1, rfl, h⟩ := am_doQ (as := [(.inr (.inr (some 116))), (.inr (.inr (some c))), (.inl (f : Int))]) (Nat.le_of_ble_eq_true rfl) rfl w
  exact ⟨I1, e, h⟩
theorem m_fair_b {d : Nat} {G : am_G} {I : Nat → Nat → Int} {P : Nat → Nat → Option Nat} (hS : ST G P) {ρ : Nat → Int} {n : Nat} {cl : Nat → Cl} (hM : ME I ρ n cl) {f : Int} (hb : ¬ (0 ≤ f ∧ f < ρ 1)) : am_call am_B am_M (d + 9) 272 [(.inr (.inr (some 208))), (.inl f)] (G, I, P) = some (some (.inl (-1)), (G, am_u2 I 208 0 0, P)) := by
  have h1 := RW_n1 hM.2.1
  refine am_doL (L := [some (.inr (.inr (some 208))), some (.inl f), none, none, none]) (Nat.le_of_ble_eq_true rfl) rfl ?_
  refine (ex_6_0 (ex_0 (ix_42i (sh_208 hS) (ex_6_0 (ex_4_1 ?_)))))
  have hb7 : ¬ (((0 : Int) ≤ f ∧ (f : Int) < (ρ 1))) := by omega
  refine (ix_46 (S' := [(.inl 0)]) rfl (sh_208 hS) (c_isFolk_F hS ((u2_q (by decide)).trans (congrFun hM.1 _)) (by omega) hb7) rfl rfl (ex_if1 (fun hc => by exfalso; revert hc; decide) (fun _ => ?_)))
  refine (ex_0 ?_)
  exact ex_53 rfl
theorem m_fair {d : Nat} {G : am_G} {I : Nat → Nat → Int} {P : Nat → Nat → Option Nat} (hS : ST G P) {ρ : Nat → Int} {n : Nat} {cl : Nat → Cl} (hM : ME I ρ n cl) {N F : Nat} (hN : ρ 0 = (N : Int)) (hF : ρ 1 = (F : Int)) {f : Nat} (hf : f < F) : ∃ I1, am_call am_B am_M (d + 9) 272 [(.inr (.inr (some 208))), (.inl (f : Int))] (G, I, P) = some (some (.inl (fsh ρ n cl F N f)), (G, I1, P)) ∧ (ME I1 ρ n cl ∧ FFm I I1) := by
  have h06 := RW_n0 hM.2.1
  have h15 := RW_n1 hM.2.1
  have hM0 : ME (am_u2 I 208 0 0) ρ n cl := ⟨(u2_qf (by decide)).trans hM.1, hM.2.1, hM.2.2.1, (u2_k (by decide)).trans hM.2.2.2⟩
  have w : am_ex (am_call am_B am_M (d + 8)) (am_B 272) (am_B 272 0) [some (.inr (.inr (some 208))), some (.inl (f : Int)), none, none, none] [] (G, I, P) (fun o => ∃ I1, o = (some (.inl (fsh ρ n cl F N f)), (G, I1, P)) ∧ (ME I1 ρ n cl ∧ FFm I I1)) := by
    refine (ex_6_0 (ex_0 (ix_42i (sh_208 hS) (ex_6_0 (ex_4_1 ?_)))))
    have hb7 : ((0 : Int) ≤ (f : Int) ∧ ((f : Int) : Int) < (ρ 1)) := by omega
    refine (ix_46 (S' := [(.inl 1)]) rfl (sh_208 hS) (c_isFolk_T hS ((u2_q (by decide)).trans (congrFun hM.1 _)) (by omega) hb7) rfl rfl (ex_if1 (fun _ => ?_) (fun hc => by exfalso; revert hc; decide)))
    refine (ex_0 (ex_7_2 rfl (ex_58 ?_)))
    refine ex_forR (b := 3) (σ := Unit) (5) (fun x t => t) (fun x t J => ME J ρ n cl ∧ (∀ j, j < x → J 235 j = 0) ∧ FFm I J) (fun x t e_x => [some (.inr (.inr (some 208))), some (.inl (f : Int)), some (.inl (x : Int)), none, none]) ?_ (5) (0) (()) (fun k_ => ([some (.inr (.inr (some 208))), some (.inl (f : Int)), some (.inl 0), none, none] : am_L).getD k_ none) ((am_u2 I 208 0 0)) (by omega) (⟨hM0, fun j hj => absurd hj (by omega), FFm_th⟩) rfl ?_
    · intro x t e_x J hix hvx hkx
      obtain ⟨hEJ, hzx, hfx⟩ := hvx
      refine (ex_4_2 (ex_0 ?_))
      refine ex_ic3 (fun hc19 => by exfalso; omega) (fun hc19 => ?_)
      refine (ex_6_0 (ix_41r (sh_208 hS) (pt_208_47 hS) (ex_4_2 (ex_0 (ix_34 (j := x) (sh_235 hS) (by omega) (by omega) (by omega) (ex_10_2 ⟨by omega, by omega⟩ rfl (ex_28 ?_)))))))
      exact hkx (()) (fun k_ => ([some (.inr (.inr (some 208))), some (.inl (f : Int)), some (.inl ((x : Int) + 1)), none, none] : am_L).getD k_ none) _ (rfl) (⟨(ME_u235 hEJ), fun t ht => (by rw [u2_at]; by_cases e : t = x; (rw [if_pos e]); (rw [if_neg e]; exact hzx t (by omega))), FFm_trans hfx FFm_w⟩)
    · intro t e_x J hsx hvx
      obtain ⟨hEJ, hzx, hfx⟩ := hvx
      refine (ex_4_2 (ex_0 ?_))
      refine ex_ic3 (fun hc19 => ?_) (fun hc19 => by exfalso; omega)
      refine (ex_0 (ex_7_2 rfl (ex_58 ?_)))
      refine ex_forR (b := 6) (σ := Nat → Int) (N) (fun i s => fas ρ n cl F i s) (fun i s J => ME J ρ n cl ∧ (∀ j, j < 5 → J 235 j = s j) ∧ (∀ j, 0 ≤ s j ∧ s j ≤ 9 * (i : Int)) ∧ FFm I J) (fun i s e_i => [some (.inr (.inr (some 208))), some (.inl (f : Int)), some (.inl (i : Int)), (e_i 3), (e_i 4)]) ?_ (N) (0) ((fun _ => 0)) (fun k_ => ([some (.inr (.inr (some 208))), some (.inl (f : Int)), some (.inl 0), none, none] : am_L).getD k_ none) (J) (by omega) (⟨hEJ, hzx, fun j => ⟨Int.le_refl _, by show (0 : Int) ≤ _; omega⟩, hfx⟩) rfl ?_
      · intro i s e_i J hii hvi hki
        clear hEJ
        obtain ⟨hEJ, hsJ, hbi, hfi⟩ := hvi
        refine (ex_4_2 (ex_6_0 (ix_41r (sh_208 hS) (pt_208_3 hS) (ex_0 (ix_30 (j := 0) (v := (N : Int)) (sh_210 hS) (by decide) (by decide) rfl ((congrFun hEJ.1 _).trans hN) ?_)))))
        refine ex_ic3 (fun hc44 => by exfalso; omega) (fun hc44 => ?_)
        refine (ex_0 (ex_7_3 rfl (ex_0 (ex_7_4 rfl (ex_58 ?_)))))
        refine ex_forR (b := 8) (σ := Int) (F) (fun y u => ft1 ρ n cl s i y u) (fun y u J => ME J ρ n cl ∧ (∀ j, j < 5 → J 235 j = s j) ∧ (u = -1 ∨ (0 ≤ u ∧ u < (y : Int))) ∧ FFm I J) (fun y u e_y => [some (.inr (.inr (some 208))), some (.inl (f : Int)), some (.inl (i : Int)), some (.inl u), some (.inl (y : Int))]) ?_ (F) (0) ((-1)) (fun k_ => ([some (.inr (.inr (some 208))), some (.inl (f : Int)), some (.inl (i : Int)), some (.inl (-1)), some (.inl 0)] : am_L).getD k_ none) (J) (by omega) (⟨hEJ, hsJ, Or.inl rfl, hfi⟩) rfl ?_
        · intro y u e_y J hiy hvy hky
          clear hEJ hsJ
          obtain ⟨hEJ, hsJ, huy, hfy⟩ := hvy
          refine (ex_4_4 (ex_6_0 (ix_41r (sh_208 hS) (pt_208_3 hS) (ex_0 (ix_30 (j := 1) (v := (F : Int)) (sh_210 hS) (by decide) (by decide) rfl ((congrFun hEJ.1 _).trans hF) ?_)))))
          refine ex_ic3 (fun hc60 => by exfalso; omega) (fun hc60 => ?_)
          refine (ex_4_3 (ex_0 ?_))
          refine ex_ic0 (fun hc65 => ?_) (fun hc65 => ?_)
          · by_cases hcan : m_can ρ n cl i y
            · refine (ex_6_0 (ex_4_2 (ex_4_4 ?_)))
              obtain ⟨K, eK, fK⟩ := c_canRing_t (d := d) hS hEJ (c := i) (f := y) (by omega) (by omega) hcan
              refine (ix_46 (S' := [(.inl 1)]) rfl (sh_208 hS) eK rfl rfl (ex_if0 (fun hc => by exfalso; revert hc; decide) (fun _ => ?_)))
              refine (ex_4_4 (ex_7_3 rfl (ex_58 (ex_10_4 ⟨by omega, by omega⟩ rfl (ex_28 ?_)))))
              exact hky ((y : Int)) (fun k_ => ([some (.inr (.inr (some 208))), some (.inl (f : Int)), some (.inl (i : Int)), some (.inl (y : Int)), some (.inl ((y : Int) + 1))] : am_L).getD k_ none) _ ((by show ((y : Int) : Int) = ft1 ρ n cl s i y u; unfold ft1; exact (if_pos ⟨Or.inl hc65, hcan⟩).symm)) (⟨(ME_TF hEJ fK), fun j hj => ((fK : TF J K) _ _ (by decide) (by decide) (by omega)).trans (hsJ j hj), by omega, FFm_trans hfy (FFm_TF fK)⟩)
            · refine (ex_6_0 (ex_4_2 (ex_4_4 ?_)))
              obtain ⟨K, eK, fK⟩ := c_canRing_f (d := d) hS hEJ (c := i) (f := y) (by omega) (by omega) hcan
              refine (ix_46 (S' := [(.inl 0)]) rfl (sh_208 hS) eK rfl rfl (ex_if0 (fun _ => ?_) (fun hc => by exfalso; revert hc; decide)))
              refine (ex_10_4 ⟨by omega, by omega⟩ rfl (ex_28 ?_))
              exact hky (u) (fun k_ => ([some (.inr (.inr (some 208))), some (.inl (f : Int)), some (.inl (i : Int)), some (.inl u), some (.inl ((y : Int) + 1))] : am_L).getD k_ none) _ ((by show (u : Int) = ft1 ρ n cl s i y u; unfold ft1; exact (if_neg (fun z => hcan z.2)).symm)) (⟨(ME_TF hEJ fK), fun j hj => ((fK : TF J K) _ _ (by decide) (by decide) (by omega)).trans (hsJ j hj), by omega, FFm_trans hfy (FFm_TF fK)⟩)
          · obtain ⟨m, hm⟩ : ∃ m : Nat, u = (m : Int) := ⟨u.toNat, by omega⟩
            subst hm
            refine (ex_6_0 (ix_41r (sh_208 hS) (pt_208_47 hS) (ex_4_4 (ix_30 (j := y) (v := (s y)) (sh_235 hS) (by omega) (by omega) (by omega) (hsJ _ (by omega)) (ex_6_0 (ix_41r (sh_208 hS) (pt_208_47 hS) (ex_4_3 (ix_30 (j := m) (v := (s m)) (sh_235 hS) (by omega) (by omega) (by omega) (hsJ _ (by omega)) ?_))))))))
            refine ex_ic3 (fun hc81 => ?_) (fun hc81 => ?_)
            · refine (ex_10_4 ⟨by omega, by omega⟩ rfl (ex_28 ?_))
              exact hky ((m : Int)) (fun k_ => ([some (.inr (.inr (some 208))), some (.inl (f : Int)), some (.inl (i : Int)), some (.inl (m : Int)), some (.inl ((y : Int) + 1))] : am_L).getD k_ none) _ ((by show ((m : Int) : Int) = ft1 ρ n cl s i y (m : Int); unfold ft1; exact (if_neg (fun z => by rcases z.1 with z | z; omega; rw [Int.toNat_natCast] at z; omega)).symm)) (⟨(ME_TF hEJ TF_refl), fun j hj => ((TF_refl : TF J J) _ _ (by decide) (by decide) (by omega)).trans (hsJ j hj), by omega, FFm_trans hfy (FFm_TF TF_refl)⟩)
            · by_cases hcan : m_can ρ n cl i y
              · refine (ex_6_0 (ex_4_2 (ex_4_4 ?_)))
                obtain ⟨K, eK, fK⟩ := c_canRing_t (d := d) hS hEJ (c := i) (f := y) (by omega) (by omega) hcan
                refine (ix_46 (S' := [(.inl 1)]) rfl (sh_208 hS) eK rfl rfl (ex_if0 (fun hc => by exfalso; revert hc; decide) (fun _ => ?_)))
                refine (ex_4_4 (ex_7_3 rfl (ex_58 (ex_10_4 ⟨by omega, by omega⟩ rfl (ex_28 ?_)))))
                exact hky ((y : Int)) (fun k_ => ([some (.inr (.inr (some 208))), some (.inl (f : Int)), some (.inl (i : Int)), some (.inl (y : Int)), some (.inl ((y : Int) + 1))] : am_L).getD k_ none) _ ((by show ((y : Int) : Int) = ft1 ρ n cl s i y (m : Int); unfold ft1; exact (if_pos ⟨Or.inr (by rw [Int.toNat_natCast]; omega), hcan⟩).symm)) (⟨(ME_TF hEJ fK), fun j hj => ((fK : TF J K) _ _ (by decide) (by decide) (by omega)).trans (hsJ j hj), by omega, FFm_trans hfy (FFm_TF fK)⟩)
              · refine (ex_6_0 (ex_4_2 (ex_4_4 ?_)))
                obtain ⟨K, eK, fK⟩ := c_canRing_f (d := d) hS hEJ (c := i) (f := y) (by omega) (by omega) hcan
                refine (ix_46 (S' := [(.inl 0)]) rfl (sh_208 hS) eK rfl rfl (ex_if0 (fun _ => ?_) (fun hc => by exfalso; revert hc; decide)))
                refine (ex_10_4 ⟨by omega, by omega⟩ rfl (ex_28 ?_))
                exact hky ((m : Int)) (fun k_ => ([some (.inr (.inr (some 208))), some (.inl (f : Int)), some (.inl (i : Int)), some (.inl (m : Int)), some (.inl ((y : Int) + 1))] : am_L).getD k_ none) _ ((by show ((m : Int) : Int) = ft1 ρ n cl s i y (m : Int); unfold ft1; exact (if_neg (fun z => hcan z.2)).symm)) (⟨(ME_TF hEJ fK), fun j hj => ((fK : TF J K) _ _ (by decide) (by decide) (by omega)).trans (hsJ j hj), by omega, FFm_trans hfy (FFm_TF fK)⟩)
        · intro u e_y J hsy hvy
          clear hEJ hsJ
          obtain ⟨hEJ, hsJ, huy, hfy⟩ := hvy
          refine (ex_4_4 (ex_6_0 (ix_41r (sh_208 hS) (pt_208_3 hS) (ex_0 (ix_30 (j := 1) (v := (F : Int)) (sh_210 hS) (by decide) (by decide) rfl ((congrFun hEJ.1 _).trans hF) ?_)))))
          refine ex_ic3 (fun hc60 => ?_) (fun hc60 => by exfalso; omega)
          refine (ex_4_3 (ex_0 ?_))
          refine ex_ic0 (fun hc105 => ?_) (fun hc105 => ?_)
          · refine (ex_10_2 ⟨by omega, by omega⟩ rfl (ex_28 ?_))
            exact hki (s) (fun k_ => ([some (.inr (.inr (some 208))), some (.inl (f : Int)), some (.inl ((i : Int) + 1)), some (.inl u), some (.inl ((F) : Int))] : am_L).getD k_ none) _ ((by unfold fas; rw [← hsy, if_pos (by omega)])) (⟨hEJ, hsJ, (by have h := fas_b (ρ := ρ) (n := n) (cl := cl) (F := F) hbi; unfold fas at h; rw [← hsy, if_pos (by omega)] at h; exact h), hfy⟩)
          · obtain ⟨m, hm⟩ : ∃ m : Nat, u = (m : Int) := ⟨u.toNat, by omega⟩
            subst hm
            have htb := m_told_b (ρ := ρ) (n := n) (cl := cl) (c := i) (f := m)
            have hsm := hbi m
            refine (ex_6_0 (ix_41r (sh_208 hS) (pt_208_47 hS) (ex_4_3 (ex_23 rfl (ix_30 (j := m) (v := (s m)) (sh_235 hS) (by omega) (by omega) (by omega) (hsJ _ (by omega)) (ex_6_0 (ex_4_2 (ex_4_3 ?_))))))))
            obtain ⟨Q_, eQ, fQ⟩ := c_toldBy (d := d + 1) hS hEJ (c := i) (f := m) (by omega) (by omega)
            refine (ix_46 (S' := [(.inl (m_told ρ n cl i m)), (.inl (s m)), (.inl (m : Int)), (.inr (.inr (some 235)))]) rfl (sh_208 hS) eQ rfl rfl (ex_add ⟨by omega, by omega⟩ (ix_34 (j := m) (sh_235 hS) (by omega) (by omega) (by omega) (ex_58 (ex_10_2 ⟨by omega, by omega⟩ rfl (ex_28 ?_))))))
            exact hki ((am_u1 s m (s m + m_told ρ n cl i m))) (fun k_ => ([some (.inr (.inr (some 208))), some (.inl (f : Int)), some (.inl ((i : Int) + 1)), some (.inl (m : Int)), some (.inl ((F) : Int))] : am_L).getD k_ none) _ ((by unfold fas; rw [← hsy, if_neg (by omega), Int.toNat_natCast])) (⟨(ME_u235 (ME_TF hEJ fQ)), fun j hj => (by rw [u2_at]; unfold am_u1; by_cases e : j = m; (rw [if_pos e, if_pos e]); (rw [if_neg e, if_neg e, (fQ : TF J Q_) _ _ (by decide) (by decide) (by omega)]; exact hsJ j hj)), (by have h := fas_b (ρ := ρ) (n := n) (cl := cl) (F := F) hbi; unfold fas at h; rw [← hsy, if_neg (by omega), Int.toNat_natCast] at h; exact h), FFm_trans hfy (FFm_trans (FFm_TF fQ) FFm_w)⟩)
      · intro s e_i J hsi hvi
        clear hEJ
        obtain ⟨hEJ, hsJ, hbi, hfi⟩ := hvi
        refine (ex_4_2 (ex_6_0 (ix_41r (sh_208 hS) (pt_208_3 hS) (ex_0 (ix_30 (j := 0) (v := (N : Int)) (sh_210 hS) (by decide) (by decide) rfl ((congrFun hEJ.1 _).trans hN) ?_)))))
        refine ex_ic3 (fun hc44 => ?_) (fun hc44 => by exfalso; omega)
        refine (ex_6_0 (ix_41r (sh_208 hS) (pt_208_47 hS) (ex_4_1 (ix_30 (j := f) (v := (s f)) (sh_235 hS) (by omega) (by omega) (by omega) (hsJ _ (by omega)) ?_))))
        exact ex_53 ⟨_, by rw [hsi]; rfl, hEJ, hfi⟩
  obtain ⟨o, e, I1, rfl, h⟩ := am_doQ (as := [(.inr (.inr (some 208))), (.inl (f : Int))]) (Nat.le_of_ble_eq_true rfl) rfl w
  exact ⟨I1, e, h⟩
