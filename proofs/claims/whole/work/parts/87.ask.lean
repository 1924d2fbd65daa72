/-! ===== whom to ask ===== -/
noncomputable def aks (ρ : Nat → Int) (n : Nat) (cl : Nat → Cl) (left f c : Nat) (s : (Nat → Int) × Int) : (Nat → Int) × Int := if left.testBit c = true then (am_u1 s.1 (sdv ρ n cl c f).toNat (s.1 (sdv ρ n cl c f).toNat + 1), mxi s.2 (s.1 (sdv ρ n cl c f).toNat + 1)) else s
noncomputable def akm (ρ : Nat → Int) (n : Nat) (cl : Nat → Cl) (left N f : Nat) : Int := (am_it (fun c s => aks ρ n cl left f c s) N 0 ((fun _ => 0), 0)).2
def akI (i : Nat) (s : (Nat → Int) × Int) : Prop := (∀ j, 0 ≤ s.1 j ∧ s.1 j ≤ (i : Int)) ∧ 0 ≤ s.2 ∧ s.2 ≤ (i : Int)
theorem akI_s {ρ : Nat → Int} {n : Nat} {cl : Nat → Cl} {left f i : Nat} {s : (Nat → Int) × Int} (h : akI i s) : akI (i + 1) (aks ρ n cl left f i s) := by
  unfold aks
  split
  · refine ⟨fun j => ?_, ?_⟩
    · show 0 ≤ am_u1 s.1 _ _ j ∧ am_u1 s.1 _ _ j ≤ _
      unfold am_u1
      have h1 := h.1 j
      have h2 := h.1 (sdv ρ n cl i f).toNat
      split <;> omega
    · have h2 := h.1 (sdv ρ n cl i f).toNat
      have h3 := h.2
      show 0 ≤ mxi s.2 _ ∧ mxi s.2 _ ≤ _
      unfold mxi
      split <;> omega
  · exact ⟨fun j => by have := h.1 j; omega, by have := h.2; omega⟩
theorem akm_b {ρ : Nat → Int} {n : Nat} {cl : Nat → Cl} {left f N : Nat} : 0 ≤ akm ρ n cl left N f ∧ akm ρ n cl left N f ≤ (N : Int) :=
  (am_it_inv (f := fun c s => aks ρ n cl left f c s) (inv := fun i s => akI i s) (N := N) (fun i s _ h => akI_s h) N 0 ((fun _ => 0), 0) (by omega) ⟨fun j => ⟨Int.le_refl _, Int.le_refl _⟩, Int.le_refl _, Int.le_refl _⟩).2
theorem k_alike {d : Nat} {G : am_G} {I : Nat → Nat → Int} {P : Nat → Nat → Option Nat} (hS : ST G P) {c : Nat} (hCc : CQ c) {ρ : Nat → Int} {n : Nat} {cl : Nat → Cl} (hE : CE G I P c ρ n cl) {N : Nat} (hN : ρ 0 = (N : Int)) (hBN : BarN n cl) {left f : Nat} (hl64 : left < 64) (hf1 : (f : Int) < ρ 1) : ∃ I1, am_call am_B am_M (d + 6) 8 [(.inr (.inr (some 116))), (.inr (.inr (some c))), (.inl (left : Int)), (.inl (f : Int))] (G, I, P) = some (some (.inl (akm ρ n cl left N f)), (G, I1, P)) ∧ (CE G I1 P c ρ n cl ∧ AF I I1) := by
  have h06 := RW_n0 hE.2.1
  have h15 := RW_n1 hE.2.1
  have hqc : c = 65 ∨ c = 93 ∨ c = 122 ∨ c = 139 ∨ c = 174 ∨ c = 191 := hCc
  have w : am_ex (am_call am_B am_M (d + 5)) (am_B 8) (am_B 8 0) [some (.inr (.inr (some 116))), some (.inr (.inr (some c))), some (.inl (left : Int)), some (.inl (f : Int)), none, none, none] [] (G, I, P) (fun o => ∃ I1, o = (some (.inl (akm ρ n cl left N f)), (G, I1, P)) ∧ (CE G I1 P c ρ n cl ∧ AF I I1)) := by
    refine (ex_0 (ex_7_4 rfl (ex_58 ?_)))
    refine ex_forR (b := 1) (σ := Unit) (11) (fun x s => s) (fun x s J => CE G J P c ρ n cl ∧ (∀ j, j < x → J 119 j = 0) ∧ AF I J) (fun x s e_x => [some (.inr (.inr (some 116))), some (.inr (.inr (some c))), some (.inl (left : Int)), some (.inl (f : Int)), some (.inl (x : Int)), none, none]) ?_ (11) (0) (()) (fun k_ => ([some (.inr (.inr (some 116))), some (.inr (.inr (some c))), some (.inl (left : Int)), some (.inl (f : Int)), some (.inl 0), none, none] : am_L).getD k_ none) (I) (by omega) (⟨hE, fun j hj => absurd hj (by omega), AF_refl⟩) rfl ?_
    · intro x s e_x J hix hvx hkx
      obtain ⟨hEx, hzx, hfx⟩ := hvx
      refine (ex_4_4 (ex_0 ?_))
      refine ex_ic4 (fun hc7 => by exfalso; omega) (fun hc7 => ?_)
      refine (ex_6_0 (ix_41r (sh_116 hS) (pt_116_3 hS) (ex_4_4 (ex_0 (ix_34 (j := x) (sh_119 hS) (by omega) (by omega) (by omega) (ex_10_4 ⟨by omega, by omega⟩ rfl (ex_28 ?_)))))))
      exact hkx (()) (fun k_ => ([some (.inr (.inr (some 116))), some (.inr (.inr (some c))), some (.inl (left : Int)), some (.inl (f : Int)), some (.inl ((x : Int) + 1)), none, none] : am_L).getD k_ none) _ (rfl) (⟨CE_AF hCc hEx (fun q k a b e => u2_q (by omega)), fun t ht => (by rw [u2_at]; by_cases e : t = x; (rw [if_pos e]); (rw [if_neg e]; exact hzx t (by omega))), AF_trans hfx (fun q k a b e => u2_q (by omega))⟩)
    · intro s e_x J hsx hvx
      obtain ⟨hEx, hzx, hfx⟩ := hvx
      refine (ex_4_4 (ex_0 ?_))
      refine ex_ic4 (fun hc7 => ?_) (fun hc7 => by exfalso; omega)
      refine (ex_0 (ex_7_4 rfl (ex_0 (ex_7_5 rfl (ex_58 ?_)))))
      refine ex_forR (b := 4) (σ := (Nat → Int) × Int) (N) (fun i s => aks ρ n cl left f i s) (fun i s J => CE G J P c ρ n cl ∧ (∀ j, j < 11 → J 119 j = s.1 j) ∧ akI i s ∧ AF I J) (fun i s e_i => [some (.inr (.inr (some 116))), some (.inr (.inr (some c))), some (.inl (left : Int)), some (.inl (f : Int)), some (.inl s.2), some (.inl (i : Int)), (e_i 6)]) ?_ (N) (0) (((fun _ => 0), 0)) (fun k_ => ([some (.inr (.inr (some 116))), some (.inr (.inr (some c))), some (.inl (left : Int)), some (.inl (f : Int)), some (.inl 0), some (.inl 0), none] : am_L).getD k_ none) (J) (by omega) (⟨hEx, hzx, ⟨fun j => ⟨Int.le_refl _, Int.le_refl _⟩, Int.le_refl _, Int.le_refl _⟩, hfx⟩) rfl ?_
      · intro i s e_i J hii hvi hki
        obtain ⟨hEi, hai, hki_, hfi⟩ := hvi
        have hsb := sdv_b (ρ := ρ) (n := n) (cl := cl) (c := i) (f := f)
        have hk1 := hki_.1 (sdv ρ n cl i f).toNat
        have hk2 := hki_.2
        refine (ex_4_5 (ex_6_1 (ix_41i (v := (N : Int)) (cs_0 hS hCc) ((CC_n0 hEi.1).trans hN) ?_)))
        refine ex_ic3 (fun hc36 => by exfalso; omega) (fun hc36 => ?_)
        refine (ex_4_2 (ex_4_5 (ex_11e (am_shr (a := left) (k := i) (by omega) (Nat.lt_trans hl64 (by decide))) (ex_0 (ex_11e (am_and (a := (left >>> i)) (b := 1) (Nat.lt_of_le_of_lt (Nat.shiftRight_le _ _) (Nat.lt_trans hl64 (by decide))) (by decide)) ?_)))))
        refine ex_if0 (fun hc45 => ?_) (fun hc45 => ?_)
        · refine (ex_10_5 ⟨by omega, by omega⟩ rfl (ex_28 ?_))
          exact hki (s) (fun k_ => ([some (.inr (.inr (some 116))), some (.inr (.inr (some c))), some (.inl (left : Int)), some (.inl (f : Int)), some (.inl s.2), some (.inl ((i : Int) + 1)), (e_i 6)] : am_L).getD k_ none) _ ((by unfold aks; rw [if_neg (fun z => by rw [tb_1 z] at hc45; exact absurd hc45 (by decide))])) (⟨hEi, hai, (by have h := akI_s (ρ := ρ) (n := n) (cl := cl) (left := left) (f := f) hki_; unfold aks at h; rw [if_neg (fun z => by rw [tb_1 z] at hc45; exact absurd hc45 (by decide))] at h; exact h), hfi⟩)
        · refine (ex_6_0 (ex_6_1 (ex_4_5 (ex_4_3 ?_))))
          obtain ⟨Q_, eQ, fQ⟩ := k_said (d := d) hS hCc hEi (c1 := i) (f := f) (by omega) hf1 hBN
          rw [← Int.toNat_of_nonneg (sdv_b (ρ := ρ) (n := n) (cl := cl) (c := i) (f := f)).1] at eQ
          refine (ix_46 (S' := [(.inl ((sdv ρ n cl i f).toNat : Int))]) rfl (sh_116 hS) eQ rfl rfl (ex_7_6 rfl (ex_6_0 (ix_41r (sh_116 hS) (pt_116_3 hS) (ex_4_6 (ex_23 rfl (ix_30 (j := (sdv ρ n cl i f).toNat) (v := (s.1 (sdv ρ n cl i f).toNat)) (sh_119 hS) (by omega) (by omega) (by omega) (((fQ _ _ (by decide) (by decide))).trans (hai _ (by omega))) (ex_0 (ex_add ⟨by omega, by omega⟩ (ix_34 (j := (sdv ρ n cl i f).toNat) (sh_119 hS) (by omega) (by omega) (by omega) (ex_4_4 (ex_6_0 (ix_41r (sh_116 hS) (pt_116_3 hS) (ex_4_6 (ix_30 (j := (sdv ρ n cl i f).toNat) (v := ((s.1 (sdv ρ n cl i f).toNat) + 1)) (sh_119 hS) (by omega) (by omega) (by omega) u2_e (ex_max (v := (mxi s.2 (s.1 (sdv ρ n cl i f).toNat + 1))) rfl rfl (ex_7_4 rfl (ex_58 (ex_10_5 ⟨by omega, by omega⟩ rfl (ex_28 ?_))))))))))))))))))))
          exact hki ((am_u1 s.1 (sdv ρ n cl i f).toNat (s.1 (sdv ρ n cl i f).toNat + 1), mxi s.2 (s.1 (sdv ρ n cl i f).toNat + 1))) (fun k_ => ([some (.inr (.inr (some 116))), some (.inr (.inr (some c))), some (.inl (left : Int)), some (.inl (f : Int)), some (.inl (mxi s.2 (s.1 (sdv ρ n cl i f).toNat + 1))), some (.inl ((i : Int) + 1)), some (.inl ((sdv ρ n cl i f).toNat : Int))] : am_L).getD k_ none) _ ((by unfold aks; rw [if_pos (Classical.byContradiction fun z => hc45 (tb_0 z))])) (⟨CE_AF hCc hEi (fun q k a b e => (u2_q (by omega)).trans (fQ q k a b)), fun j hj => (by rw [u2_at]; show _ = am_u1 s.1 _ _ j; unfold am_u1; by_cases e : j = (sdv ρ n cl i f).toNat; (rw [if_pos e, if_pos e]); (rw [if_neg e, if_neg e, fQ _ _ (by decide) (by decide)]; exact hai j hj)), (by have h := akI_s (ρ := ρ) (n := n) (cl := cl) (left := left) (f := f) hki_; unfold aks at h; rw [if_pos (Classical.byContradiction fun z => hc45 (tb_0 z))] at h; exact h), AF_trans hfi (fun q k a b e => (u2_q (by omega)).trans (fQ q k a b))⟩)
      · intro s e_i J hsi hvi
        obtain ⟨hEi, hai, hki_, hfi⟩ := hvi
        refine (ex_4_5 (ex_6_1 (ix_41i (v := (N : Int)) (cs_0 hS hCc) ((CC_n0 hEi.1).trans hN) ?_)))
        refine ex_ic3 (fun hc36 => ?_) (fun hc36 => by exfalso; omega)
        refine (ex_4_4 ?_)
        exact ex_53 ⟨_, by rw [hsi]; rfl, hEi, hfi⟩
  obtain ⟨o, e, I1, rfl, h⟩ := am_doQ (as := [(.inr (.inr (some 116))), (.inr (.inr (some c))), (.inl (left : Int)), (.inl (f : Int))]) (Nat.le_of_ble_eq_true rfl) rfl w
  exact ⟨I1, e, h⟩
/-- whom to ask (-1: nobody yet), and the fewest that are left (100000000: nobody yet) -/
noncomputable def tst (ρ : Nat → Int) (n : Nat) (cl : Nat → Cl) (left N f : Nat) (s : Int × Int) : Int × Int := if akm ρ n cl left N f < s.2 then ((f : Int), akm ρ n cl left N f) else s
noncomputable def tsk (ρ : Nat → Int) (n : Nat) (cl : Nat → Cl) (left N F : Nat) : Int × Int := am_it (fun f s => tst ρ n cl left N f s) F 0 (-1, 100000000)
def fwv (s : Int × Int) : Int := if s.1 = -1 then -1 else s.2
def tsI (f : Nat) (s : Int × Int) : Prop := (s.1 = -1 ∧ s.2 = 100000000) ∨ (0 ≤ s.1 ∧ s.1 < (f : Int) ∧ 0 ≤ s.2 ∧ s.2 ≤ 6)
theorem tsI_s {ρ : Nat → Int} {n : Nat} {cl : Nat → Cl} {left f N : Nat} {s : Int × Int} (hN : N ≤ 6) (h : tsI f s) : tsI (f + 1) (tst ρ n cl left N f s) := by
  have := akm_b (ρ := ρ) (n := n) (cl := cl) (left := left) (f := f) (N := N)
  unfold tst
  split
  · exact Or.inr ⟨by show (0 : Int) ≤ (f : Int); omega, by show (f : Int) < _; omega, this.1, by show akm ρ n cl left N f ≤ 6; omega⟩
  · rcases h with h | h
    · exact Or.inl h
    · exact Or.inr ⟨h.1, by omega, h.2.2⟩
theorem k_ask_0 {d : Nat} {G : am_G} {I : Nat → Nat → Int} {P : Nat → Nat → Option Nat} (hS : ST G P) {c : Nat} (hCc : CQ c) {ρ : Nat → Int} {n : Nat} {cl : Nat → Cl} (hE : CE G I P c ρ n cl) {N H F : Nat} (hN : ρ 0 = (N : Int)) (hH : ρ 2 = (H : Int)) (hF : ρ 1 = (F : Int)) (hBN : BarN n cl) (hne : ¬ (cbt ρ n cl H N) = 0) : ∃ I1, am_call am_B am_M (d + 7) 7 [(.inr (.inr (some 116))), (.inr (.inr (some c))), (.inl 0)] (G, I, P) = some (some (.inl (tsk ρ n cl (cbt ρ n cl H N) N F).1), (G, I1, P)) ∧ (CE G I1 P c ρ n cl ∧ AF I I1) := by
  have h06 := RW_n0 hE.2.1
  have h15 := RW_n1 hE.2.1
  have h26 := RW_n2 hE.2.1
  have hqc : c = 65 ∨ c = 93 ∨ c = 122 ∨ c = 139 ∨ c = 174 ∨ c = 191 := hCc
  have hN6 : N ≤ 6 := by omega
  have hcbt := cbt_lt (ρ := ρ) (n := n) (cl := cl) (H := H) hN6
  have w : am_ex (am_call am_B am_M (d + 6)) (am_B 7) (am_B 7 0) [some (.inr (.inr (some 116))), some (.inr (.inr (some c))), some (.inl 0), none, none, none, none, none] [] (G, I, P) (fun o => ∃ I1, o = (some (.inl (tsk ρ n cl (cbt ρ n cl H N) N F).1), (G, I1, P)) ∧ (CE G I1 P c ρ n cl ∧ AF I I1)) := by
    refine (ex_6_0 (ex_6_1 ?_))
    obtain ⟨JC, eC, hEC, hfC⟩ := k_cand (d := d) hS hCc hE hN hH hBN
    refine (ix_46 (S' := [(.inl ((cbt ρ n cl H N : Nat) : Int))]) rfl (sh_116 hS) eC rfl rfl (ex_7_3 rfl (ex_0 (ex_7_4 rfl (ex_0 (ex_7_5 rfl (ex_0 (ex_7_6 rfl (ex_58 ?_)))))))))
    refine ex_forR (b := 1) (σ := Int × Int) (F) (fun i s => tst ρ n cl (cbt ρ n cl H N) N i s) (fun i s J => CE G J P c ρ n cl ∧ AF I J ∧ tsI i s) (fun i s e_i => [some (.inr (.inr (some 116))), some (.inr (.inr (some c))), some (.inl 0), some (.inl ((cbt ρ n cl H N : Nat) : Int)), some (.inl s.1), some (.inl (fwv s)), some (.inl (i : Int)), (e_i 7)]) ?_ (F) (0) ((-1, 100000000)) (fun k_ => ([some (.inr (.inr (some 116))), some (.inr (.inr (some c))), some (.inl 0), some (.inl ((cbt ρ n cl H N : Nat) : Int)), some (.inl (-1)), some (.inl (-1)), some (.inl 0), none] : am_L).getD k_ none) (JC) (by omega) (⟨hEC, AF_LF hfC, Or.inl ⟨rfl, rfl⟩⟩) rfl ?_
    · intro i s e_i J hii hvi hki
      obtain ⟨hEi, hfi, hti⟩ := hvi
      have hakb := akm_b (ρ := ρ) (n := n) (cl := cl) (left := (cbt ρ n cl H N)) (f := i) (N := N)
      have hfw : fwv s = if s.1 = -1 then -1 else s.2 := rfl
      refine (ex_4_6 (ex_6_1 (ix_41i (v := (F : Int)) (cs_0 hS hCc) ((CC_n1 hEi.1).trans hF) ?_)))
      refine ex_ic3 (fun hc21 => by exfalso; omega) (fun hc21 => ?_)
      refine (ex_4_3 ?_)
      refine ex_if0 (fun hc25 => by exfalso; omega) (fun hc25 => ?_)
      refine (ex_6_0 (ex_6_1 (ex_4_3 (ex_4_6 ?_))))
      obtain ⟨Q_, eQ, hEQ, fQ⟩ := k_alike (d := d) hS hCc hEi hN hBN (left := (cbt ρ n cl H N)) (f := i) hcbt (by omega)
      refine (ix_46 (S' := [(.inl (akm ρ n cl (cbt ρ n cl H N) N i))]) rfl (sh_116 hS) eQ rfl rfl (ex_7_7 rfl (ex_4_4 (ex_0 ?_))))
      refine ex_ic0 (fun hc41 => ?_) (fun hc41 => ?_)
      · refine (ex_4_6 (ex_7_4 rfl (ex_4_7 (ex_7_5 rfl (ex_58 (ex_10_6 ⟨by omega, by omega⟩ rfl (ex_28 ?_)))))))
        rw [show (akm ρ n cl (cbt ρ n cl H N) N i) = fwv (((i : Nat) : Int), (akm ρ n cl (cbt ρ n cl H N) N i)) by unfold fwv; rw [if_neg (show ¬ ((i : Nat) : Int) = -1 by omega)]]
        exact hki (((i : Int), (akm ρ n cl (cbt ρ n cl H N) N i))) (fun k_ => ([some (.inr (.inr (some 116))), some (.inr (.inr (some c))), some (.inl 0), some (.inl ((cbt ρ n cl H N : Nat) : Int)), some (.inl (i : Int)), some (.inl (fwv (((i : Nat) : Int), (akm ρ n cl (cbt ρ n cl H N) N i)))), some (.inl ((i : Int) + 1)), some (.inl (fwv (((i : Nat) : Int), (akm ρ n cl (cbt ρ n cl H N) N i))))] : am_L).getD k_ none) _ ((by show ((i : Int), (akm ρ n cl (cbt ρ n cl H N) N i)) = tst ρ n cl (cbt ρ n cl H N) N i s; unfold tst; rw [if_pos (by rcases hti with h | h <;> omega)])) (⟨hEQ, AF_trans hfi fQ, (by have h := tsI_s (ρ := ρ) (n := n) (cl := cl) (left := (cbt ρ n cl H N)) hN6 hti; rw [show tst ρ n cl (cbt ρ n cl H N) N i s = ((i : Int), (akm ρ n cl (cbt ρ n cl H N) N i)) from Eq.symm (by show ((i : Int), (akm ρ n cl (cbt ρ n cl H N) N i)) = tst ρ n cl (cbt ρ n cl H N) N i s; unfold tst; rw [if_pos (by rcases hti with h | h <;> omega)])] at h; exact h)⟩)
      · refine (ex_4_7 (ex_4_5 ?_))
        refine ex_ic3 (fun hc48 => ?_) (fun hc48 => ?_)
        · refine (ex_10_6 ⟨by omega, by omega⟩ rfl (ex_28 ?_))
          exact hki (s) (fun k_ => ([some (.inr (.inr (some 116))), some (.inr (.inr (some c))), some (.inl 0), some (.inl ((cbt ρ n cl H N : Nat) : Int)), some (.inl s.1), some (.inl (fwv s)), some (.inl ((i : Int) + 1)), some (.inl (akm ρ n cl (cbt ρ n cl H N) N i))] : am_L).getD k_ none) _ ((by show s = tst ρ n cl (cbt ρ n cl H N) N i s; unfold tst; rw [if_neg (by rcases hti with h | h <;> omega)])) (⟨hEQ, AF_trans hfi fQ, (by have h := tsI_s (ρ := ρ) (n := n) (cl := cl) (left := (cbt ρ n cl H N)) hN6 hti; rw [show tst ρ n cl (cbt ρ n cl H N) N i s = s from Eq.symm (by show s = tst ρ n cl (cbt ρ n cl H N) N i s; unfold tst; rw [if_neg (by rcases hti with h | h <;> omega)])] at h; exact h)⟩)
        · refine (ex_4_6 (ex_7_4 rfl (ex_4_7 (ex_7_5 rfl (ex_58 (ex_10_6 ⟨by omega, by omega⟩ rfl (ex_28 ?_)))))))
          rw [show (akm ρ n cl (cbt ρ n cl H N) N i) = fwv (((i : Nat) : Int), (akm ρ n cl (cbt ρ n cl H N) N i)) by unfold fwv; rw [if_neg (show ¬ ((i : Nat) : Int) = -1 by omega)]]
          exact hki (((i : Int), (akm ρ n cl (cbt ρ n cl H N) N i))) (fun k_ => ([some (.inr (.inr (some 116))), some (.inr (.inr (some c))), some (.inl 0), some (.inl ((cbt ρ n cl H N : Nat) : Int)), some (.inl (i : Int)), some (.inl (fwv (((i : Nat) : Int), (akm ρ n cl (cbt ρ n cl H N) N i)))), some (.inl ((i : Int) + 1)), some (.inl (fwv (((i : Nat) : Int), (akm ρ n cl (cbt ρ n cl H N) N i))))] : am_L).getD k_ none) _ ((by show ((i : Int), (akm ρ n cl (cbt ρ n cl H N) N i)) = tst ρ n cl (cbt ρ n cl H N) N i s; unfold tst; rw [if_pos (by rcases hti with h | h <;> omega)])) (⟨hEQ, AF_trans hfi fQ, (by have h := tsI_s (ρ := ρ) (n := n) (cl := cl) (left := (cbt ρ n cl H N)) hN6 hti; rw [show tst ρ n cl (cbt ρ n cl H N) N i s = ((i : Int), (akm ρ n cl (cbt ρ n cl H N) N i)) from Eq.symm (by show ((i : Int), (akm ρ n cl (cbt ρ n cl H N) N i)) = tst ρ n cl (cbt ρ n cl H N) N i s; unfold tst; rw [if_pos (by rcases hti with h | h <;> omega)])] at h; exact h)⟩)
    · intro s e_i J hsi hvi
      obtain ⟨hEi, hfi, hti⟩ := hvi
      refine (ex_4_6 (ex_6_1 (ix_41i (v := (F : Int)) (cs_0 hS hCc) ((CC_n1 hEi.1).trans hF) ?_)))
      refine ex_ic3 (fun hc21 => ?_) (fun hc21 => by exfalso; omega)
      refine (ex_4_2 (ex_if0 (fun _ => ?_) (fun hc => by exfalso; revert hc; decide)))
      refine (ex_4_4 (ex_58 ?_))
      exact ex_53 ⟨_, by rw [hsi]; rfl, hEi, hfi⟩
  obtain ⟨o, e, I1, rfl, h⟩ := am_doQ (as := [(.inr (.inr (some 116))), (.inr (.inr (some c))), (.inl 0)]) (Nat.le_of_ble_eq_true rfl) rfl w
  exact ⟨I1, e, h⟩
theorem k_ask_0z {d : Nat} {G : am_G} {I : Nat → Nat → Int} {P : Nat → Nat → Option Nat} (hS : ST G P) {c : Nat} (hCc : CQ c) {ρ : Nat → Int} {n : Nat} {cl : Nat → Cl} (hE : CE G I P c ρ n cl) {N H F : Nat} (hN : ρ 0 = (N : Int)) (hH : ρ 2 = (H : Int)) (hF : ρ 1 = (F : Int)) (hBN : BarN n cl) (hne : (cbt ρ n cl H N) = 0) : ∃ I1, am_call am_B am_M (d + 7) 7 [(.inr (.inr (some 116))), (.inr (.inr (some c))), (.inl 0)] (G, I, P) = some (some (.inl (-1)), (G, I1, P)) ∧ (CE G I1 P c ρ n cl ∧ AF I I1) := by
  have h06 := RW_n0 hE.2.1
  have h15 := RW_n1 hE.2.1
  have h26 := RW_n2 hE.2.1
  have hqc : c = 65 ∨ c = 93 ∨ c = 122 ∨ c = 139 ∨ c = 174 ∨ c = 191 := hCc
  have hN6 : N ≤ 6 := by omega
  have hcbt := cbt_lt (ρ := ρ) (n := n) (cl := cl) (H := H) hN6
  have w : am_ex (am_call am_B am_M (d + 6)) (am_B 7) (am_B 7 0) [some (.inr (.inr (some 116))), some (.inr (.inr (some c))), some (.inl 0), none, none, none, none, none] [] (G, I, P) (fun o => ∃ I1, o = (some (.inl (-1)), (G, I1, P)) ∧ (CE G I1 P c ρ n cl ∧ AF I I1)) := by
    refine (ex_6_0 (ex_6_1 ?_))
    obtain ⟨JC, eC, hEC, hfC⟩ := k_cand (d := d) hS hCc hE hN hH hBN
    refine (ix_46 (S' := [(.inl ((cbt ρ n cl H N : Nat) : Int))]) rfl (sh_116 hS) eC rfl rfl (ex_7_3 rfl (ex_0 (ex_7_4 rfl (ex_0 (ex_7_5 rfl (ex_0 (ex_7_6 rfl (ex_58 (ex_4_6 (ex_6_1 (ix_41i (v := (F : Int)) (cs_0 hS hCc) ((CC_n1 hEC.1).trans hF) ?_))))))))))))
    refine ex_ic3 (fun hc21 => ?_) (fun hc21 => ?_)
    · refine (ex_4_2 (ex_if0 (fun _ => ?_) (fun hc => by exfalso; revert hc; decide)))
      refine (ex_4_4 (ex_58 ?_))
      exact ex_53 ⟨_, rfl, hEC, AF_LF hfC⟩
    · refine (ex_4_3 ?_)
      refine ex_if0 (fun hc25 => ?_) (fun hc25 => by exfalso; omega)
      refine (ex_4_2 (ex_if0 (fun _ => ?_) (fun hc => by exfalso; revert hc; decide)))
      refine (ex_4_4 (ex_58 ?_))
      exact ex_53 ⟨_, rfl, hEC, AF_LF hfC⟩
  obtain ⟨o, e, I1, rfl, h⟩ := am_doQ (as := [(.inr (.inr (some 116))), (.inr (.inr (some c))), (.inl 0)]) (Nat.le_of_ble_eq_true rfl) rfl w
  exact ⟨I1, e, h⟩
theorem k_ask_1 {d : Nat} {G : am_G} {I : Nat → Nat → Int} {P : Nat → Nat → Option Nat} (hS : ST G P) {c : Nat} (hCc : CQ c) {ρ : Nat → Int} {n : Nat} {cl : Nat → Cl} (hE : CE G I P c ρ n cl) {N H F : Nat} (hN : ρ 0 = (N : Int)) (hH : ρ 2 = (H : Int)) (hF : ρ 1 = (F : Int)) (hBN : BarN n cl) (hne : ¬ (cbt ρ n cl H N) = 0) : ∃ I1, am_call am_B am_M (d + 7) 7 [(.inr (.inr (some 116))), (.inr (.inr (some c))), (.inl 1)] (G, I, P) = some (some (.inl (fwv (tsk ρ n cl (cbt ρ n cl H N) N F))), (G, I1, P)) ∧ (CE G I1 P c ρ n cl ∧ AF I I1) := by
  have h06 := RW_n0 hE.2.1
  have h15 := RW_n1 hE.2.1
  have h26 := RW_n2 hE.2.1
  have hqc : c = 65 ∨ c = 93 ∨ c = 122 ∨ c = 139 ∨ c = 174 ∨ c = 191 := hCc
  have hN6 : N ≤ 6 := by omega
  have hcbt := cbt_lt (ρ := ρ) (n := n) (cl := cl) (H := H) hN6
  have w : am_ex (am_call am_B am_M (d + 6)) (am_B 7) (am_B 7 0) [some (.inr (.inr (some 116))), some (.inr (.inr (some c))), some (.inl 1), none, none, none, none, none] [] (G, I, P) (fun o => ∃ I1, o = (some (.inl (fwv (tsk ρ n cl (cbt ρ n cl H N) N F))), (G, I1, P)) ∧ (CE G I1 P c ρ n cl ∧ AF I I1)) := by
    refine (ex_6_0 (ex_6_1 ?_))
    obtain ⟨JC, eC, hEC, hfC⟩ := k_cand (d := d) hS hCc hE hN hH hBN
    refine (ix_46 (S' := [(.inl ((cbt ρ n cl H N : Nat) : Int))]) rfl (sh_116 hS) eC rfl rfl (ex_7_3 rfl (ex_0 (ex_7_4 rfl (ex_0 (ex_7_5 rfl (ex_0 (ex_7_6 rfl (ex_58 ?_)))))))))
    refine ex_forR (b := 1) (σ := Int × Int) (F) (fun i s => tst ρ n cl (cbt ρ n cl H N) N i s) (fun i s J => CE G J P c ρ n cl ∧ AF I J ∧ tsI i s) (fun i s e_i => [some (.inr (.inr (some 116))), some (.inr (.inr (some c))), some (.inl 1), some (.inl ((cbt ρ n cl H N : Nat) : Int)), some (.inl s.1), some (.inl (fwv s)), some (.inl (i : Int)), (e_i 7)]) ?_ (F) (0) ((-1, 100000000)) (fun k_ => ([some (.inr (.inr (some 116))), some (.inr (.inr (some c))), some (.inl 1), some (.inl ((cbt ρ n cl H N : Nat) : Int)), some (.inl (-1)), some (.inl (-1)), some (.inl 0), none] : am_L).getD k_ none) (JC) (by omega) (⟨hEC, AF_LF hfC, Or.inl ⟨rfl, rfl⟩⟩) rfl ?_
    · intro i s e_i J hii hvi hki
      obtain ⟨hEi, hfi, hti⟩ := hvi
      have hakb := akm_b (ρ := ρ) (n := n) (cl := cl) (left := (cbt ρ n cl H N)) (f := i) (N := N)
      have hfw : fwv s = if s.1 = -1 then -1 else s.2 := rfl
      refine (ex_4_6 (ex_6_1 (ix_41i (v := (F : Int)) (cs_0 hS hCc) ((CC_n1 hEi.1).trans hF) ?_)))
      refine ex_ic3 (fun hc21 => by exfalso; omega) (fun hc21 => ?_)
      refine (ex_4_3 ?_)
      refine ex_if0 (fun hc25 => by exfalso; omega) (fun hc25 => ?_)
      refine (ex_6_0 (ex_6_1 (ex_4_3 (ex_4_6 ?_))))
      obtain ⟨Q_, eQ, hEQ, fQ⟩ := k_alike (d := d) hS hCc hEi hN hBN (left := (cbt ρ n cl H N)) (f := i) hcbt (by omega)
      refine (ix_46 (S' := [(.inl (akm ρ n cl (cbt ρ n cl H N) N i))]) rfl (sh_116 hS) eQ rfl rfl (ex_7_7 rfl (ex_4_4 (ex_0 ?_))))
      refine ex_ic0 (fun hc41 => ?_) (fun hc41 => ?_)
      · refine (ex_4_6 (ex_7_4 rfl (ex_4_7 (ex_7_5 rfl (ex_58 (ex_10_6 ⟨by omega, by omega⟩ rfl (ex_28 ?_)))))))
        rw [show (akm ρ n cl (cbt ρ n cl H N) N i) = fwv (((i : Nat) : Int), (akm ρ n cl (cbt ρ n cl H N) N i)) by unfold fwv; rw [if_neg (show ¬ ((i : Nat) : Int) = -1 by omega)]]
        exact hki (((i : Int), (akm ρ n cl (cbt ρ n cl H N) N i))) (fun k_ => ([some (.inr (.inr (some 116))), some (.inr (.inr (some c))), some (.inl 1), some (.inl ((cbt ρ n cl H N : Nat) : Int)), some (.inl (i : Int)), some (.inl (fwv (((i : Nat) : Int), (akm ρ n cl (cbt ρ n cl H N) N i)))), some (.inl ((i : Int) + 1)), some (.inl (fwv (((i : Nat) : Int), (akm ρ n cl (cbt ρ n cl H N) N i))))] : am_L).getD k_ none) _ ((by show ((i : Int), (akm ρ n cl (cbt ρ n cl H N) N i)) = tst ρ n cl (cbt ρ n cl H N) N i s; unfold tst; rw [if_pos (by rcases hti with h | h <;> omega)])) (⟨hEQ, AF_trans hfi fQ, (by have h := tsI_s (ρ := ρ) (n := n) (cl := cl) (left := (cbt ρ n cl H N)) hN6 hti; rw [show tst ρ n cl (cbt ρ n cl H N) N i s = ((i : Int), (akm ρ n cl (cbt ρ n cl H N) N i)) from Eq.symm (by show ((i : Int), (akm ρ n cl (cbt ρ n cl H N) N i)) = tst ρ n cl (cbt ρ n cl H N) N i s; unfold tst; rw [if_pos (by rcases hti with h | h <;> omega)])] at h; exact h)⟩)
      · refine (ex_4_7 (ex_4_5 ?_))
        refine ex_ic3 (fun hc48 => ?_) (fun hc48 => ?_)
        · refine (ex_10_6 ⟨by omega, by omega⟩ rfl (ex_28 ?_))
          exact hki (s) (fun k_ => ([some (.inr (.inr (some 116))), some (.inr (.inr (some c))), some (.inl 1), some (.inl ((cbt ρ n cl H N : Nat) : Int)), some (.inl s.1), some (.inl (fwv s)), some (.inl ((i : Int) + 1)), some (.inl (akm ρ n cl (cbt ρ n cl H N) N i))] : am_L).getD k_ none) _ ((by show s = tst ρ n cl (cbt ρ n cl H N) N i s; unfold tst; rw [if_neg (by rcases hti with h | h <;> omega)])) (⟨hEQ, AF_trans hfi fQ, (by have h := tsI_s (ρ := ρ) (n := n) (cl := cl) (left := (cbt ρ n cl H N)) hN6 hti; rw [show tst ρ n cl (cbt ρ n cl H N) N i s = s from Eq.symm (by show s = tst ρ n cl (cbt ρ n cl H N) N i s; unfold tst; rw [if_neg (by rcases hti with h | h <;> omega)])] at h; exact h)⟩)
        · refine (ex_4_6 (ex_7_4 rfl (ex_4_7 (ex_7_5 rfl (ex_58 (ex_10_6 ⟨by omega, by omega⟩ rfl (ex_28 ?_)))))))
          rw [show (akm ρ n cl (cbt ρ n cl H N) N i) = fwv (((i : Nat) : Int), (akm ρ n cl (cbt ρ n cl H N) N i)) by unfold fwv; rw [if_neg (show ¬ ((i : Nat) : Int) = -1 by omega)]]
          exact hki (((i : Int), (akm ρ n cl (cbt ρ n cl H N) N i))) (fun k_ => ([some (.inr (.inr (some 116))), some (.inr (.inr (some c))), some (.inl 1), some (.inl ((cbt ρ n cl H N : Nat) : Int)), some (.inl (i : Int)), some (.inl (fwv (((i : Nat) : Int), (akm ρ n cl (cbt ρ n cl H N) N i)))), some (.inl ((i : Int) + 1)), some (.inl (fwv (((i : Nat) : Int), (akm ρ n cl (cbt ρ n cl H N) N i))))] : am_L).getD k_ none) _ ((by show ((i : Int), (akm ρ n cl (cbt ρ n cl H N) N i)) = tst ρ n cl (cbt ρ n cl H N) N i s; unfold tst; rw [if_pos (by rcases hti with h | h <;> omega)])) (⟨hEQ, AF_trans hfi fQ, (by have h := tsI_s (ρ := ρ) (n := n) (cl := cl) (left := (cbt ρ n cl H N)) hN6 hti; rw [show tst ρ n cl (cbt ρ n cl H N) N i s = ((i : Int), (akm ρ n cl (cbt ρ n cl H N) N i)) from Eq.symm (by show ((i : Int), (akm ρ n cl (cbt ρ n cl H N) N i)) = tst ρ n cl (cbt ρ n cl H N) N i s; unfold tst; rw [if_pos (by rcases hti with h | h <;> omega)])] at h; exact h)⟩)
    · intro s e_i J hsi hvi
      obtain ⟨hEi, hfi, hti⟩ := hvi
      refine (ex_4_6 (ex_6_1 (ix_41i (v := (F : Int)) (cs_0 hS hCc) ((CC_n1 hEi.1).trans hF) ?_)))
      refine ex_ic3 (fun hc21 => ?_) (fun hc21 => by exfalso; omega)
      refine (ex_4_2 (ex_if0 (fun hc => by exfalso; revert hc; decide) (fun _ => ?_)))
      refine (ex_4_5 (ex_28 ?_))
      exact ex_53 ⟨_, by rw [hsi]; rfl, hEi, hfi⟩
  obtain ⟨o, e, I1, rfl, h⟩ := am_doQ (as := [(.inr (.inr (some 116))), (.inr (.inr (some c))), (.inl 1)]) (Nat.le_of_ble_eq_true rfl) rfl w
  exact ⟨I1, e, h⟩
theorem k_ask_1z {d : Nat} {G : am_G} {I : Nat → Nat → Int} {P : Nat → Nat → Option Nat} (hS : ST G P) {c : Nat} (hCc : CQ c) {ρ : Nat → Int} {n : Nat} {cl : Nat → Cl} (hE : CE G I P c ρ n cl) {N H F : Nat} (hN : ρ 0 = (N : Int)) (hH : ρ 2 = (H : Int)) (hF : ρ 1 = (F : Int)) (hBN : BarN n cl) (hne : (cbt ρ n cl H N) = 0) : ∃ I1, am_call am_B am_M (d + 7) 7 [(.inr (.inr (some 116))), (.inr (.inr (some c))), (.inl 1)] (G, I, P) = some (some (.inl (-1)), (G, I1, P)) ∧ (CE G I1 P c ρ n cl ∧ AF I I1) := by
  have h06 := RW_n0 hE.2.1
  have h15 := RW_n1 hE.2.1
  have h26 := RW_n2 hE.2.1
  have hqc : c = 65 ∨ c = 93 ∨ c = 122 ∨ c = 139 ∨ c = 174 ∨ c = 191 := hCc
  have hN6 : N ≤ 6 := by omega
  have hcbt := cbt_lt (ρ := ρ) (n := n) (cl := cl) (H := H) hN6
  have w : am_ex (am_call am_B am_M (d + 6)) (am_B 7) (am_B 7 0) [some (.inr (.inr (some 116))), some (.inr (.inr (some c))), some (.inl 1), none, none, none, none, none] [] (G, I, P) (fun o => ∃ I1, o = (some (.inl (-1)), (G, I1, P)) ∧ (CE G I1 P c ρ n cl ∧ AF I I1)) := by
    refine (ex_6_0 (ex_6_1 ?_))
    obtain ⟨JC, eC, hEC, hfC⟩ := k_cand (d := d) hS hCc hE hN hH hBN
    refine (ix_46 (S' := [(.inl ((cbt ρ n cl H N : Nat) : Int))]) rfl (sh_116 hS) eC rfl rfl (ex_7_3 rfl (ex_0 (ex_7_4 rfl (ex_0 (ex_7_5 rfl (ex_0 (ex_7_6 rfl (ex_58 (ex_4_6 (ex_6_1 (ix_41i (v := (F : Int)) (cs_0 hS hCc) ((CC_n1 hEC.1).trans hF) ?_))))))))))))
    refine ex_ic3 (fun hc21 => ?_) (fun hc21 => ?_)
    · refine (ex_4_2 (ex_if0 (fun hc => by exfalso; revert hc; decide) (fun _ => ?_)))
      refine (ex_4_5 (ex_28 ?_))
      exact ex_53 ⟨_, rfl, hEC, AF_LF hfC⟩
    · refine (ex_4_3 ?_)
      refine ex_if0 (fun hc25 => ?_) (fun hc25 => by exfalso; omega)
      refine (ex_4_2 (ex_if0 (fun hc => by exfalso; revert hc; decide) (fun _ => ?_)))
      refine (ex_4_5 (ex_28 ?_))
      exact ex_53 ⟨_, rfl, hEC, AF_LF hfC⟩
  obtain ⟨o, e, I1, rfl, h⟩ := am_doQ (as := [(.inr (.inr (some 116))), (.inr (.inr (some c))), (.inl 1)]) (Nat.le_of_ble_eq_true rfl) rfl w
  exact ⟨I1, e, h⟩
/-- all but where the askings are worked out, and what is thrown -/
def KFm (I J : Nat → Nat → Int) : Prop := ∀ q k, ¬ q = 228 → ¬ q = 226 → ¬ q = 233 → ¬ (q = 208 ∧ (k = 0 ∨ k = 34 ∨ k = 38 ∨ k = 39 ∨ k = 40)) → J q k = I q k
theorem KFm_trans {I J K : Nat → Nat → Int} (h : KFm I J) (h2 : KFm J K) : KFm I K := fun q k a b c d => (h2 q k a b c d).trans (h q k a b c d)
theorem KFm_TF {I J : Nat → Nat → Int} (h : TF I J) : KFm I J := fun q k a b _ c => h q k a b (by omega)
theorem KFm_TFt {I J : Nat → Nat → Int} (h : TFt I J) : KFm I J := fun q k a b _ c => h q k a b c
theorem KFm_w {I : Nat → Nat → Int} {k : Nat} {v : Int} : KFm I (am_u2 I 233 k v) := fun q j a b c d => u2_q c
theorem ME_u233 {I : Nat → Nat → Int} {ρ : Nat → Int} {n : Nat} {cl : Nat → Cl} {k : Nat} {v : Int} (h : ME I ρ n cl) : ME (am_u2 I 233 k v) ρ n cl := ⟨(u2_qf (by decide)).trans h.1, h.2.1, h.2.2.1, (u2_q (by decide)).trans h.2.2.2⟩
theorem m_ask_b {d : Nat} {G : am_G} {I : Nat → Nat → Int} {P : Nat → Nat → Option Nat} (hS : ST G P) {ρ : Nat → Int} {n : Nat} {cl : Nat → Cl} (hM : ME I ρ n cl) {N H F : Nat} (hN : ρ 0 = (N : Int)) (hH : ρ 2 = (H : Int)) (hF : ρ 1 = (F : Int)) {w_ : Int} (hw : ¬ (0 ≤ w_ ∧ w_ ≤ 1)) : ∃ I1, am_call am_B am_M (d + 9) 263 [(.inr (.inr (some 208))), (.inl w_)] (G, I, P) = some (some (.inl (-1)), (G, I1, P)) ∧ (ME I1 ρ n cl ∧ KFm I I1) := by
  have h06 := RW_n0 hM.2.1
  have h15 := RW_n1 hM.2.1
  have h26 := RW_n2 hM.2.1
  have hM0 : ME (am_u2 I 208 0 0) ρ n cl := ⟨(u2_qf (by decide)).trans hM.1, hM.2.1, hM.2.2.1, (u2_k (by decide)).trans hM.2.2.2⟩
  have hN6 : N ≤ 6 := by omega
  have hcbt := cbt_lt (ρ := ρ) (n := n) (cl := cl) (H := H) hN6
  have w : am_ex (am_call am_B am_M (d + 8)) (am_B 263) (am_B 263 0) [some (.inr (.inr (some 208))), some (.inl w_), none, none, none, none, none, none, none] [] (G, I, P) (fun o => ∃ I1, o = (some (.inl (-1)), (G, I1, P)) ∧ (ME I1 ρ n cl ∧ KFm I I1)) := by
    refine (ex_6_0 (ex_0 (ix_42i (sh_208 hS) (ex_6_0 ?_))))
    obtain ⟨JC, eC, hEC, hfC⟩ := c_thatCan (d := d) hS hM0 hN hH
    refine (ix_46 (S' := [(.inl ((cbt ρ n cl H N : Nat) : Int))]) rfl (sh_208 hS) eC rfl rfl (ex_7_2 rfl (ex_4_1 (ex_19 (ex_1 (ex_1 ?_))))))
    have hb14 : ¬ (((0 : Int) ≤ w_ ∧ (w_ : Int) ≤ 1)) := by omega
    refine (ix_45 (S' := [(.inl 0)]) rfl (c_in_f hb14) rfl rfl (ex_if0 (fun _ => ?_) (fun hc => by exfalso; revert hc; decide)))
    refine (ex_0 ?_)
    exact ex_53 ⟨_, rfl, hEC, KFm_TFt (TFt_th hfC)⟩
  obtain ⟨o, e, I1, rfl, h⟩ := am_doQ (as := [(.inr (.inr (some 208))), (.inl w_)]) (Nat.le_of_ble_eq_true rfl) rfl w
  exact ⟨I1, e, h⟩
theorem m_ask_0z {d : Nat} {G : am_G} {I : Nat → Nat → Int} {P : Nat → Nat → Option Nat} (hS : ST G P) {ρ : Nat → Int} {n : Nat} {cl : Nat → Cl} (hM : ME I ρ n cl) {N H F : Nat} (hN : ρ 0 = (N : Int)) (hH : ρ 2 = (H : Int)) (hF : ρ 1 = (F : Int)) (hne : (cbt ρ n cl H N) = 0) : ∃ I1, am_call am_B am_M (d + 9) 263 [(.inr (.inr (some 208))), (.inl 0)] (G, I, P) = some (some (.inl (-1)), (G, I1, P)) ∧ (ME I1 ρ n cl ∧ KFm I I1) := by
  have h06 := RW_n0 hM.2.1
  have h15 := RW_n1 hM.2.1
  have h26 := RW_n2 hM.2.1
  have hM0 : ME (am_u2 I 208 0 0) ρ n cl := ⟨(u2_qf (by decide)).trans hM.1, hM.2.1, hM.2.2.1, (u2_k (by decide)).trans hM.2.2.2⟩
  have hN6 : N ≤ 6 := by omega
  have hcbt := cbt_lt (ρ := ρ) (n := n) (cl := cl) (H := H) hN6
  have w : am_ex (am_call am_B am_M (d + 8)) (am_B 263) (am_B 263 0) [some (.inr (.inr (some 208))), some (.inl 0), none, none, none, none, none, none, none] [] (G, I, P) (fun o => ∃ I1, o = (some (.inl (-1)), (G, I1, P)) ∧ (ME I1 ρ n cl ∧ KFm I I1)) := by
    refine (ex_6_0 (ex_0 (ix_42i (sh_208 hS) (ex_6_0 ?_))))
    obtain ⟨JC, eC, hEC, hfC⟩ := c_thatCan (d := d) hS hM0 hN hH
    refine (ix_46 (S' := [(.inl ((cbt ρ n cl H N : Nat) : Int))]) rfl (sh_208 hS) eC rfl rfl (ex_7_2 rfl (ex_4_1 (ex_19 (ex_1 (ex_1 ?_))))))
    have hb14 : ((0 : Int) ≤ 0 ∧ (0 : Int) ≤ 1) := by omega
    refine (ix_45 (S' := [(.inl 1)]) rfl (c_in_t hb14) rfl rfl (ex_if0 (fun hc => by exfalso; revert hc; decide) (fun _ => ?_)))
    refine (ex_4_2 ?_)
    refine ex_if1 (fun hc21 => by exfalso; omega) (fun hc21 => ?_)
    refine (ex_0 ?_)
    exact ex_53 ⟨_, rfl, hEC, KFm_TFt (TFt_th hfC)⟩
  obtain ⟨o, e, I1, rfl, h⟩ := am_doQ (as := [(.inr (.inr (some 208))), (.inl 0)]) (Nat.le_of_ble_eq_true rfl) rfl w
  exact ⟨I1, e, h⟩
theorem m_ask_0 {d : Nat} {G : am_G} {I : Nat → Nat → Int} {P : Nat → Nat → Option Nat} (hS : ST G P) {ρ : Nat → Int} {n : Nat} {cl : Nat → Cl} (hM : ME I ρ n cl) {N H F : Nat} (hN : ρ 0 = (N : Int)) (hH : ρ 2 = (H : Int)) (hF : ρ 1 = (F : Int)) (hne : ¬ (cbt ρ n cl H N) = 0) : ∃ I1, am_call am_B am_M (d + 9) 263 [(.inr (.inr (some 208))), (.inl 0)] (G, I, P) = some (some (.inl (tsk ρ n cl (cbt ρ n cl H N) N F).1), (G, I1, P)) ∧ (ME I1 ρ n cl ∧ KFm I I1) := by
  have h06 := RW_n0 hM.2.1
  have h15 := RW_n1 hM.2.1
  have h26 := RW_n2 hM.2.1
  have hM0 : ME (am_u2 I 208 0 0) ρ n cl := ⟨(u2_qf (by decide)).trans hM.1, hM.2.1, hM.2.2.1, (u2_k (by decide)).trans hM.2.2.2⟩
  have hN6 : N ≤ 6 := by omega
  have hcbt := cbt_lt (ρ := ρ) (n := n) (cl := cl) (H := H) hN6
  have w : am_ex (am_call am_B am_M (d + 8)) (am_B 263) (am_B 263 0) [some (.inr (.inr (some 208))), some (.inl 0), none, none, none, none, none, none, none] [] (G, I, P) (fun o => ∃ I1, o = (some (.inl (tsk ρ n cl (cbt ρ n cl H N) N F).1), (G, I1, P)) ∧ (ME I1 ρ n cl ∧ KFm I I1)) := by
    refine (ex_6_0 (ex_0 (ix_42i (sh_208 hS) (ex_6_0 ?_))))
    obtain ⟨JC, eC, hEC, hfC⟩ := c_thatCan (d := d) hS hM0 hN hH
    refine (ix_46 (S' := [(.inl ((cbt ρ n cl H N : Nat) : Int))]) rfl (sh_208 hS) eC rfl rfl (ex_7_2 rfl (ex_4_1 (ex_19 (ex_1 (ex_1 ?_))))))
    have hb14 : ((0 : Int) ≤ 0 ∧ (0 : Int) ≤ 1) := by omega
    refine (ix_45 (S' := [(.inl 1)]) rfl (c_in_t hb14) rfl rfl (ex_if0 (fun hc => by exfalso; revert hc; decide) (fun _ => ?_)))
    refine (ex_4_2 ?_)
    refine ex_if1 (fun hc21 => ?_) (fun hc21 => by exfalso; omega)
    refine (ex_0 (ex_7_3 rfl (ex_0 (ex_7_4 rfl (ex_0 (ex_7_5 rfl (ex_58 ?_)))))))
    refine ex_forR (b := 4) (σ := Int × Int) (F) (fun i s => tst ρ n cl (cbt ρ n cl H N) N i s) (fun i s J => ME J ρ n cl ∧ KFm I J ∧ tsI i s) (fun i s e_i => [some (.inr (.inr (some 208))), some (.inl 0), some (.inl ((cbt ρ n cl H N : Nat) : Int)), some (.inl s.2), some (.inl s.1), some (.inl (i : Int)), (e_i 6), (e_i 7), (e_i 8)]) ?_ (F) (0) ((-1, 100000000)) (fun k_ => ([some (.inr (.inr (some 208))), some (.inl 0), some (.inl ((cbt ρ n cl H N : Nat) : Int)), some (.inl 100000000), some (.inl (-1)), some (.inl 0), none, none, none] : am_L).getD k_ none) (JC) (by omega) (⟨hEC, KFm_TFt (TFt_th hfC), Or.inl ⟨rfl, rfl⟩⟩) rfl ?_
    · intro i s e_i J hii hvi hki
      obtain ⟨hEi, hfi, hti⟩ := hvi
      have hakb := akm_b (ρ := ρ) (n := n) (cl := cl) (left := (cbt ρ n cl H N)) (f := i) (N := N)
      refine (ex_4_5 (ex_6_0 (ix_41r (sh_208 hS) (pt_208_3 hS) (ex_0 (ix_30 (j := 1) (v := (F : Int)) (sh_210 hS) (by decide) (by decide) rfl ((congrFun hEi.1 _).trans hF) ?_)))))
      refine ex_ic3 (fun hc44 => by exfalso; omega) (fun hc44 => ?_)
      refine (ex_0 (ex_7_6 rfl (ex_58 ?_)))
      refine ex_forR (b := 6) (σ := Unit) (11) (fun y t => t) (fun y t J => ME J ρ n cl ∧ (∀ j, j < y → J 233 j = 0) ∧ KFm I J) (fun y t e_y => [some (.inr (.inr (some 208))), some (.inl 0), some (.inl ((cbt ρ n cl H N : Nat) : Int)), some (.inl s.2), some (.inl s.1), some (.inl (i : Int)), some (.inl (y : Int)), (e_i 7), (e_i 8)]) ?_ (11) (0) (()) (fun k_ => ([some (.inr (.inr (some 208))), some (.inl 0), some (.inl ((cbt ρ n cl H N : Nat) : Int)), some (.inl s.2), some (.inl s.1), some (.inl (i : Int)), some (.inl 0), (e_i 7), (e_i 8)] : am_L).getD k_ none) (J) (by omega) (⟨hEi, fun j hj => absurd hj (by omega), hfi⟩) rfl ?_
      · intro y t e_y J hiy hvy hky
        obtain ⟨hEy, hzy, hfy⟩ := hvy
        refine (ex_4_6 (ex_0 ?_))
        refine ex_ic3 (fun hc54 => by exfalso; omega) (fun hc54 => ?_)
        refine (ex_6_0 (ix_41r (sh_208 hS) (pt_208_45 hS) (ex_4_6 (ex_0 (ix_34 (j := y) (sh_233 hS) (by omega) (by omega) (by omega) (ex_10_6 ⟨by omega, by omega⟩ rfl (ex_28 ?_)))))))
        exact hky (()) (fun k_ => ([some (.inr (.inr (some 208))), some (.inl 0), some (.inl ((cbt ρ n cl H N : Nat) : Int)), some (.inl s.2), some (.inl s.1), some (.inl (i : Int)), some (.inl ((y : Int) + 1)), (e_i 7), (e_i 8)] : am_L).getD k_ none) _ (rfl) (⟨ME_u233 hEy, fun t ht => (by rw [u2_at]; by_cases e : t = y; (rw [if_pos e]); (rw [if_neg e]; exact hzy t (by omega))), KFm_trans hfy KFm_w⟩)
      · intro t e_y J hsy hvy
        obtain ⟨hEy, hzy, hfy⟩ := hvy
        refine (ex_4_6 (ex_0 ?_))
        refine ex_ic3 (fun hc54 => ?_) (fun hc54 => by exfalso; omega)
        refine (ex_0 (ex_7_6 rfl (ex_0 (ex_7_7 rfl (ex_58 ?_)))))
        refine ex_forR (b := 9) (σ := (Nat → Int) × Int) (N) (fun x u => aks ρ n cl (cbt ρ n cl H N) i x u) (fun x u J => ME J ρ n cl ∧ (∀ j, j < 11 → J 233 j = u.1 j) ∧ akI x u ∧ KFm I J) (fun x u e_x => [some (.inr (.inr (some 208))), some (.inl 0), some (.inl ((cbt ρ n cl H N : Nat) : Int)), some (.inl s.2), some (.inl s.1), some (.inl (i : Int)), some (.inl u.2), some (.inl (x : Int)), (e_x 8)]) ?_ (N) (0) (((fun _ => 0), 0)) (fun k_ => ([some (.inr (.inr (some 208))), some (.inl 0), some (.inl ((cbt ρ n cl H N : Nat) : Int)), some (.inl s.2), some (.inl s.1), some (.inl (i : Int)), some (.inl 0), some (.inl 0), (e_i 8)] : am_L).getD k_ none) (J) (by omega) (⟨hEy, hzy, ⟨fun j => ⟨Int.le_refl _, Int.le_refl _⟩, Int.le_refl _, Int.le_refl _⟩, hfy⟩) rfl ?_
        · intro x u e_x J hix hvx hkx
          obtain ⟨hEx, hax, hkx_, hfx⟩ := hvx
          have hsb := sdv_b (ρ := ρ) (n := n) (cl := cl) (c := x) (f := i)
          have hk1 := hkx_.1 (sdv ρ n cl x i).toNat
          have hk2 := hkx_.2
          refine (ex_4_7 (ex_6_0 (ix_41r (sh_208 hS) (pt_208_3 hS) (ex_0 (ix_30 (j := 0) (v := (N : Int)) (sh_210 hS) (by decide) (by decide) rfl ((congrFun hEx.1 _).trans hN) ?_)))))
          refine ex_ic3 (fun hc85 => by exfalso; omega) (fun hc85 => ?_)
          refine (ex_4_2 (ex_4_7 ?_))
          by_cases hb91 : (Nat.testBit (cbt ρ n cl H N) x = true)
          · refine (ix_45 (S' := [(.inl 1)]) rfl (c_is_t (Nat.lt_trans hcbt (by decide)) (by omega) hb91) rfl rfl (ex_if0 (fun hc => by exfalso; revert hc; decide) (fun _ => ?_)))
            by_cases hb : m_bar ρ n cl x i
            · refine (ex_6_0 (ex_4_7 (ex_4_5 ?_)))
              obtain ⟨K, eK, fK⟩ := c_isBarred_t (d := d + 1) hS hEx (c := x) (f := i) (by omega) (by omega) hb
              refine (ix_46 (S' := [(.inl 1)]) rfl (sh_208 hS) eK rfl rfl (ex_if0 (fun hc => by exfalso; revert hc; decide) (fun _ => ?_)))
              refine (ex_0 (ex_28 ?_))
              have hsd : (10 : Int) = ((sdv ρ n cl x i).toNat : Int) := by rw [Int.toNat_of_nonneg sdv_b.1]; first | exact (sdv_t hb).symm | exact (sdv_f hb).symm
              rw [hsd]
              refine (ex_7_8 rfl (ex_6_0 (ix_41r (sh_208 hS) (pt_208_45 hS) (ex_4_8 (ex_23 rfl (ix_30 (j := (sdv ρ n cl x i).toNat) (v := (u.1 (sdv ρ n cl x i).toNat)) (sh_233 hS) (by omega) (by omega) (by omega) (((fK _ _ (by decide) (by decide) (by omega))).trans (hax _ (by omega))) (ex_0 (ex_add ⟨by omega, by omega⟩ (ix_34 (j := (sdv ρ n cl x i).toNat) (sh_233 hS) (by omega) (by omega) (by omega) (ex_6_0 (ix_41r (sh_208 hS) (pt_208_45 hS) (ex_4_8 (ix_30 (j := (sdv ρ n cl x i).toNat) (v := ((u.1 (sdv ρ n cl x i).toNat) + 1)) (sh_233 hS) (by omega) (by omega) (by omega) u2_e (ex_4_6 ?_))))))))))))))
              refine ex_ic5 (fun hc143 => ?_) (fun hc143 => ?_)
              · refine (ex_4_6 (ex_58 (ex_7_6 rfl (ex_58 (ex_10_7 ⟨by omega, by omega⟩ rfl (ex_28 ?_))))))
                have hmx : mxi u.2 (u.1 (sdv ρ n cl x i).toNat + 1) = u.2 := by unfold mxi; first | (rw [if_pos (by omega)]; done) | (rw [if_neg (by omega)]; done) | (split <;> omega)
                exact hkx ((am_u1 u.1 (sdv ρ n cl x i).toNat (u.1 (sdv ρ n cl x i).toNat + 1), u.2)) (fun k_ => ([some (.inr (.inr (some 208))), some (.inl 0), some (.inl ((cbt ρ n cl H N : Nat) : Int)), some (.inl s.2), some (.inl s.1), some (.inl (i : Int)), some (.inl u.2), some (.inl ((x : Int) + 1)), some (.inl ((sdv ρ n cl x i).toNat : Int))] : am_L).getD k_ none) _ ((by unfold aks; rw [if_pos hb91, hmx])) (⟨ME_u233 (ME_TF hEx fK), fun j hj => (by rw [u2_at]; show _ = am_u1 u.1 _ _ j; unfold am_u1; by_cases e : j = (sdv ρ n cl x i).toNat; (rw [if_pos e, if_pos e]); (rw [if_neg e, if_neg e, (fK : TF J K) _ _ (by decide) (by decide) (by omega)]; exact hax j hj)), (by have h := akI_s (ρ := ρ) (n := n) (cl := cl) (left := (cbt ρ n cl H N)) (f := i) hkx_; unfold aks at h; rw [if_pos hb91, hmx] at h; exact h), KFm_trans hfx (KFm_trans (KFm_TF fK) KFm_w)⟩)
              · refine (ex_6_0 (ix_41r (sh_208 hS) (pt_208_45 hS) (ex_4_8 (ix_30 (j := (sdv ρ n cl x i).toNat) (v := ((u.1 (sdv ρ n cl x i).toNat) + 1)) (sh_233 hS) (by omega) (by omega) (by omega) u2_e (ex_28 (ex_7_6 rfl (ex_58 (ex_10_7 ⟨by omega, by omega⟩ rfl (ex_28 ?_)))))))))
                have hmx : mxi u.2 (u.1 (sdv ρ n cl x i).toNat + 1) = ((u.1 (sdv ρ n cl x i).toNat) + 1) := by unfold mxi; first | (rw [if_pos (by omega)]; done) | (rw [if_neg (by omega)]; done) | (split <;> omega)
                exact hkx ((am_u1 u.1 (sdv ρ n cl x i).toNat (u.1 (sdv ρ n cl x i).toNat + 1), ((u.1 (sdv ρ n cl x i).toNat) + 1))) (fun k_ => ([some (.inr (.inr (some 208))), some (.inl 0), some (.inl ((cbt ρ n cl H N : Nat) : Int)), some (.inl s.2), some (.inl s.1), some (.inl (i : Int)), some (.inl ((u.1 (sdv ρ n cl x i).toNat) + 1)), some (.inl ((x : Int) + 1)), some (.inl ((sdv ρ n cl x i).toNat : Int))] : am_L).getD k_ none) _ ((by unfold aks; rw [if_pos hb91, hmx])) (⟨ME_u233 (ME_TF hEx fK), fun j hj => (by rw [u2_at]; show _ = am_u1 u.1 _ _ j; unfold am_u1; by_cases e : j = (sdv ρ n cl x i).toNat; (rw [if_pos e, if_pos e]); (rw [if_neg e, if_neg e, (fK : TF J K) _ _ (by decide) (by decide) (by omega)]; exact hax j hj)), (by have h := akI_s (ρ := ρ) (n := n) (cl := cl) (left := (cbt ρ n cl H N)) (f := i) hkx_; unfold aks at h; rw [if_pos hb91, hmx] at h; exact h), KFm_trans hfx (KFm_trans (KFm_TF fK) KFm_w)⟩)
            · refine (ex_6_0 (ex_4_7 (ex_4_5 ?_)))
              obtain ⟨K, eK, fK⟩ := c_isBarred_f (d := d + 1) hS hEx (c := x) (f := i) (by omega) (by omega) hb
              refine (ix_46 (S' := [(.inl 0)]) rfl (sh_208 hS) eK rfl rfl (ex_if0 (fun _ => ?_) (fun hc => by exfalso; revert hc; decide)))
              refine (ex_6_0 (ex_4_7 (ex_4_5 ?_)))
              obtain ⟨Q_, eQ, fQ⟩ := c_toldBy (d := d + 1) hS (ME_TF hEx fK) (c := x) (f := i) (by omega) (by omega)
              refine (ix_46 (S' := [(.inl (m_told ρ n cl x i))]) rfl (sh_208 hS) eQ rfl rfl (ex_58 ?_))
              have hsd : ((m_told ρ n cl x i) : Int) = ((sdv ρ n cl x i).toNat : Int) := by rw [Int.toNat_of_nonneg sdv_b.1]; first | exact (sdv_t hb).symm | exact (sdv_f hb).symm
              rw [hsd]
              refine (ex_7_8 rfl (ex_6_0 (ix_41r (sh_208 hS) (pt_208_45 hS) (ex_4_8 (ex_23 rfl (ix_30 (j := (sdv ρ n cl x i).toNat) (v := (u.1 (sdv ρ n cl x i).toNat)) (sh_233 hS) (by omega) (by omega) (by omega) (((fQ _ _ (by decide) (by decide) (by omega))).trans (((fK _ _ (by decide) (by decide) (by omega))).trans (hax _ (by omega)))) (ex_0 (ex_add ⟨by omega, by omega⟩ (ix_34 (j := (sdv ρ n cl x i).toNat) (sh_233 hS) (by omega) (by omega) (by omega) (ex_6_0 (ix_41r (sh_208 hS) (pt_208_45 hS) (ex_4_8 (ix_30 (j := (sdv ρ n cl x i).toNat) (v := ((u.1 (sdv ρ n cl x i).toNat) + 1)) (sh_233 hS) (by omega) (by omega) (by omega) u2_e (ex_4_6 ?_))))))))))))))
              refine ex_ic5 (fun hc143 => ?_) (fun hc143 => ?_)
              · refine (ex_4_6 (ex_58 (ex_7_6 rfl (ex_58 (ex_10_7 ⟨by omega, by omega⟩ rfl (ex_28 ?_))))))
                have hmx : mxi u.2 (u.1 (sdv ρ n cl x i).toNat + 1) = u.2 := by unfold mxi; first | (rw [if_pos (by omega)]; done) | (rw [if_neg (by omega)]; done) | (split <;> omega)
                exact hkx ((am_u1 u.1 (sdv ρ n cl x i).toNat (u.1 (sdv ρ n cl x i).toNat + 1), u.2)) (fun k_ => ([some (.inr (.inr (some 208))), some (.inl 0), some (.inl ((cbt ρ n cl H N : Nat) : Int)), some (.inl s.2), some (.inl s.1), some (.inl (i : Int)), some (.inl u.2), some (.inl ((x : Int) + 1)), some (.inl ((sdv ρ n cl x i).toNat : Int))] : am_L).getD k_ none) _ ((by unfold aks; rw [if_pos hb91, hmx])) (⟨ME_u233 (ME_TF hEx (TF_trans fK fQ)), fun j hj => (by rw [u2_at]; show _ = am_u1 u.1 _ _ j; unfold am_u1; by_cases e : j = (sdv ρ n cl x i).toNat; (rw [if_pos e, if_pos e]); (rw [if_neg e, if_neg e, ((TF_trans fK fQ) : TF J Q_) _ _ (by decide) (by decide) (by omega)]; exact hax j hj)), (by have h := akI_s (ρ := ρ) (n := n) (cl := cl) (left := (cbt ρ n cl H N)) (f := i) hkx_; unfold aks at h; rw [if_pos hb91, hmx] at h; exact h), KFm_trans hfx (KFm_trans (KFm_TF (TF_trans fK fQ)) KFm_w)⟩)
              · refine (ex_6_0 (ix_41r (sh_208 hS) (pt_208_45 hS) (ex_4_8 (ix_30 (j := (sdv ρ n cl x i).toNat) (v := ((u.1 (sdv ρ n cl x i).toNat) + 1)) (sh_233 hS) (by omega) (by omega) (by omega) u2_e (ex_28 (ex_7_6 rfl (ex_58 (ex_10_7 ⟨by omega, by omega⟩ rfl (ex_28 ?_)))))))))
                have hmx : mxi u.2 (u.1 (sdv ρ n cl x i).toNat + 1) = ((u.1 (sdv ρ n cl x i).toNat) + 1) := by unfold mxi; first | (rw [if_pos (by omega)]; done) | (rw [if_neg (by omega)]; done) | (split <;> omega)
                exact hkx ((am_u1 u.1 (sdv ρ n cl x i).toNat (u.1 (sdv ρ n cl x i).toNat + 1), ((u.1 (sdv ρ n cl x i).toNat) + 1))) (fun k_ => ([some (.inr (.inr (some 208))), some (.inl 0), some (.inl ((cbt ρ n cl H N : Nat) : Int)), some (.inl s.2), some (.inl s.1), some (.inl (i : Int)), some (.inl ((u.1 (sdv ρ n cl x i).toNat) + 1)), some (.inl ((x : Int) + 1)), some (.inl ((sdv ρ n cl x i).toNat : Int))] : am_L).getD k_ none) _ ((by unfold aks; rw [if_pos hb91, hmx])) (⟨ME_u233 (ME_TF hEx (TF_trans fK fQ)), fun j hj => (by rw [u2_at]; show _ = am_u1 u.1 _ _ j; unfold am_u1; by_cases e : j = (sdv ρ n cl x i).toNat; (rw [if_pos e, if_pos e]); (rw [if_neg e, if_neg e, ((TF_trans fK fQ) : TF J Q_) _ _ (by decide) (by decide) (by omega)]; exact hax j hj)), (by have h := akI_s (ρ := ρ) (n := n) (cl := cl) (left := (cbt ρ n cl H N)) (f := i) hkx_; unfold aks at h; rw [if_pos hb91, hmx] at h; exact h), KFm_trans hfx (KFm_trans (KFm_TF (TF_trans fK fQ)) KFm_w)⟩)
          · refine (ix_45 (S' := [(.inl 0)]) rfl (c_is_f (Nat.lt_trans hcbt (by decide)) (by omega) hb91) rfl rfl (ex_if0 (fun _ => ?_) (fun hc => by exfalso; revert hc; decide)))
            refine (ex_10_7 ⟨by omega, by omega⟩ rfl (ex_28 ?_))
            exact hkx (u) (fun k_ => ([some (.inr (.inr (some 208))), some (.inl 0), some (.inl ((cbt ρ n cl H N : Nat) : Int)), some (.inl s.2), some (.inl s.1), some (.inl (i : Int)), some (.inl u.2), some (.inl ((x : Int) + 1)), (e_x 8)] : am_L).getD k_ none) _ ((by unfold aks; rw [if_neg hb91])) (⟨hEx, hax, (by have h := akI_s (ρ := ρ) (n := n) (cl := cl) (left := (cbt ρ n cl H N)) (f := i) hkx_; unfold aks at h; rw [if_neg hb91] at h; exact h), hfx⟩)
        · intro u e_x J hsx hvx
          obtain ⟨hEx, hax, hkx_, hfx⟩ := hvx
          have hak : u.2 = akm ρ n cl (cbt ρ n cl H N) N i := by rw [hsx]; rfl
          refine (ex_4_7 (ex_6_0 (ix_41r (sh_208 hS) (pt_208_3 hS) (ex_0 (ix_30 (j := 0) (v := (N : Int)) (sh_210 hS) (by decide) (by decide) rfl ((congrFun hEx.1 _).trans hN) ?_)))))
          refine ex_ic3 (fun hc85 => ?_) (fun hc85 => by exfalso; omega)
          refine (ex_4_6 (ex_4_3 ?_))
          refine ex_ic3 (fun hc169 => ?_) (fun hc169 => ?_)
          · refine (ex_4_4 (ex_58 (ex_7_4 rfl (ex_4_6 (ex_4_3 ?_)))))
            refine ex_ic3 (fun hc184 => ?_) (fun hc184 => ?_)
            · refine (ex_4_3 (ex_58 (ex_7_3 rfl (ex_10_5 ⟨by omega, by omega⟩ rfl (ex_28 ?_)))))
              exact hki (s) (fun k_ => ([some (.inr (.inr (some 208))), some (.inl 0), some (.inl ((cbt ρ n cl H N : Nat) : Int)), some (.inl s.2), some (.inl s.1), some (.inl ((i : Int) + 1)), some (.inl u.2), some (.inl ((N) : Int)), (e_x 8)] : am_L).getD k_ none) _ ((by show s = tst ρ n cl (cbt ρ n cl H N) N i s; unfold tst; first | (rw [if_pos (by omega), ← hak]; done) | (rw [if_neg (by omega)]; done) | (exfalso; omega))) (⟨hEx, hfx, (by have h := tsI_s (ρ := ρ) (n := n) (cl := cl) (left := (cbt ρ n cl H N)) hN6 hti; rw [show tst ρ n cl (cbt ρ n cl H N) N i s = s from Eq.symm (by show s = tst ρ n cl (cbt ρ n cl H N) N i s; unfold tst; first | (rw [if_pos (by omega), ← hak]; done) | (rw [if_neg (by omega)]; done) | (exfalso; omega))] at h; exact h)⟩)
            · refine (ex_4_6 (ex_28 (ex_7_3 rfl (ex_10_5 ⟨by omega, by omega⟩ rfl (ex_28 ?_)))))
              exact hki ((s.1, u.2)) (fun k_ => ([some (.inr (.inr (some 208))), some (.inl 0), some (.inl ((cbt ρ n cl H N : Nat) : Int)), some (.inl u.2), some (.inl s.1), some (.inl ((i : Int) + 1)), some (.inl u.2), some (.inl ((N) : Int)), (e_x 8)] : am_L).getD k_ none) _ ((by show (s.1, u.2) = tst ρ n cl (cbt ρ n cl H N) N i s; unfold tst; first | (rw [if_pos (by omega), ← hak]; done) | (rw [if_neg (by omega)]; done) | (exfalso; omega))) (⟨hEx, hfx, (by have h := tsI_s (ρ := ρ) (n := n) (cl := cl) (left := (cbt ρ n cl H N)) hN6 hti; rw [show tst ρ n cl (cbt ρ n cl H N) N i s = (s.1, u.2) from Eq.symm (by show (s.1, u.2) = tst ρ n cl (cbt ρ n cl H N) N i s; unfold tst; first | (rw [if_pos (by omega), ← hak]; done) | (rw [if_neg (by omega)]; done) | (exfalso; omega))] at h; exact h)⟩)
          · refine (ex_4_5 (ex_28 (ex_7_4 rfl (ex_4_6 (ex_4_3 ?_)))))
            refine ex_ic3 (fun hc184 => ?_) (fun hc184 => ?_)
            · refine (ex_4_3 (ex_58 (ex_7_3 rfl (ex_10_5 ⟨by omega, by omega⟩ rfl (ex_28 ?_)))))
              exact hki (((i : Int), s.2)) (fun k_ => ([some (.inr (.inr (some 208))), some (.inl 0), some (.inl ((cbt ρ n cl H N : Nat) : Int)), some (.inl s.2), some (.inl (i : Int)), some (.inl ((i : Int) + 1)), some (.inl u.2), some (.inl ((N) : Int)), (e_x 8)] : am_L).getD k_ none) _ ((by show ((i : Int), s.2) = tst ρ n cl (cbt ρ n cl H N) N i s; unfold tst; first | (rw [if_pos (by omega), ← hak]; done) | (rw [if_neg (by omega)]; done) | (exfalso; omega))) (⟨hEx, hfx, (by have h := tsI_s (ρ := ρ) (n := n) (cl := cl) (left := (cbt ρ n cl H N)) hN6 hti; rw [show tst ρ n cl (cbt ρ n cl H N) N i s = ((i : Int), s.2) from Eq.symm (by show ((i : Int), s.2) = tst ρ n cl (cbt ρ n cl H N) N i s; unfold tst; first | (rw [if_pos (by omega), ← hak]; done) | (rw [if_neg (by omega)]; done) | (exfalso; omega))] at h; exact h)⟩)
            · refine (ex_4_6 (ex_28 (ex_7_3 rfl (ex_10_5 ⟨by omega, by omega⟩ rfl (ex_28 ?_)))))
              exact hki (((i : Int), u.2)) (fun k_ => ([some (.inr (.inr (some 208))), some (.inl 0), some (.inl ((cbt ρ n cl H N : Nat) : Int)), some (.inl u.2), some (.inl (i : Int)), some (.inl ((i : Int) + 1)), some (.inl u.2), some (.inl ((N) : Int)), (e_x 8)] : am_L).getD k_ none) _ ((by show ((i : Int), u.2) = tst ρ n cl (cbt ρ n cl H N) N i s; unfold tst; first | (rw [if_pos (by omega), ← hak]; done) | (rw [if_neg (by omega)]; done) | (exfalso; omega))) (⟨hEx, hfx, (by have h := tsI_s (ρ := ρ) (n := n) (cl := cl) (left := (cbt ρ n cl H N)) hN6 hti; rw [show tst ρ n cl (cbt ρ n cl H N) N i s = ((i : Int), u.2) from Eq.symm (by show ((i : Int), u.2) = tst ρ n cl (cbt ρ n cl H N) N i s; unfold tst; first | (rw [if_pos (by omega), ← hak]; done) | (rw [if_neg (by omega)]; done) | (exfalso; omega))] at h; exact h)⟩)
    · intro s e_i J hsi hvi
      obtain ⟨hEi, hfi, hti⟩ := hvi
      refine (ex_4_5 (ex_6_0 (ix_41r (sh_208 hS) (pt_208_3 hS) (ex_0 (ix_30 (j := 1) (v := (F : Int)) (sh_210 hS) (by decide) (by decide) rfl ((congrFun hEi.1 _).trans hF) ?_)))))
      refine ex_ic3 (fun hc44 => ?_) (fun hc44 => by exfalso; omega)
      refine (ex_4_4 (ex_0 ?_))
      refine ex_ic0 (fun hc203 => ?_) (fun hc203 => ?_)
      · refine (ex_4_4 (ex_28 ?_))
        exact ex_53 ⟨_, by rw [hsi]; rfl, hEi, hfi⟩
      · refine (ex_4_1 (ex_if1 (fun hc => by exfalso; revert hc; decide) (fun _ => ?_)))
        refine (ex_4_4 (ex_28 ?_))
        exact ex_53 ⟨_, by rw [hsi]; rfl, hEi, hfi⟩
  obtain ⟨o, e, I1, rfl, h⟩ := am_doQ (as := [(.inr (.inr (some 208))), (.inl 0)]) (Nat.le_of_ble_eq_true rfl) rfl w
  exact ⟨I1, e, h⟩
theorem m_ask_1z {d : Nat} {G : am_G} {I : Nat → Nat → Int} {P : Nat → Nat → Option Nat} (hS : ST G P) {ρ : Nat → Int} {n : Nat} {cl : Nat → Cl} (hM : ME I ρ n cl) {N H F : Nat} (hN : ρ 0 = (N : Int)) (hH : ρ 2 = (H : Int)) (hF : ρ 1 = (F : Int)) (hne : (cbt ρ n cl H N) = 0) : ∃ I1, am_call am_B am_M (d + 9) 263 [(.inr (.inr (some 208))), (.inl 1)] (G, I, P) = some (some (.inl (-1)), (G, I1, P)) ∧ (ME I1 ρ n cl ∧ KFm I I1) := by
  have h06 := RW_n0 hM.2.1
  have h15 := RW_n1 hM.2.1
  have h26 := RW_n2 hM.2.1
  have hM0 : ME (am_u2 I 208 0 0) ρ n cl := ⟨(u2_qf (by decide)).trans hM.1, hM.2.1, hM.2.2.1, (u2_k (by decide)).trans hM.2.2.2⟩
  have hN6 : N ≤ 6 := by omega
  have hcbt := cbt_lt (ρ := ρ) (n := n) (cl := cl) (H := H) hN6
  have w : am_ex (am_call am_B am_M (d + 8)) (am_B 263) (am_B 263 0) [some (.inr (.inr (some 208))), some (.inl 1), none, none, none, none, none, none, none] [] (G, I, P) (fun o => ∃ I1, o = (some (.inl (-1)), (G, I1, P)) ∧ (ME I1 ρ n cl ∧ KFm I I1)) := by
    refine (ex_6_0 (ex_0 (ix_42i (sh_208 hS) (ex_6_0 ?_))))
    obtain ⟨JC, eC, hEC, hfC⟩ := c_thatCan (d := d) hS hM0 hN hH
    refine (ix_46 (S' := [(.inl ((cbt ρ n cl H N : Nat) : Int))]) rfl (sh_208 hS) eC rfl rfl (ex_7_2 rfl (ex_4_1 (ex_19 (ex_1 (ex_1 ?_))))))
    have hb14 : ((0 : Int) ≤ 1 ∧ (1 : Int) ≤ 1) := by omega
    refine (ix_45 (S' := [(.inl 1)]) rfl (c_in_t hb14) rfl rfl (ex_if0 (fun hc => by exfalso; revert hc; decide) (fun _ => ?_)))
    refine (ex_4_2 ?_)
    refine ex_if1 (fun hc21 => by exfalso; omega) (fun hc21 => ?_)
    refine (ex_0 ?_)
    exact ex_53 ⟨_, rfl, hEC, KFm_TFt (TFt_th hfC)⟩
  obtain ⟨o, e, I1, rfl, h⟩ := am_doQ (as := [(.inr (.inr (some 208))), (.inl 1)]) (Nat.le_of_ble_eq_true rfl) rfl w
  exact ⟨I1, e, h⟩
theorem m_ask_1 {d : Nat} {G : am_G} {I : Nat → Nat → Int} {P : Nat → Nat → Option Nat} (hS : ST G P) {ρ : Nat → Int} {n : Nat} {cl : Nat → Cl} (hM : ME I ρ n cl) {N H F : Nat} (hN : ρ 0 = (N : Int)) (hH : ρ 2 = (H : Int)) (hF : ρ 1 = (F : Int)) (hne : ¬ (cbt ρ n cl H N) = 0) : ∃ I1, am_call am_B am_M (d + 9) 263 [(.inr (.inr (some 208))), (.inl 1)] (G, I, P) = some (some (.inl (fwv (tsk ρ n cl (cbt ρ n cl H N) N F))), (G, I1, P)) ∧ (ME I1 ρ n cl ∧ KFm I I1) := by
  have h06 := RW_n0 hM.2.1
  have h15 := RW_n1 hM.2.1
  have h26 := RW_n2 hM.2.1
  have hM0 : ME (am_u2 I 208 0 0) ρ n cl := ⟨(u2_qf (by decide)).trans hM.1, hM.2.1, hM.2.2.1, (u2_k (by decide)).trans hM.2.2.2⟩
  have hN6 : N ≤ 6 := by omega
  have hcbt := cbt_lt (ρ := ρ) (n := n) (cl := cl) (H := H) hN6
  have w : am_ex (am_call am_B am_M (d + 8)) (am_B 263) (am_B 263 0) [some (.inr (.inr (some 208))), some (.inl 1), none, none, none, none, none, none, none] [] (G, I, P) (fun o => ∃ I1, o = (some (.inl (fwv (tsk ρ n cl (cbt ρ n cl H N) N F))), (G, I1, P)) ∧ (ME I1 ρ n cl ∧ KFm I I1)) := by
    refine (ex_6_0 (ex_0 (ix_42i (sh_208 hS) (ex_6_0 ?_))))
    obtain ⟨JC, eC, hEC, hfC⟩ := c_thatCan (d := d) hS hM0 hN hH
    refine (ix_46 (S' := [(.inl ((cbt ρ n cl H N : Nat) : Int))]) rfl (sh_208 hS) eC rfl rfl (ex_7_2 rfl (ex_4_1 (ex_19 (ex_1 (ex_1 ?_))))))
    have hb14 : ((0 : Int) ≤ 1 ∧ (1 : Int) ≤ 1) := by omega
    refine (ix_45 (S' := [(.inl 1)]) rfl (c_in_t hb14) rfl rfl (ex_if0 (fun hc => by exfalso; revert hc; decide) (fun _ => ?_)))
    refine (ex_4_2 ?_)
    refine ex_if1 (fun hc21 => ?_) (fun hc21 => by exfalso; omega)
    refine (ex_0 (ex_7_3 rfl (ex_0 (ex_7_4 rfl (ex_0 (ex_7_5 rfl (ex_58 ?_)))))))
    refine ex_forR (b := 4) (σ := Int × Int) (F) (fun i s => tst ρ n cl (cbt ρ n cl H N) N i s) (fun i s J => ME J ρ n cl ∧ KFm I J ∧ tsI i s) (fun i s e_i => [some (.inr (.inr (some 208))), some (.inl 1), some (.inl ((cbt ρ n cl H N : Nat) : Int)), some (.inl s.2), some (.inl s.1), some (.inl (i : Int)), (e_i 6), (e_i 7), (e_i 8)]) ?_ (F) (0) ((-1, 100000000)) (fun k_ => ([some (.inr (.inr (some 208))), some (.inl 1), some (.inl ((cbt ρ n cl H N : Nat) : Int)), some (.inl 100000000), some (.inl (-1)), some (.inl 0), none, none, none] : am_L).getD k_ none) (JC) (by omega) (⟨hEC, KFm_TFt (TFt_th hfC), Or.inl ⟨rfl, rfl⟩⟩) rfl ?_
    · intro i s e_i J hii hvi hki
      obtain ⟨hEi, hfi, hti⟩ := hvi
      have hakb := akm_b (ρ := ρ) (n := n) (cl := cl) (left := (cbt ρ n cl H N)) (f := i) (N := N)
      refine (ex_4_5 (ex_6_0 (ix_41r (sh_208 hS) (pt_208_3 hS) (ex_0 (ix_30 (j := 1) (v := (F : Int)) (sh_210 hS) (by decide) (by decide) rfl ((congrFun hEi.1 _).trans hF) ?_)))))
      refine ex_ic3 (fun hc44 => by exfalso; omega) (fun hc44 => ?_)
      refine (ex_0 (ex_7_6 rfl (ex_58 ?_)))
      refine ex_forR (b := 6) (σ := Unit) (11) (fun y t => t) (fun y t J => ME J ρ n cl ∧ (∀ j, j < y → J 233 j = 0) ∧ KFm I J) (fun y t e_y => [some (.inr (.inr (some 208))), some (.inl 1), some (.inl ((cbt ρ n cl H N : Nat) : Int)), some (.inl s.2), some (.inl s.1), some (.inl (i : Int)), some (.inl (y : Int)), (e_i 7), (e_i 8)]) ?_ (11) (0) (()) (fun k_ => ([some (.inr (.inr (some 208))), some (.inl 1), some (.inl ((cbt ρ n cl H N : Nat) : Int)), some (.inl s.2), some (.inl s.1), some (.inl (i : Int)), some (.inl 0), (e_i 7), (e_i 8)] : am_L).getD k_ none) (J) (by omega) (⟨hEi, fun j hj => absurd hj (by omega), hfi⟩) rfl ?_
      · intro y t e_y J hiy hvy hky
        obtain ⟨hEy, hzy, hfy⟩ := hvy
        refine (ex_4_6 (ex_0 ?_))
        refine ex_ic3 (fun hc54 => by exfalso; omega) (fun hc54 => ?_)
        refine (ex_6_0 (ix_41r (sh_208 hS) (pt_208_45 hS) (ex_4_6 (ex_0 (ix_34 (j := y) (sh_233 hS) (by omega) (by omega) (by omega) (ex_10_6 ⟨by omega, by omega⟩ rfl (ex_28 ?_)))))))
        exact hky (()) (fun k_ => ([some (.inr (.inr (some 208))), some (.inl 1), some (.inl ((cbt ρ n cl H N : Nat) : Int)), some (.inl s.2), some (.inl s.1), some (.inl (i : Int)), some (.inl ((y : Int) + 1)), (e_i 7), (e_i 8)] : am_L).getD k_ none) _ (rfl) (⟨ME_u233 hEy, fun t ht => (by rw [u2_at]; by_cases e : t = y; (rw [if_pos e]); (rw [if_neg e]; exact hzy t (by omega))), KFm_trans hfy KFm_w⟩)
      · intro t e_y J hsy hvy
        obtain ⟨hEy, hzy, hfy⟩ := hvy
        refine (ex_4_6 (ex_0 ?_))
        refine ex_ic3 (fun hc54 => ?_) (fun hc54 => by exfalso; omega)
        refine (ex_0 (ex_7_6 rfl (ex_0 (ex_7_7 rfl (ex_58 ?_)))))
        refine ex_forR (b := 9) (σ := (Nat → Int) × Int) (N) (fun x u => aks ρ n cl (cbt ρ n cl H N) i x u) (fun x u J => ME J ρ n cl ∧ (∀ j, j < 11 → J 233 j = u.1 j) ∧ akI x u ∧ KFm I J) (fun x u e_x => [some (.inr (.inr (some 208))), some (.inl 1), some (.inl ((cbt ρ n cl H N : Nat) : Int)), some (.inl s.2), some (.inl s.1), some (.inl (i : Int)), some (.inl u.2), some (.inl (x : Int)), (e_x 8)]) ?_ (N) (0) (((fun _ => 0), 0)) (fun k_ => ([some (.inr (.inr (some 208))), some (.inl 1), some (.inl ((cbt ρ n cl H N : Nat) : Int)), some (.inl s.2), some (.inl s.1), some (.inl (i : Int)), some (.inl 0), some (.inl 0), (e_i 8)] : am_L).getD k_ none) (J) (by omega) (⟨hEy, hzy, ⟨fun j => ⟨Int.le_refl _, Int.le_refl _⟩, Int.le_refl _, Int.le_refl _⟩, hfy⟩) rfl ?_
        · intro x u e_x J hix hvx hkx
          obtain ⟨hEx, hax, hkx_, hfx⟩ := hvx
          have hsb := sdv_b (ρ := ρ) (n := n) (cl := cl) (c := x) (f := i)
          have hk1 := hkx_.1 (sdv ρ n cl x i).toNat
          have hk2 := hkx_.2
          refine (ex_4_7 (ex_6_0 (ix_41r (sh_208 hS) (pt_208_3 hS) (ex_0 (ix_30 (j := 0) (v := (N : Int)) (sh_210 hS) (by decide) (by decide) rfl ((congrFun hEx.1 _).trans hN) ?_)))))
          refine ex_ic3 (fun hc85 => by exfalso; omega) (fun hc85 => ?_)
          refine (ex_4_2 (ex_4_7 ?_))
          by_cases hb91 : (Nat.testBit (cbt ρ n cl H N) x = true)
          · refine (ix_45 (S' := [(.inl 1)]) rfl (c_is_t (Nat.lt_trans hcbt (by decide)) (by omega) hb91) rfl rfl (ex_if0 (fun hc => by exfalso; revert hc; decide) (fun _ => ?_)))
            by_cases hb : m_bar ρ n cl x i
            · refine (ex_6_0 (ex_4_7 (ex_4_5 ?_)))
              obtain ⟨K, eK, fK⟩ := c_isBarred_t (d := d + 1) hS hEx (c := x) (f := i) (by omega) (by omega) hb
              refine (ix_46 (S' := [(.inl 1)]) rfl (sh_208 hS) eK rfl rfl (ex_if0 (fun hc => by exfalso; revert hc; decide) (fun _ => ?_)))
              refine (ex_0 (ex_28 ?_))
              have hsd : (10 : Int) = ((sdv ρ n cl x i).toNat : Int) := by rw [Int.toNat_of_nonneg sdv_b.1]; first | exact (sdv_t hb).symm | exact (sdv_f hb).symm
              rw [hsd]
              refine (ex_7_8 rfl (ex_6_0 (ix_41r (sh_208 hS) (pt_208_45 hS) (ex_4_8 (ex_23 rfl (ix_30 (j := (sdv ρ n cl x i).toNat) (v := (u.1 (sdv ρ n cl x i).toNat)) (sh_233 hS) (by omega) (by omega) (by omega) (((fK _ _ (by decide) (by decide) (by omega))).trans (hax _ (by omega))) (ex_0 (ex_add ⟨by omega, by omega⟩ (ix_34 (j := (sdv ρ n cl x i).toNat) (sh_233 hS) (by omega) (by omega) (by omega) (ex_6_0 (ix_41r (sh_208 hS) (pt_208_45 hS) (ex_4_8 (ix_30 (j := (sdv ρ n cl x i).toNat) (v := ((u.1 (sdv ρ n cl x i).toNat) + 1)) (sh_233 hS) (by omega) (by omega) (by omega) u2_e (ex_4_6 ?_))))))))))))))
              refine ex_ic5 (fun hc143 => ?_) (fun hc143 => ?_)
              · refine (ex_4_6 (ex_58 (ex_7_6 rfl (ex_58 (ex_10_7 ⟨by omega, by omega⟩ rfl (ex_28 ?_))))))
                have hmx : mxi u.2 (u.1 (sdv ρ n cl x i).toNat + 1) = u.2 := by unfold mxi; first | (rw [if_pos (by omega)]; done) | (rw [if_neg (by omega)]; done) | (split <;> omega)
                exact hkx ((am_u1 u.1 (sdv ρ n cl x i).toNat (u.1 (sdv ρ n cl x i).toNat + 1), u.2)) (fun k_ => ([some (.inr (.inr (some 208))), some (.inl 1), some (.inl ((cbt ρ n cl H N : Nat) : Int)), some (.inl s.2), some (.inl s.1), some (.inl (i : Int)), some (.inl u.2), some (.inl ((x : Int) + 1)), some (.inl ((sdv ρ n cl x i).toNat : Int))] : am_L).getD k_ none) _ ((by unfold aks; rw [if_pos hb91, hmx])) (⟨ME_u233 (ME_TF hEx fK), fun j hj => (by rw [u2_at]; show _ = am_u1 u.1 _ _ j; unfold am_u1; by_cases e : j = (sdv ρ n cl x i).toNat; (rw [if_pos e, if_pos e]); (rw [if_neg e, if_neg e, (fK : TF J K) _ _ (by decide) (by decide) (by omega)]; exact hax j hj)), (by have h := akI_s (ρ := ρ) (n := n) (cl := cl) (left := (cbt ρ n cl H N)) (f := i) hkx_; unfold aks at h; rw [if_pos hb91, hmx] at h; exact h), KFm_trans hfx (KFm_trans (KFm_TF fK) KFm_w)⟩)
              · refine (ex_6_0 (ix_41r (sh_208 hS) (pt_208_45 hS) (ex_4_8 (ix_30 (j := (sdv ρ n cl x i).toNat) (v := ((u.1 (sdv ρ n cl x i).toNat) + 1)) (sh_233 hS) (by omega) (by omega) (by omega) u2_e (ex_28 (ex_7_6 rfl (ex_58 (ex_10_7 ⟨by omega, by omega⟩ rfl (ex_28 ?_)))))))))
                have hmx : mxi u.2 (u.1 (sdv ρ n cl x i).toNat + 1) = ((u.1 (sdv ρ n cl x i).toNat) + 1) := by unfold mxi; first | (rw [if_pos (by omega)]; done) | (rw [if_neg (by omega)]; done) | (split <;> omega)
                exact hkx ((am_u1 u.1 (sdv ρ n cl x i).toNat (u.1 (sdv ρ n cl x i).toNat + 1), ((u.1 (sdv ρ n cl x i).toNat) + 1))) (fun k_ => ([some (.inr (.inr (some 208))), some (.inl 1), some (.inl ((cbt ρ n cl H N : Nat) : Int)), some (.inl s.2), some (.inl s.1), some (.inl (i : Int)), some (.inl ((u.1 (sdv ρ n cl x i).toNat) + 1)), some (.inl ((x : Int) + 1)), some (.inl ((sdv ρ n cl x i).toNat : Int))] : am_L).getD k_ none) _ ((by unfold aks; rw [if_pos hb91, hmx])) (⟨ME_u233 (ME_TF hEx fK), fun j hj => (by rw [u2_at]; show _ = am_u1 u.1 _ _ j; unfold am_u1; by_cases e : j = (sdv ρ n cl x i).toNat; (rw [if_pos e, if_pos e]); (rw [if_neg e, if_neg e, (fK : TF J K) _ _ (by decide) (by decide) (by omega)]; exact hax j hj)), (by have h := akI_s (ρ := ρ) (n := n) (cl := cl) (left := (cbt ρ n cl H N)) (f := i) hkx_; unfold aks at h; rw [if_pos hb91, hmx] at h; exact h), KFm_trans hfx (KFm_trans (KFm_TF fK) KFm_w)⟩)
            · refine (ex_6_0 (ex_4_7 (ex_4_5 ?_)))
              obtain ⟨K, eK, fK⟩ := c_isBarred_f (d := d + 1) hS hEx (c := x) (f := i) (by omega) (by omega) hb
              refine (ix_46 (S' := [(.inl 0)]) rfl (sh_208 hS) eK rfl rfl (ex_if0 (fun _ => ?_) (fun hc => by exfalso; revert hc; decide)))
              refine (ex_6_0 (ex_4_7 (ex_4_5 ?_)))
              obtain ⟨Q_, eQ, fQ⟩ := c_toldBy (d := d + 1) hS (ME_TF hEx fK) (c := x) (f := i) (by omega) (by omega)
              refine (ix_46 (S' := [(.inl (m_told ρ n cl x i))]) rfl (sh_208 hS) eQ rfl rfl (ex_58 ?_))
              have hsd : ((m_told ρ n cl x i) : Int) = ((sdv ρ n cl x i).toNat : Int) := by rw [Int.toNat_of_nonneg sdv_b.1]; first | exact (sdv_t hb).symm | exact (sdv_f hb).symm
              rw [hsd]
              refine (ex_7_8 rfl (ex_6_0 (ix_41r (sh_208 hS) (pt_208_45 hS) (ex_4_8 (ex_23 rfl (ix_30 (j := (sdv ρ n cl x i).toNat) (v := (u.1 (sdv ρ n cl x i).toNat)) (sh_233 hS) (by omega) (by omega) (by omega) (((fQ _ _ (by decide) (by decide) (by omega))).trans (((fK _ _ (by decide) (by decide) (by omega))).trans (hax _ (by omega)))) (ex_0 (ex_add ⟨by omega, by omega⟩ (ix_34 (j := (sdv ρ n cl x i).toNat) (sh_233 hS) (by omega) (by omega) (by omega) (ex_6_0 (ix_41r (sh_208 hS) (pt_208_45 hS) (ex_4_8 (ix_30 (j := (sdv ρ n cl x i).toNat) (v := ((u.1 (sdv ρ n cl x i).toNat) + 1)) (sh_233 hS) (by omega) (by omega) (by omega) u2_e (ex_4_6 ?_))))))))))))))
              refine ex_ic5 (fun hc143 => ?_) (fun hc143 => ?_)
              · refine (ex_4_6 (ex_58 (ex_7_6 rfl (ex_58 (ex_10_7 ⟨by omega, by omega⟩ rfl (ex_28 ?_))))))
                have hmx : mxi u.2 (u.1 (sdv ρ n cl x i).toNat + 1) = u.2 := by unfold mxi; first | (rw [if_pos (by omega)]; done) | (rw [if_neg (by omega)]; done) | (split <;> omega)
                exact hkx ((am_u1 u.1 (sdv ρ n cl x i).toNat (u.1 (sdv ρ n cl x i).toNat + 1), u.2)) (fun k_ => ([some (.inr (.inr (some 208))), some (.inl 1), some (.inl ((cbt ρ n cl H N : Nat) : Int)), some (.inl s.2), some (.inl s.1), some (.inl (i : Int)), some (.inl u.2), some (.inl ((x : Int) + 1)), some (.inl ((sdv ρ n cl x i).toNat : Int))] : am_L).getD k_ none) _ ((by unfold aks; rw [if_pos hb91, hmx])) (⟨ME_u233 (ME_TF hEx (TF_trans fK fQ)), fun j hj => (by rw [u2_at]; show _ = am_u1 u.1 _ _ j; unfold am_u1; by_cases e : j = (sdv ρ n cl x i).toNat; (rw [if_pos e, if_pos e]); (rw [if_neg e, if_neg e, ((TF_trans fK fQ) : TF J Q_) _ _ (by decide) (by decide) (by omega)]; exact hax j hj)), (by have h := akI_s (ρ := ρ) (n := n) (cl := cl) (left := (cbt ρ n cl H N)) (f := i) hkx_; unfold aks at h; rw [if_pos hb91, hmx] at h; exact h), KFm_trans hfx (KFm_trans (KFm_TF (TF_trans fK fQ)) KFm_w)⟩)
              · refine (ex_6_0 (ix_41r (sh_208 hS) (pt_208_45 hS) (ex_4_8 (ix_30 (j := (sdv ρ n cl x i).toNat) (v := ((u.1 (sdv ρ n cl x i).toNat) + 1)) (sh_233 hS) (by omega) (by omega) (by omega) u2_e (ex_28 (ex_7_6 rfl (ex_58 (ex_10_7 ⟨by omega, by omega⟩ rfl (ex_28 ?_)))))))))
                have hmx : mxi u.2 (u.1 (sdv ρ n cl x i).toNat + 1) = ((u.1 (sdv ρ n cl x i).toNat) + 1) := by unfold mxi; first | (rw [if_pos (by omega)]; done) | (rw [if_neg (by omega)]; done) | (split <;> omega)
                exact hkx ((am_u1 u.1 (sdv ρ n cl x i).toNat (u.1 (sdv ρ n cl x i).toNat + 1), ((u.1 (sdv ρ n cl x i).toNat) + 1))) (fun k_ => ([some (.inr (.inr (some 208))), some (.inl 1), some (.inl ((cbt ρ n cl H N : Nat) : Int)), some (.inl s.2), some (.inl s.1), some (.inl (i : Int)), some (.inl ((u.1 (sdv ρ n cl x i).toNat) + 1)), some (.inl ((x : Int) + 1)), some (.inl ((sdv ρ n cl x i).toNat : Int))] : am_L).getD k_ none) _ ((by unfold aks; rw [if_pos hb91, hmx])) (⟨ME_u233 (ME_TF hEx (TF_trans fK fQ)), fun j hj => (by rw [u2_at]; show _ = am_u1 u.1 _ _ j; unfold am_u1; by_cases e : j = (sdv ρ n cl x i).toNat; (rw [if_pos e, if_pos e]); (rw [if_neg e, if_neg e, ((TF_trans fK fQ) : TF J Q_) _ _ (by decide) (by decide) (by omega)]; exact hax j hj)), (by have h := akI_s (ρ := ρ) (n := n) (cl := cl) (left := (cbt ρ n cl H N)) (f := i) hkx_; unfold aks at h; rw [if_pos hb91, hmx] at h; exact h), KFm_trans hfx (KFm_trans (KFm_TF (TF_trans fK fQ)) KFm_w)⟩)
          · refine (ix_45 (S' := [(.inl 0)]) rfl (c_is_f (Nat.lt_trans hcbt (by decide)) (by omega) hb91) rfl rfl (ex_if0 (fun _ => ?_) (fun hc => by exfalso; revert hc; decide)))
            refine (ex_10_7 ⟨by omega, by omega⟩ rfl (ex_28 ?_))
            exact hkx (u) (fun k_ => ([some (.inr (.inr (some 208))), some (.inl 1), some (.inl ((cbt ρ n cl H N : Nat) : Int)), some (.inl s.2), some (.inl s.1), some (.inl (i : Int)), some (.inl u.2), some (.inl ((x : Int) + 1)), (e_x 8)] : am_L).getD k_ none) _ ((by unfold aks; rw [if_neg hb91])) (⟨hEx, hax, (by have h := akI_s (ρ := ρ) (n := n) (cl := cl) (left := (cbt ρ n cl H N)) (f := i) hkx_; unfold aks at h; rw [if_neg hb91] at h; exact h), hfx⟩)
        · intro u e_x J hsx hvx
          obtain ⟨hEx, hax, hkx_, hfx⟩ := hvx
          have hak : u.2 = akm ρ n cl (cbt ρ n cl H N) N i := by rw [hsx]; rfl
          refine (ex_4_7 (ex_6_0 (ix_41r (sh_208 hS) (pt_208_3 hS) (ex_0 (ix_30 (j := 0) (v := (N : Int)) (sh_210 hS) (by decide) (by decide) rfl ((congrFun hEx.1 _).trans hN) ?_)))))
          refine ex_ic3 (fun hc85 => ?_) (fun hc85 => by exfalso; omega)
          refine (ex_4_6 (ex_4_3 ?_))
          refine ex_ic3 (fun hc169 => ?_) (fun hc169 => ?_)
          · refine (ex_4_4 (ex_58 (ex_7_4 rfl (ex_4_6 (ex_4_3 ?_)))))
            refine ex_ic3 (fun hc184 => ?_) (fun hc184 => ?_)
            · refine (ex_4_3 (ex_58 (ex_7_3 rfl (ex_10_5 ⟨by omega, by omega⟩ rfl (ex_28 ?_)))))
              exact hki (s) (fun k_ => ([some (.inr (.inr (some 208))), some (.inl 1), some (.inl ((cbt ρ n cl H N : Nat) : Int)), some (.inl s.2), some (.inl s.1), some (.inl ((i : Int) + 1)), some (.inl u.2), some (.inl ((N) : Int)), (e_x 8)] : am_L).getD k_ none) _ ((by show s = tst ρ n cl (cbt ρ n cl H N) N i s; unfold tst; first | (rw [if_pos (by omega), ← hak]; done) | (rw [if_neg (by omega)]; done) | (exfalso; omega))) (⟨hEx, hfx, (by have h := tsI_s (ρ := ρ) (n := n) (cl := cl) (left := (cbt ρ n cl H N)) hN6 hti; rw [show tst ρ n cl (cbt ρ n cl H N) N i s = s from Eq.symm (by show s = tst ρ n cl (cbt ρ n cl H N) N i s; unfold tst; first | (rw [if_pos (by omega), ← hak]; done) | (rw [if_neg (by omega)]; done) | (exfalso; omega))] at h; exact h)⟩)
            · refine (ex_4_6 (ex_28 (ex_7_3 rfl (ex_10_5 ⟨by omega, by omega⟩ rfl (ex_28 ?_)))))
              exact hki ((s.1, u.2)) (fun k_ => ([some (.inr (.inr (some 208))), some (.inl 1), some (.inl ((cbt ρ n cl H N : Nat) : Int)), some (.inl u.2), some (.inl s.1), some (.inl ((i : Int) + 1)), some (.inl u.2), some (.inl ((N) : Int)), (e_x 8)] : am_L).getD k_ none) _ ((by show (s.1, u.2) = tst ρ n cl (cbt ρ n cl H N) N i s; unfold tst; first | (rw [if_pos (by omega), ← hak]; done) | (rw [if_neg (by omega)]; done) | (exfalso; omega))) (⟨hEx, hfx, (by have h := tsI_s (ρ := ρ) (n := n) (cl := cl) (left := (cbt ρ n cl H N)) hN6 hti; rw [show tst ρ n cl (cbt ρ n cl H N) N i s = (s.1, u.2) from Eq.symm (by show (s.1, u.2) = tst ρ n cl (cbt ρ n cl H N) N i s; unfold tst; first | (rw [if_pos (by omega), ← hak]; done) | (rw [if_neg (by omega)]; done) | (exfalso; omega))] at h; exact h)⟩)
          · refine (ex_4_5 (ex_28 (ex_7_4 rfl (ex_4_6 (ex_4_3 ?_)))))
            refine ex_ic3 (fun hc184 => ?_) (fun hc184 => ?_)
            · refine (ex_4_3 (ex_58 (ex_7_3 rfl (ex_10_5 ⟨by omega, by omega⟩ rfl (ex_28 ?_)))))
              exact hki (((i : Int), s.2)) (fun k_ => ([some (.inr (.inr (some 208))), some (.inl 1), some (.inl ((cbt ρ n cl H N : Nat) : Int)), some (.inl s.2), some (.inl (i : Int)), some (.inl ((i : Int) + 1)), some (.inl u.2), some (.inl ((N) : Int)), (e_x 8)] : am_L).getD k_ none) _ ((by show ((i : Int), s.2) = tst ρ n cl (cbt ρ n cl H N) N i s; unfold tst; first | (rw [if_pos (by omega), ← hak]; done) | (rw [if_neg (by omega)]; done) | (exfalso; omega))) (⟨hEx, hfx, (by have h := tsI_s (ρ := ρ) (n := n) (cl := cl) (left := (cbt ρ n cl H N)) hN6 hti; rw [show tst ρ n cl (cbt ρ n cl H N) N i s = ((i : Int), s.2) from Eq.symm (by show ((i : Int), s.2) = tst ρ n cl (cbt ρ n cl H N) N i s; unfold tst; first | (rw [if_pos (by omega), ← hak]; done) | (rw [if_neg (by omega)]; done) | (exfalso; omega))] at h; exact h)⟩)
            · refine (ex_4_6 (ex_28 (ex_7_3 rfl (ex_10_5 ⟨by omega, by omega⟩ rfl (ex_28 ?_)))))
              exact hki (((i : Int), u.2)) (fun k_ => ([some (.inr (.inr (some 208))), some (.inl 1), some (.inl ((cbt ρ n cl H N : Nat) : Int)), some (.inl u.2), some (.inl (i : Int)), some (.inl ((i : Int) + 1)), some (.inl u.2), some (.inl ((N) : Int)), (e_x 8)] : am_L).getD k_ none) _ ((by show ((i : Int), u.2) = tst ρ n cl (cbt ρ n cl H N) N i s; unfold tst; first | (rw [if_pos (by omega), ← hak]; done) | (rw [if_neg (by omega)]; done) | (exfalso; omega))) (⟨hEx, hfx, (by have h := tsI_s (ρ := ρ) (n := n) (cl := cl) (left := (cbt ρ n cl H N)) hN6 hti; rw [show tst ρ n cl (cbt ρ n cl H N) N i s = ((i : Int), u.2) from Eq.symm (by show ((i : Int), u.2) = tst ρ n cl (cbt ρ n cl H N) N i s; unfold tst; first | (rw [if_pos (by omega), ← hak]; done) | (rw [if_neg (by omega)]; done) | (exfalso; omega))] at h; exact h)⟩)
    · intro s e_i J hsi hvi
      obtain ⟨hEi, hfi, hti⟩ := hvi
      refine (ex_4_5 (ex_6_0 (ix_41r (sh_208 hS) (pt_208_3 hS) (ex_0 (ix_30 (j := 1) (v := (F : Int)) (sh_210 hS) (by decide) (by decide) rfl ((congrFun hEi.1 _).trans hF) ?_)))))
      refine ex_ic3 (fun hc44 => ?_) (fun hc44 => by exfalso; omega)
      refine (ex_4_4 (ex_0 ?_))
      refine ex_ic0 (fun hc203 => ?_) (fun hc203 => ?_)
      · refine (ex_4_4 (ex_28 ?_))
        exact ex_53 ⟨_, by rw [show tsk ρ n cl (cbt ρ n cl H N) N F = s from hsi.symm]; unfold fwv; first | (rw [if_pos (by omega)]; done) | (rw [if_neg (by omega)]; done) | (rw [if_pos (by omega)]; exact congrArg (fun x => (some (Sum.inl x), G, J, P)) (by omega)), hEi, hfi⟩
      · refine (ex_4_1 (ex_if1 (fun _ => ?_) (fun hc => by exfalso; revert hc; decide)))
        refine (ex_4_3 (ex_58 ?_))
        exact ex_53 ⟨_, by rw [show tsk ρ n cl (cbt ρ n cl H N) N F = s from hsi.symm]; unfold fwv; first | (rw [if_pos (by omega)]; done) | (rw [if_neg (by omega)]; done) | (rw [if_pos (by omega)]; exact congrArg (fun x => (some (Sum.inl x), G, J, P)) (by omega)), hEi, hfi⟩
  obtain ⟨o, e, I1, rfl, h⟩ := am_doQ (as := [(.inr (.inr (some 208))), (.inl 1)]) (Nat.le_of_ble_eq_true rfl) rfl w
  exact ⟨I1, e, h⟩
