/-! ===== the class: few ===== -/
theorem k_fewc {d : Nat} {G : am_G} {I : Nat → Nat → Int} {P : Nat → Nat → Option Nat} (hS : ST G P) {k n : Nat} {fd : Int} (hk : 1 ≤ k ∧ k ≤ 20) (hn : n ≤ 99) (h6 : I 80 1 = fd) (hfd : 0 ≤ fd ∧ fd ≤ 10) : am_call am_B am_M (d + 2) 143 [(.inr (.inr (some 64))), (.inl (k : Int)), (.inl (n : Int))] (G, I, P) = some (some (.inr (.inl (am_it (fun i v => v + (kfew fd k n (I 172)) i) k 0 0))), (G, am_u1 I 172 (kfew fd k n (I 172)), P)) := by
  refine am_doL (L := [some (.inr (.inr (some 64))), some (.inl (k : Int)), some (.inl (n : Int)), none, none, none, none, none]) (Nat.le_of_ble_eq_true rfl) rfl ?_
  refine (ex_4_1 (ex_0 ?_))
  refine ex_ic2 (fun hc2 => by exfalso; omega) (fun hc2 => ?_)
  refine (ex_4_1 (ex_0 ?_))
  refine ex_ic4 (fun hc8 => by exfalso; omega) (fun hc8 => ?_)
  refine (ex_4_2 (ex_0 ?_))
  have hb14 : ((0 : Int) ≤ (n : Int) ∧ ((n : Int) : Int) ≤ 99) := by omega
  refine (ix_45 (S' := [(.inl 1)]) rfl (k_isWithin_t hb14) rfl rfl (ex_if1 (fun _ => ?_) (fun hc => by exfalso; revert hc; decide)))
  refine (ex_6_0 (ix_41r (sh_64 hS) (pt_64_0 hS) (ix_41r (sh_65 hS) (pt_65_14 hS) (ex_0 (ix_30 (j := 1) (v := fd) (sh_80 hS) (by decide) (by decide) rfl h6 (ex_7_3 rfl (ex_0 (ex_7_4 rfl (ex_58 ?_)))))))))
  refine ex_forH (b := 5) (σ := Nat → Int) (k) (fun i p_0 => m_f0 i p_0) (fun i p_0 => True) (fun i p_0 e_i => [some (.inr (.inr (some 64))), some (.inl (k : Int)), some (.inl (n : Int)), some (.inl fd), some (.inl (i : Int)), none, none, none]) (fun i p_0 => (G, (am_u1 I 172 p_0), P)) ?_ ?_ (k) (0) ((I 172)) (fun k_ => ([some (.inr (.inr (some 64))), some (.inl (k : Int)), some (.inl (n : Int)), some (.inl fd), some (.inl 0), none, none, none] : am_L).getD k_ none) (by omega) (trivial) rfl (congrArg (fun J => (G, J, P)) u1_self.symm) ?_
  · intro i p_0 hii hvi
    exact trivial
  · intro i p_0 e_i hii hvi p_0' hsi hki
    refine (ex_4_4 (ex_4_1 ?_))
    refine ex_ic3 (fun hc40 => by exfalso; omega) (fun hc40 => ?_)
    refine (ex_6_0 (ix_41r (sh_64 hS) (pt_64_11 hS) (ex_4_4 (ex_4_4 ?_))))
    refine ex_if1 (fun hc51 => ?_) (fun hc51 => ?_)
    · refine (ex_1 (ex_58 (ix_36 (j := i) (sh_172 hS) (by omega) (by omega) (by omega) (ex_10_4 ⟨by omega, by omega⟩ rfl (ex_28 ?_)))))
      rw [u2_u1]
      rw [hsi.trans (congrArg (am_u1 p_0 i) (if_neg (by omega)))] at hki
      exact hki (fun k_ => ([some (.inr (.inr (some 64))), some (.inl (k : Int)), some (.inl (n : Int)), some (.inl fd), some (.inl ((i : Int) + 1)), none, none, none] : am_L).getD k_ none)
    · refine (ex_1 (ex_28 (ix_36 (j := i) (sh_172 hS) (by omega) (by omega) (by omega) (ex_10_4 ⟨by omega, by omega⟩ rfl (ex_28 ?_)))))
      rw [u2_u1]
      rw [hsi.trans (congrArg (am_u1 p_0 i) (if_pos (by omega)))] at hki
      exact hki (fun k_ => ([some (.inr (.inr (some 64))), some (.inl (k : Int)), some (.inl (n : Int)), some (.inl fd), some (.inl ((i : Int) + 1)), none, none, none] : am_L).getD k_ none)
  · intro p_0 e_i hsi hvi
    have hvp : kfw k p_0 := by rw [hsi]; exact kf0_w
    refine (ex_4_4 (ex_4_1 ?_))
    refine ex_ic3 (fun hc40 => ?_) (fun hc40 => by exfalso; omega)
    refine (ex_0 (ex_7_4 rfl (ex_58 ?_)))
    refine ex_forH (b := 11) (σ := Nat → Int) (n) (fun m p_m => kf2 fd k p_m) (fun m p_m => kfw k p_m) (fun m p_m e_m => [some (.inr (.inr (some 64))), some (.inl (k : Int)), some (.inl (n : Int)), some (.inl fd), some (.inl (m : Int)), (e_m 5), (e_m 6), (e_m 7)]) (fun m p_m => (G, (am_u1 I 172 p_m), P)) ?_ ?_ (n) (0) (p_0) (fun k_ => ([some (.inr (.inr (some 64))), some (.inl (k : Int)), some (.inl (n : Int)), some (.inl fd), some (.inl 0), none, none, none] : am_L).getD k_ none) (by omega) (hvp) rfl (rfl) ?_
    · intro m p_m him hvm
      exact kf2_w hfd hvm
    · intro m p_m e_m him hvm p_m' hsm hkm
      have hvm : kfw k p_m := hvm
      refine (ex_4_4 (ex_4_2 ?_))
      refine ex_ic3 (fun hc74 => by exfalso; omega) (fun hc74 => ?_)
      refine (ex_4_1 (ex_0 (ex_11e (v := ((k : Int) - 1 - ((0 : Nat) : Int))) ((am_sub ⟨by omega, by omega⟩).trans (by omega)) (ex_7_5 rfl (ex_58 ?_)))))
      refine ex_forH (b := 13) (σ := Nat → Int) (k) (fun j p_j => kf1 fd (k - 1 - j) p_j) (fun j p_j => kfw k p_j) (fun j p_j e_j => [some (.inr (.inr (some 64))), some (.inl (k : Int)), some (.inl (n : Int)), some (.inl fd), some (.inl (m : Int)), some (.inl ((k : Int) - 1 - (j : Int))), (e_j 6), (e_j 7)]) (fun j p_j => (G, (am_u1 I 172 p_j), P)) ?_ ?_ (k) (0) (p_m) (fun k_ => ([some (.inr (.inr (some 64))), some (.inl (k : Int)), some (.inl (n : Int)), some (.inl fd), some (.inl (m : Int)), some (.inl ((k : Int) - 1 - ((0 : Nat) : Int))), (e_m 6), (e_m 7)] : am_L).getD k_ none) (by omega) (hvm) rfl (rfl) ?_
      · intro j p_j hij hvj
        exact kf1_w hfd (by omega) hvj
      · intro j p_j e_j hij hvj p_j' hsj hkj
        have hvj : kfw k p_j := hvj
        have hd := m_f_div (hvj (k - 1 - j) (by omega)) hfd
        have hd1 := m_f_div (hvj (k - 1 - j - 1) (by omega)) hfd
        refine (ex_4_5 ?_)
        refine ex_if2 (fun hc84 => by exfalso; omega) (fun hc84 => ?_)
        refine (ex_4_5 ?_)
        refine ex_if1 (fun hc89 => ?_) (fun hc89 => ?_)
        · refine (ex_6_0 (ix_41r (sh_64 hS) (pt_64_11 hS) (ex_4_5 (ex_0 (ex_11e (v := ((k - 1 - j - 1 : Nat) : Int)) ((am_sub ⟨by omega, by omega⟩).trans (by omega)) (ix_32 (j := (k - 1 - j - 1)) (v := (p_j (k - 1 - j - 1))) (sh_172 hS) (by omega) (by omega) (by omega) (congrFun u1_e _) (ex_4_3 (ex_19 (ex_lmul ⟨by omega, by omega⟩ (ex_1 (ex_16 (v := (p_j (k - 1 - j - 1) * fd / 10)) (by decide) (am_d8q (by omega) (by decide) (by omega) (by decide)) (ex_58 (ex_8_6 rfl (ex_6_0 (ix_41r (sh_64 hS) (pt_64_11 hS) (ex_4_5 (ex_6_0 (ix_41r (sh_64 hS) (pt_64_11 hS) (ex_4_5 (ix_32 (j := (k - 1 - j)) (v := (p_j (k - 1 - j))) (sh_172 hS) (by omega) (by omega) (by omega) (congrFun u1_e _) (ex_0 (ex_4_3 (ex_sub ⟨by omega, by omega⟩ (ex_19 (ex_lmul ⟨by omega, by omega⟩ (ex_1 (ex_16 (v := (p_j (k - 1 - j) * (10 - fd) / 10)) (by decide) (am_d8q (by omega) (by decide) (by omega) (by decide)) (ex_5_6 (ex_ladd ⟨by omega, by omega⟩ (ix_36 (j := (k - 1 - j)) (sh_172 hS) (by omega) (by omega) (by omega) (ex_10_5 ⟨by omega, by omega⟩ rfl ?_)))))))))))))))))))))))))))))))
          rw [show (((k : Int) - 1 - (j : Int)) + (-1)) = ((k : Int) - 1 - ((j + 1 : Nat) : Int)) from by omega]
          refine (ex_28 ?_)
          rw [u2_u1]
          rw [hsj.trans (congrArg (am_u1 p_j (k - 1 - j)) (congrArg (fun z => p_j (k - 1 - j) * (10 - fd) / 10 + z) (if_neg (by omega))))] at hkj
          exact hkj (fun k_ => ([some (.inr (.inr (some 64))), some (.inl (k : Int)), some (.inl (n : Int)), some (.inl fd), some (.inl (m : Int)), some (.inl ((k : Int) - 1 - ((j + 1 : Nat) : Int))), some (.inr (.inl (p_j (k - 1 - j - 1) * fd / 10))), none] : am_L).getD k_ none)
        · refine (ex_1 (ex_28 (ex_8_6 rfl (ex_6_0 (ix_41r (sh_64 hS) (pt_64_11 hS) (ex_4_5 (ex_6_0 (ix_41r (sh_64 hS) (pt_64_11 hS) (ex_4_5 (ix_32 (j := (k - 1 - j)) (v := (p_j (k - 1 - j))) (sh_172 hS) (by omega) (by omega) (by omega) (congrFun u1_e _) (ex_0 (ex_4_3 (ex_sub ⟨by omega, by omega⟩ (ex_19 (ex_lmul ⟨by omega, by omega⟩ (ex_1 (ex_16 (v := (p_j (k - 1 - j) * (10 - fd) / 10)) (by decide) (am_d8q (by omega) (by decide) (by omega) (by decide)) (ex_5_6 (ex_ladd ⟨by omega, by omega⟩ (ix_36 (j := (k - 1 - j)) (sh_172 hS) (by omega) (by omega) (by omega) (ex_10_5 ⟨by omega, by omega⟩ rfl ?_)))))))))))))))))))))
          rw [show (((k : Int) - 1 - (j : Int)) + (-1)) = ((k : Int) - 1 - ((j + 1 : Nat) : Int)) from by omega]
          refine (ex_28 ?_)
          rw [u2_u1]
          rw [hsj.trans (congrArg (am_u1 p_j (k - 1 - j)) (congrArg (fun z => p_j (k - 1 - j) * (10 - fd) / 10 + z) (if_pos (by omega))))] at hkj
          exact hkj (fun k_ => ([some (.inr (.inr (some 64))), some (.inl (k : Int)), some (.inl (n : Int)), some (.inl fd), some (.inl (m : Int)), some (.inl ((k : Int) - 1 - ((j + 1 : Nat) : Int))), some (.inr (.inl 0)), none] : am_L).getD k_ none)
      · intro p_j e_j hsj hvj
        refine (ex_4_5 ?_)
        refine ex_if2 (fun hc84 => ?_) (fun hc84 => by exfalso; omega)
        refine (ex_10_4 ⟨by omega, by omega⟩ rfl (ex_28 ?_))
        rw [hsm.trans hsj.symm] at hkm
        exact hkm (fun k_ => ([some (.inr (.inr (some 64))), some (.inl (k : Int)), some (.inl (n : Int)), some (.inl fd), some (.inl ((m : Int) + 1)), some (.inl ((k : Int) - 1 - ((k) : Int))), (e_j 6), (e_j 7)] : am_L).getD k_ none)
    · intro p_m e_m hsm hvm
      refine (ex_4_4 (ex_4_2 ?_))
      refine ex_ic3 (fun hc74 => ?_) (fun hc74 => by exfalso; omega)
      refine (ex_1 (ex_8_4 rfl (ex_0 (ex_7_6 rfl (ex_58 ?_)))))
      refine ex_forH (b := 20) (σ := Int) (k) (fun x v => v + p_m x) (fun x v => 0 ≤ v ∧ v ≤ 1000000000000 * (x : Int)) (fun x v e_x => [some (.inr (.inr (some 64))), some (.inl (k : Int)), some (.inl (n : Int)), some (.inl fd), some (.inr (.inl v)), (e_x 5), some (.inl (x : Int)), (e_x 7)]) (fun x v => (G, (am_u1 I 172 p_m), P)) ?_ ?_ (k) (0) (0) (fun k_ => ([some (.inr (.inr (some 64))), some (.inl (k : Int)), some (.inl (n : Int)), some (.inl fd), some (.inr (.inl 0)), none, some (.inl 0), (e_m 7)] : am_L).getD k_ none) (by omega) (⟨by decide, by decide⟩) rfl (rfl) ?_
      · intro x v hix hvx
        have := hvm x hix
        have hvx : 0 ≤ v ∧ v ≤ 1000000000000 * (x : Int) := hvx
        show 0 ≤ v + p_m x ∧ v + p_m x ≤ 1000000000000 * ((x + 1 : Nat) : Int)
        omega
      · intro x v e_x hix hvx v' hsx hkx
        have hq := hvm x hix
        have hvx : 0 ≤ v ∧ v ≤ 1000000000000 * (x : Int) := hvx
        refine (ex_4_6 (ex_4_1 ?_))
        refine ex_ic3 (fun hc162 => by exfalso; omega) (fun hc162 => ?_)
        refine (ex_5_4 (ex_6_0 (ix_41r (sh_64 hS) (pt_64_11 hS) (ex_4_6 (ix_32 (j := x) (v := (p_m x)) (sh_172 hS) (by omega) (by omega) (by omega) (congrFun u1_e _) (ex_ladd ⟨by omega, by omega⟩ (ex_8_4 rfl (ex_10_6 ⟨by omega, by omega⟩ rfl (ex_28 ?_)))))))))
        rw [hsx] at hkx
        exact hkx (fun k_ => ([some (.inr (.inr (some 64))), some (.inl (k : Int)), some (.inl (n : Int)), some (.inl fd), some (.inr (.inl (v + (p_m x)))), none, some (.inl ((x : Int) + 1)), (e_x 7)] : am_L).getD k_ none)
      · intro v e_x hsx hvx
        refine (ex_4_6 (ex_4_1 ?_))
        refine ex_ic3 (fun hc162 => ?_) (fun hc162 => by exfalso; omega)
        refine (ex_5_4 ?_)
        exact ex_54 (by rw [hsx, show p_m = kfew fd k n (I 172) from by rw [hsm, hsi]; rfl])
theorem k_few_b {d : Nat} {G : am_G} {I : Nat → Nat → Int} {P : Nat → Nat → Option Nat} {k n : Int} (hb : ¬ ((1 ≤ k ∧ k ≤ 20) ∧ (0 ≤ n ∧ n ≤ 99))) : am_call am_B am_M (d + 2) 143 [(.inr (.inr (some 64))), (.inl k), (.inl n)] (G, I, P) = some (some (.inr (.inl (-1))), (G, I, P)) := by
  refine am_doL (L := [some (.inr (.inr (some 64))), some (.inl k), some (.inl n), none, none, none, none, none]) (Nat.le_of_ble_eq_true rfl) rfl ?_
  refine (ex_4_1 (ex_0 ?_))
  refine ex_ic2 (fun hc2 => ?_) (fun hc2 => ?_)
  · refine (ex_1 ?_)
    exact ex_54 rfl
  · refine (ex_4_1 (ex_0 ?_))
    refine ex_ic4 (fun hc8 => ?_) (fun hc8 => ?_)
    · refine (ex_1 ?_)
      exact ex_54 rfl
    · refine (ex_4_2 (ex_0 ?_))
      have hb14 : ¬ (((0 : Int) ≤ n ∧ (n : Int) ≤ 99)) := by omega
      refine (ix_45 (S' := [(.inl 0)]) rfl (k_isWithin_f hb14) rfl rfl (ex_if1 (fun hc => by exfalso; revert hc; decide) (fun _ => ?_)))
      refine (ex_1 ?_)
      exact ex_54 rfl
