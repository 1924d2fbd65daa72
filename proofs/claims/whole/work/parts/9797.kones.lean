/-! ===== the class: orders are run ===== -/
theorem OF_v {F : Nat → Int} {z : Nat} {x : Int} {o : Option Fn} {w : Nat → Int} (h : OF true F z x o) (hw : okw w) : ∀ v, oone o w = some v → rkb v := by
  intro v e
  cases o with
  | none => cases e; exact ⟨by decide, by decide⟩
  | some f =>
    obtain ⟨a, c, h1, h2, h3, h4, h5, h6⟩ := h
    exact h6 w hw v e
theorem ov_n {o : Option Fn} {w : Nat → Int} (h : ∀ v, oone o w = some v → rkb v) (e : ov o w = -2000000000) : oone o w = none := by
  cases hq : oone o w with
  | none => rfl
  | some v =>
    have hb := h v hq
    unfold ov at e
    rw [hq] at e
    have e : v = -2000000000 := e
    unfold rkb at hb
    omega
theorem ov_s {o : Option Fn} {w : Nat → Int} (e : ¬ ov o w = -2000000000) : oone o w = some (ov o w) := by
  unfold ov at e ⊢
  cases hq : oone o w with
  | none => rw [hq] at e; exact absurd rfl e
  | some v => rfl
def KOr (G : am_G) (P : Nat → Nat → Option Nat) (I : Nat → Nat → Int) (n : Nat) (cl : Nat → Cl) (r : Option Od) (o : am_O) : Prop := match r with
  | none => ∃ K, o = (some (.inl 0), (G, K, P)) ∧ OFK I K
  | some z2 => ∃ K, o = (some (.inl 1), (G, K, P)) ∧ KOI G P K n cl z2 ∧ OFK I K
theorem KOr_n {G : am_G} {P : Nat → Nat → Option Nat} {I K : Nat → Nat → Int} {n : Nat} {cl : Nat → Cl} {r : Option Od} (h : r = none) (hf : OFK I K) : KOr G P I n cl r (some (.inl 0), (G, K, P)) := by subst h; exact ⟨K, rfl, hf⟩
theorem KOr_s {G : am_G} {P : Nat → Nat → Option Nat} {I K : Nat → Nat → Int} {n : Nat} {cl : Nat → Cl} {r : Option Od} {z2 : Od} (h : r = some z2) (hi : KOI G P K n cl z2) (hf : OFK I K) : KOr G P I n cl r (some (.inl 1), (G, K, P)) := by subst h; exact ⟨K, rfl, hi, hf⟩
theorem OFK_5 {I K : Nat → Nat → Int} (h : K5 I K) : OFK I K := fun q k _ _ _ _ _ h6 _ => h q k h6
theorem k_t9 {d : Nat} {G : am_G} {I : Nat → Nat → Int} {P : Nat → Nat → Option Nat} {Q : am_O → Prop} (hS : ST G P) {i : Nat} {x1 y1 : Int} (h0 : (x1 = -2000000000 ∨ y1 = -2000000000) → Q (some (.inl 0), (G, I, P))) (hk : ¬ x1 = -2000000000 → ¬ y1 = -2000000000 → am_ex (am_call am_B am_M (d + 6)) (am_B 51) (am_B 51 12) [some (.inr (.inr (some 92))), some (.inr (.inr (some 162))), some (.inl (i : Int)), some (.inl x1), some (.inl y1), none] [] (G, I, P) Q) : am_ex (am_call am_B am_M (d + 6)) (am_B 51) (am_B 51 9) [some (.inr (.inr (some 92))), some (.inr (.inr (some 162))), some (.inl (i : Int)), some (.inl x1), none, none] [(.inl y1)] (G, I, P) Q := by
  refine (ex_7_4 rfl (ex_4_3 (ex_0 ?_)))
  refine ex_ic0 (fun hc108 => ?_) (fun hc108 => ?_)
  · refine (ex_0 ?_)
    exact ex_57 (by decide) (h0 (by omega))
  · refine (ex_4_4 (ex_0 ?_))
    refine ex_ic1 (fun hc115 => ?_) (fun hc115 => ?_)
    · exact hk (by omega) (by omega)
    · refine (ex_0 ?_)
      exact ex_57 (by decide) (h0 (by omega))
theorem k_t3 {d : Nat} {G : am_G} {I : Nat → Nat → Int} {P : Nat → Nat → Option Nat} {Q : am_O → Prop} (hS : ST G P) {n m zz i cc : Nat} {cl : Nat → Cl} {c : Nat → Oc} {z : Od} {ρ0 : Nat → Int} (hD : DRF I m zz c) (hi : i < m) (hI : KOI G P I n cl z) (hBN : BarN n cl) (ht1 : I 1 0 = 999) (hZ : OzI ρ0 cc z) (hcc : cc ≤ 1000) (hw : ∀ k, k < 16 → I 114 k = oz z k) (hQ : ∀ o, KOr G P I n cl (ogo n cl (c i).1 z (oone (c i).2.1 (oz z)) (oone (c i).2.2.1 (oz z))) o → Q o) : am_ex (am_call am_B am_M (d + 6)) (am_B 51) (am_B 51 3) [some (.inr (.inr (some 92))), some (.inr (.inr (some 162))), some (.inl (i : Int)), none, none, none] [] (G, I, P) Q := by
  have hok := okw_oz hZ hcc
  obtain ⟨dd1, dd2, dd3, dd4, dd5, dd6⟩ := hD.2.2.2.2.2 i hi
  have v1 := OF_v dd3 hok
  have v2 := OF_v dd4 hok
  refine k_sm1 hS hD hw hok hi (fun K1 f1 => ?_)
  refine k_sm2 hS (DRF_fr hD (fun q k h1 h2 => f1 q k (by omega))) (fun k hk => (f1 _ _ (by decide)).trans (hw k hk)) hok hi (fun K2 f2 => ?_)
  have fK : K5 I K2 := fun q k h => (f2 q k h).trans (f1 q k h)
  have fO := OFK_5 fK
  refine k_t9 hS (fun hz => hQ _ (KOr_n ?_ fO)) (fun hx hy => ?_)
  · rcases hz with e | e
    · rw [ov_n v1 e]; exact ogo_1
    · rw [ov_n v2 e]; exact ogo_2
  · have s1 := ov_s hx
    have s2 := ov_s hy
    refine k_t12 hS (DRF_fr hD (fun q k h1 h2 => fK q k (by omega))) hi (KOI_5 hI (fun q k _ h => fK q k h)) hBN ((fK _ _ (by decide)).trans ht1) (by have := hZ.2.2.1; omega) hZ.2.2.2 (WR_0 hZ.1).2 (fun K e f => hQ _ (KOr_n (by rw [s1, s2]; exact e) (OFK_trans fO f))) (fun K z2 e h f => hQ _ (KOr_s (by rw [s1, s2]; exact e) h (OFK_trans fO f)))
theorem k_once_n {d : Nat} {G : am_G} {I : Nat → Nat → Int} {P : Nat → Nat → Option Nat} (hS : ST G P) {n m zz i cc : Nat} {cl : Nat → Cl} {c : Nat → Oc} {z : Od} {ρ0 : Nat → Int} (hD : DRF I m zz c) (hi : i < m) (hI : KOI G P I n cl z) (hBN : BarN n cl) (ht1 : I 1 0 = 999) (hZ : OzI ρ0 cc z) (hcc : cc ≤ 1000) (ht : (c i).2.2.2.2 = none) : ∃ o, am_call am_B am_M (d + 7) 51 [(.inr (.inr (some 92))), (.inr (.inr (some 162))), (.inl (i : Int))] (G, I, P) = some o ∧ (KOr G P I n cl (orun n cl (c i) z)) o := by
  have hm12 := hD.2.1
  have hok := okw_oz hZ hcc
  have n1 := RW_n1 (WR_0 hZ.1).1
  obtain ⟨K0, e0, hw0, f0⟩ := k_setWords (d := d + 4) hS hI.1 (F := (z.1.1 1).toNat) (Int.toNat_of_nonneg n1.1).symm
  have hw : ∀ k, k < 16 → K0 114 k = oz z k := fun k hk => (hw0 k hk).trans (by rw [hI.2.2.1, hI.2.2.2]; rfl)
  have hD0 : DRF K0 m zz c := DRF_fr hD (fun q k h1 h2 => f0 q k (by omega))
  have hI0 : KOI G P K0 n cl z := KOI_5 hI (fun q k h _ => f0 q k h)
  have ht0 : K0 1 0 = 999 := (f0 _ _ (by decide)).trans ht1
  have fO0 : OFK I K0 := fun q k _ _ _ _ h5 _ _ => f0 q k h5
  obtain ⟨dd1, dd2, dd3, dd4, dd5, dd6⟩ := hD0.2.2.2.2.2 i hi
  have hso : oso (c i).2.2.2.2 (oz z) := fun f e => by rw [ht] at e; cases e
  have fO1 := fO0
  refine am_doQ (L := [some (.inr (.inr (some 92))), some (.inr (.inr (some 162))), some (.inl (i : Int)), none, none, none]) (Nat.le_of_ble_eq_true rfl) rfl ?_
  refine (ex_6_0 (ix_46 (S' := []) rfl (sh_92 hS) e0 rfl rfl (ex_6_1 (ix_41r (sh_162 hS) (pt_162_4 hS) (ex_4_2 (ix_30 (j := i) (v := (-1)) (sh_167 hS) (by omega) (by omega) (by omega) (by rw [ht] at dd6; exact dd6) (ex_0 (ex_ic0 (fun _ => ?_) (fun hc => by exfalso; revert hc; decide)))))))))
  refine k_t3 hS (DRF_fr hD0 (fun q k h1 h2 => rfl)) hi (KOI_5 hI0 (fun q k _ h => rfl)) hBN (ht0) hZ hcc (fun k hk => hw k hk) (fun o ho => ?_)
  rw [orun_t hso]
  cases hg : ogo n cl (c i).1 z (oone (c i).2.1 (oz z)) (oone (c i).2.2.1 (oz z)) with
  | none => rw [hg] at ho; obtain ⟨K9, rfl, h9⟩ := ho; exact ⟨K9, rfl, OFK_trans fO1 h9⟩
  | some z2 => rw [hg] at ho; obtain ⟨K9, rfl, h8, h9⟩ := ho; exact ⟨K9, rfl, h8, OFK_trans fO1 h9⟩
theorem k_once_s {d : Nat} {G : am_G} {I : Nat → Nat → Int} {P : Nat → Nat → Option Nat} (hS : ST G P) {n m zz i cc : Nat} {cl : Nat → Cl} {c : Nat → Oc} {z : Od} {ρ0 : Nat → Int} (hD : DRF I m zz c) (hi : i < m) (hI : KOI G P I n cl z) (hBN : BarN n cl) (ht1 : I 1 0 = 999) (hZ : OzI ρ0 cc z) (hcc : cc ≤ 1000) {f_ : Fn} (ht : (c i).2.2.2.2 = some f_) : ∃ o, am_call am_B am_M (d + 7) 51 [(.inr (.inr (some 92))), (.inr (.inr (some 162))), (.inl (i : Int))] (G, I, P) = some o ∧ (KOr G P I n cl (orun n cl (c i) z)) o := by
  have hm12 := hD.2.1
  have hok := okw_oz hZ hcc
  have n1 := RW_n1 (WR_0 hZ.1).1
  obtain ⟨K0, e0, hw0, f0⟩ := k_setWords (d := d + 4) hS hI.1 (F := (z.1.1 1).toNat) (Int.toNat_of_nonneg n1.1).symm
  have hw : ∀ k, k < 16 → K0 114 k = oz z k := fun k hk => (hw0 k hk).trans (by rw [hI.2.2.1, hI.2.2.2]; rfl)
  have hD0 : DRF K0 m zz c := DRF_fr hD (fun q k h1 h2 => f0 q k (by omega))
  have hI0 : KOI G P K0 n cl z := KOI_5 hI (fun q k h _ => f0 q k h)
  have ht0 : K0 1 0 = 999 := (f0 _ _ (by decide)).trans ht1
  have fO0 : OFK I K0 := fun q k _ _ _ _ h5 _ _ => f0 q k h5
  obtain ⟨dd1, dd2, dd3, dd4, dd5, dd6⟩ := hD0.2.2.2.2.2 i hi
  rw [ht] at dd6
  obtain ⟨a_, r_, hx, eV, hV⟩ := k_val (d := d + 4) hS hD0 hw hok dd6
  have fO1 : OFK I (am_u1 K0 115 r_) := OFK_trans fO0 (fun q k _ _ _ _ _ h6 _ => u1_qk h6)
  refine am_doQ (L := [some (.inr (.inr (some 92))), some (.inr (.inr (some 162))), some (.inl (i : Int)), none, none, none]) (Nat.le_of_ble_eq_true rfl) rfl ?_
  refine (ex_6_0 (ix_46 (S' := []) rfl (sh_92 hS) e0 rfl rfl (ex_6_1 (ix_41r (sh_162 hS) (pt_162_4 hS) (ex_4_2 (ix_30 (j := i) (v := (a_ : Int)) (sh_167 hS) (by omega) (by omega) (by omega) hx (ex_0 ?_)))))))
  refine ex_ic0 (fun hc11 => by exfalso; omega) (fun hc11 => ?_)
  refine (ex_6_1 (ex_6_1 (ix_41r (sh_162 hS) (pt_162_4 hS) (ex_4_2 (ix_30 (j := i) (v := (a_ : Int)) (sh_167 hS) (by omega) (by omega) (by omega) hx (ex_6_0 (ix_41r (sh_92 hS) (pt_92_3 hS) (ex_6_0 (ix_41r (sh_92 hS) (pt_92_4 hS) (ix_46 (S' := [(.inl ((f_ (oz z)).getD (-2000000000)))]) rfl (sh_162 hS) eV rfl rfl (ex_0 ?_)))))))))))
  refine ex_ic0 (fun hc33 => ?_) (fun hc33 => ?_)
  · have hso : oso (c i).2.2.2.2 (oz z) := by
      intro f e
      rw [ht] at e
      cases e
      cases hf : f_ (oz z) with
      | none => rw [hf] at hc33; exact absurd hc33 (by decide)
      | some v => rw [hf] at hc33; exact congrArg some hc33
    refine k_t3 hS (DRF_fr hD0 (fun q k h1 h2 => u1_qk (by omega))) hi (KOI_5 hI0 (fun q k _ h => u1_qk h)) hBN ((u1_qk (by decide)).trans ht0) hZ hcc (fun k hk => ((u1_qk (by decide))).trans (hw k hk)) (fun o ho => ?_)
    rw [orun_t hso]
    cases hg : ogo n cl (c i).1 z (oone (c i).2.1 (oz z)) (oone (c i).2.2.1 (oz z)) with
    | none => rw [hg] at ho; obtain ⟨K9, rfl, h9⟩ := ho; exact ⟨K9, rfl, OFK_trans fO1 h9⟩
    | some z2 => rw [hg] at ho; obtain ⟨K9, rfl, h8, h9⟩ := ho; exact ⟨K9, rfl, h8, OFK_trans fO1 h9⟩
  · refine (ex_0 ?_)
    exact ex_57 (by decide) (KOr_s (orun_f (fun h => hc33 (by rw [h f_ ht]; rfl))) (KOI_5 hI0 (fun q k _ h => u1_qk h)) fO1)
theorem k_once {d : Nat} {G : am_G} {I : Nat → Nat → Int} {P : Nat → Nat → Option Nat} (hS : ST G P) {n m zz i cc : Nat} {cl : Nat → Cl} {c : Nat → Oc} {z : Od} {ρ0 : Nat → Int} (hD : DRF I m zz c) (hi : i < m) (hI : KOI G P I n cl z) (hBN : BarN n cl) (ht1 : I 1 0 = 999) (hZ : OzI ρ0 cc z) (hcc : cc ≤ 1000) : ∃ o, am_call am_B am_M (d + 7) 51 [.inr (.inr (some 92)), .inr (.inr (some 162)), .inl (i : Int)] (G, I, P) = some o ∧ KOr G P I n cl (orun n cl (c i) z) o := by
  cases ht : (c i).2.2.2.2 with
  | none => exact k_once_n hS hD hi hI hBN ht1 hZ hcc ht
  | some f_ => exact k_once_s hS hD hi hI hBN ht1 hZ hcc ht
