/-! ===== the reference: run ===== -/
/-- what an order of the reference leaves alone -/
def MOF (I J : Nat → Nat → Int) : Prop := (∀ q k, ¬ q = 228 → ¬ q = 226 → ¬ q = 227 → ¬ q = 210 → ¬ q = 213 → ¬ q = 214 → ¬ q = 229 → ¬ (q = 208 ∧ (k = 8 ∨ k = 34 ∨ k = 38 ∨ k = 39 ∨ k = 40 ∨ k = 51 ∨ k = 52 ∨ k = 54)) → J q k = I q k) ∧ (∀ j, 400 ≤ j → J 213 j = I 213 j) ∧ (∀ j, (j < 5 ∨ 30 ≤ j) → J 210 j = I 210 j)
theorem MOF_refl {I : Nat → Nat → Int} : MOF I I := ⟨fun _ _ _ _ _ _ _ _ _ _ => rfl, fun _ _ => rfl, fun _ _ => rfl⟩
theorem MOF_trans {I J K : Nat → Nat → Int} (h : MOF I J) (h2 : MOF J K) : MOF I K := ⟨fun q k a b c d e f g i => (h2.1 q k a b c d e f g i).trans (h.1 q k a b c d e f g i), fun j hj => (h2.2.1 j hj).trans (h.2.1 j hj), fun j hj => (h2.2.2 j hj).trans (h.2.2 j hj)⟩
theorem MOF_S {I J : Nat → Nat → Int} (h : SFm I J) : MOF I J := ⟨fun q k a b c d e f g i => h q k a (by omega), fun j _ => h _ _ (by decide) (by omega), fun j _ => h _ _ (by decide) (by omega)⟩
theorem MOF_TF {I J : Nat → Nat → Int} (h : TF I J) : MOF I J := ⟨fun q k a b c d e f g i => h q k a b (by omega), fun j _ => h _ _ (by decide) (by decide) (by omega), fun j _ => h _ _ (by decide) (by decide) (by omega)⟩
theorem rem_hi {ρ un : Nat → Int} {u j : Nat} (hu : u ≤ 16) (hj : 400 ≤ j) : rem_u ρ un u j = un j := by
  unfold rem_u
  by_cases e : u = 16
  · rw [if_pos e, cp_out (by omega), cp_out (by omega)]
  · rw [if_neg e, cp_out (by omega)]
/-- what is known of the reference while orders run -/
def MOI (J : Nat → Nat → Int) (z : Od) : Prop := J 210 = z.1.1 ∧ MLg J z.1.1 z.1.2 ∧ J 208 51 = z.2.1 ∧ J 208 52 = z.2.2 ∧ J 208 20 = 0
theorem MLg_fr {I J : Nat → Nat → Int} {ρ : Nat → Int} {l : List De} (h : MLg I ρ l) (h8 : J 208 8 = I 208 8) (h3 : ∀ j, j < 400 → J 213 j = I 213 j) (h4 : ∀ j, j < 16 → J 214 j = I 214 j) : MLg J ρ l := by
  obtain ⟨a, b, c⟩ := h
  refine ⟨a, h8.trans b, fun i hi => ?_⟩
  obtain ⟨c1, c2⟩ := c i hi
  exact ⟨(h4 _ (by omega)).trans c1, fun j hj => (h3 _ (by omega)).trans (c2 j hj)⟩
theorem MOI_S {I J : Nat → Nat → Int} {z : Od} (h : MOI I z) (hf : SFm I J) : MOI J z := by
  obtain ⟨a, b, c, e, f⟩ := h
  exact ⟨(funext fun k => hf _ _ (by decide) (by omega)).trans a, MLg_fr b (hf _ _ (by decide) (by decide)) (fun j _ => hf _ _ (by decide) (by omega)) (fun j _ => hf _ _ (by decide) (by omega)), (hf _ _ (by decide) (by decide)).trans c, (hf _ _ (by decide) (by decide)).trans e, (hf _ _ (by decide) (by decide)).trans f⟩
theorem MO_fr {I J : Nat → Nat → Int} {i c : Nat} {oc : Oc} (h : MO I i c oc) (h1 : J 238 = I 238) (h2 : J 219 = I 219) (h3 : J 220 = I 220) : MO J i c oc := by
  unfold MO SE at h ⊢
  rw [h1, h2, h3]
  exact h
theorem oact_irr {ρ : Nat → Int} {n : Nat} {cl : Nat → Cl} {v : Nat} {a b a' b' : Int} (h1 : ¬ v = 3 → a = a') (h2 : v = 0 → b = b') (hv : v < 4) : oact ρ n cl v a b = oact ρ n cl v a' b' := by
  have hv4 : v = 0 ∨ v = 1 ∨ v = 2 ∨ v = 3 := by omega
  rcases hv4 with rfl | rfl | rfl | rfl
  · rw [h1 (by decide), h2 rfl]
  · rw [h1 (by decide)]
    by_cases c : 0 ≤ a' ∧ a' < ρ 1
    · rw [oact_1t c, oact_1t c]
    · rw [oact_1f c, oact_1f c]
  · rw [h1 (by decide)]
    by_cases c : 0 ≤ a' ∧ a' < 6
    · rw [oact_2t c, oact_2t c]
    · rw [oact_2f c, oact_2f c]
  · by_cases c : ρ 5 < 999
    · rw [oact_3t c, oact_3t c]
    · rw [oact_3f c, oact_3f c]
def MOr (G : am_G) (P : Nat → Nat → Option Nat) (I : Nat → Nat → Int) (r : Option Od) (o : am_O) : Prop := match r with
  | none => ∃ K, o = (some (.inl (-3)), (G, K, P)) ∧ K 208 20 = 0 ∧ MOF I K
  | some z2 => ∃ K, o = (some (.inl 0), (G, K, P)) ∧ MOI K z2 ∧ MOF I K
theorem MOr_n {G : am_G} {P : Nat → Nat → Option Nat} {I K : Nat → Nat → Int} {r : Option Od} (h : r = none) (h20 : K 208 20 = 0) (hf : MOF I K) : MOr G P I r (some (.inl (-3)), (G, K, P)) := by subst h; exact ⟨K, rfl, h20, hf⟩
theorem MOr_s {G : am_G} {P : Nat → Nat → Option Nat} {I K : Nat → Nat → Int} {r : Option Od} {z2 : Od} (h : r = some z2) (hi : MOI K z2) (hf : MOF I K) : MOr G P I r (some (.inl 0), (G, K, P)) := by subst h; exact ⟨K, rfl, hi, hf⟩
theorem MOr_tr {G : am_G} {P : Nat → Nat → Option Nat} {I J : Nat → Nat → Int} {r : Option Od} {o : am_O} (hf : MOF I J) (h : MOr G P J r o) : MOr G P I r o := by
  cases r with
  | none => obtain ⟨K, rfl, h1, h2⟩ := h; exact ⟨K, rfl, h1, MOF_trans hf h2⟩
  | some z2 => obtain ⟨K, rfl, h1, h2⟩ := h; exact ⟨K, rfl, h1, MOF_trans hf h2⟩
/-- a deed of the reference, behind it the order's count -/
theorem MOI_D {I J : Nat → Nat → Int} {z : Od} {v : Nat} {q : (Nat → Int) × De × Int} {n : Nat} {cl : Nat → Cl} {a b lt2 : Int} (h : MOI I z) (hv : v < 4) (hW : WR z.1.1 z.1.2) (hq : oact z.1.1 n cl v a b = some q) (hd : DONE I z.1.1 q.1 z.1.2.length (v : Int) J) : MOI (am_u2 (am_u2 J 208 52 lt2) 208 51 (z.2.1 + 1)) ((q.1, kpl q.2.1 z.1.2), z.2.1 + 1, lt2) ∧ MOF I (am_u2 (am_u2 J 208 52 lt2) 208 51 (z.2.1 + 1)) := by
  obtain ⟨a1, a2, a3, a4, a5⟩ := h
  obtain ⟨d1, d2, d3, d4, d5⟩ := hd
  obtain ⟨o1, o2, o3, o4, o5, o6, o7⟩ := oact_ok hv (WR_0 hW).1 (WR_0 hW).2 hq
  have e3 : (am_u2 (am_u2 J 208 52 lt2) 208 51 (z.2.1 + 1)) 213 = rem_u z.1.1 (I 213) z.1.2.length := (u2_qf (by decide)).trans ((u2_qf (by decide)).trans d2)
  have e4 : (am_u2 (am_u2 J 208 52 lt2) 208 51 (z.2.1 + 1)) 214 = rem_s (I 214) z.1.2.length q.2.1.1 := by rw [o7]; exact (u2_qf (by decide)).trans ((u2_qf (by decide)).trans d3)
  have e8 : (am_u2 (am_u2 J 208 52 lt2) 208 51 (z.2.1 + 1)) 208 8 = (rem_n z.1.2.length : Int) := (u2_k (by decide)).trans ((u2_k (by decide)).trans d4)
  have e0 : (am_u2 (am_u2 J 208 52 lt2) 208 51 (z.2.1 + 1)) 210 = q.1 := (u2_qf (by decide)).trans ((u2_qf (by decide)).trans d1)
  refine ⟨⟨e0, MLg_deed a2 o3 e3 e4 e8, u2_e, (u2_k (by decide)).trans u2_e, (u2_k (by decide)).trans ((u2_k (by decide)).trans ((d5 208 20 (by decide) (by decide) (by decide) (by decide) (by decide) (by decide) (by decide)).trans a5))⟩, ?_, fun j hj => ?_, fun j hj => ?_⟩
  · intro q' k h1 h2 h3 h4 h5 h6 h7 h8
    exact (u2_o (by omega)).trans ((u2_o (by omega)).trans (d5 q' k h1 h2 h4 h5 h6 h7 (by omega)))
  · rw [e3]; exact rem_hi hW.1 hj
  · rw [e0, a1]; exact o6 j hj
theorem c_r6_n {d : Nat} {G : am_G} {I : Nat → Nat → Int} {P : Nat → Nat → Option Nat} {Q : am_O → Prop} (hS : ST G P) {n i c cc : Nat} {cl : Nat → Cl} {oc : Oc} {z : Od} {ρ0 : Nat → Int} (hi : i < 12) (hc : c ≤ 400) (hO : MO I i c oc) (hI : MOI I z) (hLN : LawNow z.1.1 n cl) (hZ : OzI ρ0 cc z) (hcc : cc ≤ 1000) {a b : Int} (hq : oact z.1.1 n cl oc.1 a b = none) (hQ0 : ∀ K, K 208 20 = 0 → MOF I K → Q (some (.inl (-3)), (G, K, P))) : am_ex (am_call am_B am_M (d + 10)) (am_B 278) (am_B 278 6) [some (.inr (.inr (some 208))), some (.inl ((8 * i : Nat) : Int)), some (.inl a), some (.inl b), none] [] (G, I, P) Q := by
  have hW := hZ.1
  have hR := (WR_0 hW).1
  have h59 := (WR_0 hW).2
  obtain ⟨m1, m2, m3, m4, m5, m6, m7, m8, m9, m10⟩ := hO
  have hdn := hZ.2.2.1
  have hlt := hZ.2.2.2
  have hME : ME I z.1.1 n cl := ⟨hI.1, hR, hLN, hI.2.2.2.2⟩
  refine (ex_6_0 (ex_6_0 (ix_41r (sh_208 hS) (pt_208_50 hS) (ex_4_1 (ix_30 (j := (8 * i)) (v := (oc.1 : Int)) (sh_238 hS) (by omega) (by omega) (by omega) m1 (ex_4_2 (ex_4_3 ?_)))))))
  obtain ⟨xr, K, eK, hx, fK⟩ := c_actn (d := d) hS hME h59 m2 (a := a) (b := b) hq
  refine (ix_46 (S' := [(.inl xr)]) rfl (sh_208 hS) eK rfl rfl (ex_7_4 rfl (ex_4_4 ?_)))
  refine ex_if3 (fun hc149 => by exfalso; omega) (fun hc149 => ?_)
  refine (ex_0 ?_)
  exact ex_53 (hQ0 _ ((fK 208 20 (by decide) (by decide) (by decide)).trans hI.2.2.2.2) (MOF_TF fK))
theorem c_r6_s {d : Nat} {G : am_G} {I : Nat → Nat → Int} {P : Nat → Nat → Option Nat} {Q : am_O → Prop} (hS : ST G P) {n i c cc : Nat} {cl : Nat → Cl} {oc : Oc} {z : Od} {ρ0 : Nat → Int} (hi : i < 12) (hc : c ≤ 400) (hO : MO I i c oc) (hI : MOI I z) (hLN : LawNow z.1.1 n cl) (hZ : OzI ρ0 cc z) (hcc : cc ≤ 1000) {a b : Int} {q : (Nat → Int) × De × Int} (hq : oact z.1.1 n cl oc.1 a b = some q) (hQ1 : ∀ K (lt2 : Int), lt2 = (if oc.1 = 0 then q.2.2 else z.2.2) → MOI K ((q.1, kpl q.2.1 z.1.2), z.2.1 + 1, lt2) → MOF I K → Q (some (.inl 0), (G, K, P))) : am_ex (am_call am_B am_M (d + 10)) (am_B 278) (am_B 278 6) [some (.inr (.inr (some 208))), some (.inl ((8 * i : Nat) : Int)), some (.inl a), some (.inl b), none] [] (G, I, P) Q := by
  have hW := hZ.1
  have hR := (WR_0 hW).1
  have h59 := (WR_0 hW).2
  obtain ⟨m1, m2, m3, m4, m5, m6, m7, m8, m9, m10⟩ := hO
  have hdn := hZ.2.2.1
  have hlt := hZ.2.2.2
  have hME : ME I z.1.1 n cl := ⟨hI.1, hR, hLN, hI.2.2.2.2⟩
  refine (ex_6_0 (ex_6_0 (ix_41r (sh_208 hS) (pt_208_50 hS) (ex_4_1 (ix_30 (j := (8 * i)) (v := (oc.1 : Int)) (sh_238 hS) (by omega) (by omega) (by omega) m1 (ex_4_2 (ex_4_3 ?_)))))))
  obtain ⟨K, eK, fK⟩ := c_acts (d := d) hS hME m2 hI.2.1.2.1 hI.2.1.1 (a := a) (b := b) hq
  have hqv := (oact_ok m2 hR h59 hq).2.2.2.2.1
  have k51 : K 208 51 = z.2.1 := (fK.2.2.2.2 208 51 (by decide) (by decide) (by decide) (by decide) (by decide) (by decide) (by decide)).trans hI.2.2.1
  have k52 : K 208 52 = z.2.2 := (fK.2.2.2.2 208 52 (by decide) (by decide) (by decide) (by decide) (by decide) (by decide) (by decide)).trans hI.2.2.2.1
  have k238 : K 238 (8 * i) = (oc.1 : Int) := (fK.2.2.2.2 238 _ (by decide) (by decide) (by decide) (by decide) (by decide) (by decide) (by omega)).trans m1
  refine (ix_46 (S' := [(.inl q.2.2)]) rfl (sh_208 hS) eK rfl rfl (ex_7_4 rfl (ex_4_4 ?_)))
  refine ex_if3 (fun hc149 => ?_) (fun hc149 => by exfalso; omega)
  refine (ex_6_0 (ex_6_0 (ix_41r (sh_208 hS) (pt_208_50 hS) (ex_4_1 (ix_30 (j := (8 * i)) (v := (oc.1 : Int)) (sh_238 hS) (by omega) (by omega) (by omega) k238 ?_)))))
  refine ex_if1 (fun hc162 => ?_) (fun hc162 => ?_)
  · refine (ex_6_0 (ix_41i (v := z.2.2) (sh_208 hS) k52 (ex_58 (ix_42i (sh_208 hS) (ex_6_0 (ex_22 rfl (ix_41i (v := z.2.1) (sh_208 hS) ((u2_k (by decide)).trans k51) (ex_0 (ex_add ⟨by omega, by omega⟩ (ix_42i (sh_208 hS) (ex_0 ?_)))))))))))
    exact ex_53 (hQ1 _ (z.2.2) (if_neg (by omega)).symm (MOI_D hI m2 hW hq fK).1 (MOI_D hI m2 hW hq fK).2)
  · refine (ex_4_4 (ex_28 (ix_42i (sh_208 hS) (ex_6_0 (ex_22 rfl (ix_41i (v := z.2.1) (sh_208 hS) ((u2_k (by decide)).trans k51) (ex_0 (ex_add ⟨by omega, by omega⟩ (ix_42i (sh_208 hS) (ex_0 ?_))))))))))
    exact ex_53 (hQ1 _ (q.2.2) (if_pos (by omega)).symm (MOI_D hI m2 hW hq fK).1 (MOI_D hI m2 hW hq fK).2)
theorem c_r6 {d : Nat} {G : am_G} {I : Nat → Nat → Int} {P : Nat → Nat → Option Nat} {Q : am_O → Prop} (hS : ST G P) {n i c cc : Nat} {cl : Nat → Cl} {oc : Oc} {z : Od} {ρ0 : Nat → Int} (hi : i < 12) (hc : c ≤ 400) (hO : MO I i c oc) (hI : MOI I z) (hLN : LawNow z.1.1 n cl) (hZ : OzI ρ0 cc z) (hcc : cc ≤ 1000) {a b : Int} (hQ : ∀ o, MOr G P I (ogo n cl oc.1 z (some a) (some b)) o → Q o) : am_ex (am_call am_B am_M (d + 10)) (am_B 278) (am_B 278 6) [some (.inr (.inr (some 208))), some (.inl ((8 * i : Nat) : Int)), some (.inl a), some (.inl b), none] [] (G, I, P) Q := by
  cases hq : oact z.1.1 n cl oc.1 a b with
  | none => exact c_r6_n hS hi hc hO hI hLN hZ hcc hq (fun K h2 hf => hQ _ (MOr_n (ogo_n hq) h2 hf))
  | some q => exact c_r6_s hS hi hc hO hI hLN hZ hcc hq (fun K lt2 e hm hf => hQ _ (MOr_s (ogo_s hq) (by rw [← e]; exact hm) hf))
theorem c_r4_n {d : Nat} {G : am_G} {I : Nat → Nat → Int} {P : Nat → Nat → Option Nat} {Q : am_O → Prop} (hS : ST G P) {n i c cc : Nat} {cl : Nat → Cl} {oc : Oc} {z : Od} {ρ0 : Nat → Int} (hi : i < 12) (hc : c ≤ 400) (hO : MO I i c oc) (hI : MOI I z) (hLN : LawNow z.1.1 n cl) (hZ : OzI ρ0 cc z) (hcc : cc ≤ 1000) (hnow : ∀ o, 1 ≤ o → o < 6 → I 227 o = oz z (o - 1)) (h54 : I 208 54 = 0) (hOC : OCok oc) {e2_ e3_ : Option am_V} (hc1 : oone oc.2.1 (oz z) = none) (hQ : ∀ o, MOr G P I (ogo n cl oc.1 z (oone oc.2.1 (oz z)) (oone oc.2.2.1 (oz z))) o → Q o) : am_ex (am_call am_B am_M (d + 10)) (am_B 278) (am_B 278 4) [some (.inr (.inr (some 208))), some (.inl ((8 * i : Nat) : Int)), e2_, e3_, none] [] (G, I, P) Q := by
  have hW := hZ.1
  have hR := (WR_0 hW).1
  have h59 := (WR_0 hW).2
  obtain ⟨m1, m2, m3, m4, m5, m6, m7, m8, m9, m10⟩ := hO
  have hdn := hZ.2.2.1
  have hlt := hZ.2.2.2
  have hME : ME I z.1.1 n cl := ⟨hI.1, hR, hLN, hI.2.2.2.2⟩
  have hok : okw (oww z.1.1 (z.1.1 1).toNat z.2.1 z.2.2) := okw_oz hZ hcc
  refine (ex_6_0 (ex_4_1 (ex_0 (ex_11e (v := ((8 * i + 1 : Nat) : Int)) ((am_add ⟨by omega, by omega⟩).trans (by omega)) ?_))))
  obtain ⟨y1, K1, e1, f1, n1_, v1_⟩ := c_sO (d := d + 5) (e := 1) (F := (z.1.1 1).toNat) (dn := z.2.1) (lt := z.2.2) hS hI.2.2.2.2 hI.1 hR hnow hok hi (by decide) hc m5 h54
  refine (ix_46 (S' := [(.inl y1)]) rfl (sh_208 hS) e1 rfl rfl (ex_7_2 rfl (ex_6_0 (ex_4_1 (ex_0 (ex_11e (v := ((8 * i + 3 : Nat) : Int)) ((am_add ⟨by omega, by omega⟩).trans (by omega)) ?_))))))
  have k54 := n1_ hc1
  refine (ix_46 (S' := [(.inl (-1))]) rfl (sh_208 hS) (c_sO_off (d := d + 5) hS k54) rfl rfl (ex_7_3 rfl (ex_6_0 (ix_41i (v := 1) (sh_208 hS) k54 (ex_if0 (fun hc => by exfalso; revert hc; decide) (fun _ => ?_))))))
  refine (ex_0 ?_)
  exact ex_53 (hQ _ (MOr_n (by rw [hc1]; exact ogo_1) ((f1 208 20 (by decide) (by decide)).trans hI.2.2.2.2) (MOF_S f1)))
theorem c_r4_b {d : Nat} {G : am_G} {I : Nat → Nat → Int} {P : Nat → Nat → Option Nat} {Q : am_O → Prop} (hS : ST G P) {n i c cc : Nat} {cl : Nat → Cl} {oc : Oc} {z : Od} {ρ0 : Nat → Int} (hi : i < 12) (hc : c ≤ 400) (hO : MO I i c oc) (hI : MOI I z) (hLN : LawNow z.1.1 n cl) (hZ : OzI ρ0 cc z) (hcc : cc ≤ 1000) (hnow : ∀ o, 1 ≤ o → o < 6 → I 227 o = oz z (o - 1)) (h54 : I 208 54 = 0) (hOC : OCok oc) {e2_ e3_ : Option am_V} {a_ : Int} (hc1 : oone oc.2.1 (oz z) = some a_) (hc2 : oone oc.2.2.1 (oz z) = none) (hQ : ∀ o, MOr G P I (ogo n cl oc.1 z (oone oc.2.1 (oz z)) (oone oc.2.2.1 (oz z))) o → Q o) : am_ex (am_call am_B am_M (d + 10)) (am_B 278) (am_B 278 4) [some (.inr (.inr (some 208))), some (.inl ((8 * i : Nat) : Int)), e2_, e3_, none] [] (G, I, P) Q := by
  have hW := hZ.1
  have hR := (WR_0 hW).1
  have h59 := (WR_0 hW).2
  obtain ⟨m1, m2, m3, m4, m5, m6, m7, m8, m9, m10⟩ := hO
  have hdn := hZ.2.2.1
  have hlt := hZ.2.2.2
  have hME : ME I z.1.1 n cl := ⟨hI.1, hR, hLN, hI.2.2.2.2⟩
  have hok : okw (oww z.1.1 (z.1.1 1).toNat z.2.1 z.2.2) := okw_oz hZ hcc
  refine (ex_6_0 (ex_4_1 (ex_0 (ex_11e (v := ((8 * i + 1 : Nat) : Int)) ((am_add ⟨by omega, by omega⟩).trans (by omega)) ?_))))
  obtain ⟨y1, K1, e1, f1, n1_, v1_⟩ := c_sO (d := d + 5) (e := 1) (F := (z.1.1 1).toNat) (dn := z.2.1) (lt := z.2.2) hS hI.2.2.2.2 hI.1 hR hnow hok hi (by decide) hc m5 h54
  refine (ix_46 (S' := [(.inl y1)]) rfl (sh_208 hS) e1 rfl rfl (ex_7_2 rfl (ex_6_0 (ex_4_1 (ex_0 (ex_11e (v := ((8 * i + 3 : Nat) : Int)) ((am_add ⟨by omega, by omega⟩).trans (by omega)) ?_))))))
  have hI1 := MOI_S hI f1
  have m6b : SE true K1 238 i 3 c oc.2.2.1 := by unfold SE; rw [show K1 238 = I 238 from funext fun k => f1 _ _ (by decide) (by omega), show K1 219 = I 219 from funext fun k => f1 _ _ (by decide) (by omega), show K1 220 = I 220 from funext fun k => f1 _ _ (by decide) (by omega)]; exact m6
  obtain ⟨y2, K2, e2, f2, n2_, v2_⟩ := c_sO (d := d + 5) (e := 3) (F := (z.1.1 1).toNat) (dn := z.2.1) (lt := z.2.2) hS hI1.2.2.2.2 hI1.1 hR (fun o q1 q2 => (f1 _ _ (by decide) (by omega)).trans (hnow o q1 q2)) hok hi (by decide) hc m6b (v1_ a_ hc1).1
  refine (ix_46 (S' := [(.inl y2)]) rfl (sh_208 hS) e2 rfl rfl (ex_7_3 rfl (ex_6_0 (ix_41i (v := 1) (sh_208 hS) (n2_ hc2) (ex_if0 (fun hc => by exfalso; revert hc; decide) (fun _ => ?_))))))
  refine (ex_0 ?_)
  exact ex_53 (hQ _ (MOr_n (by rw [hc2]; exact ogo_2) ((f2 208 20 (by decide) (by decide)).trans hI1.2.2.2.2) (MOF_S (SFm_trans f1 f2))))
theorem c_r4_s {d : Nat} {G : am_G} {I : Nat → Nat → Int} {P : Nat → Nat → Option Nat} {Q : am_O → Prop} (hS : ST G P) {n i c cc : Nat} {cl : Nat → Cl} {oc : Oc} {z : Od} {ρ0 : Nat → Int} (hi : i < 12) (hc : c ≤ 400) (hO : MO I i c oc) (hI : MOI I z) (hLN : LawNow z.1.1 n cl) (hZ : OzI ρ0 cc z) (hcc : cc ≤ 1000) (hnow : ∀ o, 1 ≤ o → o < 6 → I 227 o = oz z (o - 1)) (h54 : I 208 54 = 0) (hOC : OCok oc) {e2_ e3_ : Option am_V} {a_ b_ : Int} (hc1 : oone oc.2.1 (oz z) = some a_) (hc2 : oone oc.2.2.1 (oz z) = some b_) (hQ : ∀ o, MOr G P I (ogo n cl oc.1 z (oone oc.2.1 (oz z)) (oone oc.2.2.1 (oz z))) o → Q o) : am_ex (am_call am_B am_M (d + 10)) (am_B 278) (am_B 278 4) [some (.inr (.inr (some 208))), some (.inl ((8 * i : Nat) : Int)), e2_, e3_, none] [] (G, I, P) Q := by
  have hO0 := hO
  have hW := hZ.1
  have hR := (WR_0 hW).1
  have h59 := (WR_0 hW).2
  obtain ⟨m1, m2, m3, m4, m5, m6, m7, m8, m9, m10⟩ := hO
  have hdn := hZ.2.2.1
  have hlt := hZ.2.2.2
  have hME : ME I z.1.1 n cl := ⟨hI.1, hR, hLN, hI.2.2.2.2⟩
  have hok : okw (oww z.1.1 (z.1.1 1).toNat z.2.1 z.2.2) := okw_oz hZ hcc
  have hO := hO0
  refine (ex_6_0 (ex_4_1 (ex_0 (ex_11e (v := ((8 * i + 1 : Nat) : Int)) ((am_add ⟨by omega, by omega⟩).trans (by omega)) ?_))))
  obtain ⟨y1, K1, e1, f1, n1_, v1_⟩ := c_sO (d := d + 5) (e := 1) (F := (z.1.1 1).toNat) (dn := z.2.1) (lt := z.2.2) hS hI.2.2.2.2 hI.1 hR hnow hok hi (by decide) hc m5 h54
  refine (ix_46 (S' := [(.inl y1)]) rfl (sh_208 hS) e1 rfl rfl (ex_7_2 rfl (ex_6_0 (ex_4_1 (ex_0 (ex_11e (v := ((8 * i + 3 : Nat) : Int)) ((am_add ⟨by omega, by omega⟩).trans (by omega)) ?_))))))
  have hI1 := MOI_S hI f1
  have m6b : SE true K1 238 i 3 c oc.2.2.1 := by unfold SE; rw [show K1 238 = I 238 from funext fun k => f1 _ _ (by decide) (by omega), show K1 219 = I 219 from funext fun k => f1 _ _ (by decide) (by omega), show K1 220 = I 220 from funext fun k => f1 _ _ (by decide) (by omega)]; exact m6
  obtain ⟨y2, K2, e2, f2, n2_, v2_⟩ := c_sO (d := d + 5) (e := 3) (F := (z.1.1 1).toNat) (dn := z.2.1) (lt := z.2.2) hS hI1.2.2.2.2 hI1.1 hR (fun o q1 q2 => (f1 _ _ (by decide) (by omega)).trans (hnow o q1 q2)) hok hi (by decide) hc m6b (v1_ a_ hc1).1
  refine (ix_46 (S' := [(.inl y2)]) rfl (sh_208 hS) e2 rfl rfl (ex_7_3 rfl (ex_6_0 (ix_41i (v := 0) (sh_208 hS) (v2_ b_ hc2).1 (ex_if0 (fun _ => ?_) (fun hc => by exfalso; revert hc; decide))))))
  have hI2 := MOI_S hI1 f2
  have fS := SFm_trans f1 f2
  have hO2 : MO K2 i c oc := MO_fr hO (funext fun k => fS _ _ (by decide) (by omega)) (funext fun k => fS _ _ (by decide) (by omega)) (funext fun k => fS _ _ (by decide) (by omega))
  refine c_r6 hS hi hc hO2 hI2 hLN hZ hcc (fun o ho => hQ o (MOr_tr (MOF_S fS) ?_))
  rw [hc1, hc2]
  have ea : oact z.1.1 n cl oc.1 a_ b_ = oact z.1.1 n cl oc.1 y1 y2 := oact_irr (fun h3 => ((v1_ a_ hc1).2 (fun z => h3 (hOC.2.1.mp z))).symm) (fun h0 => ((v2_ b_ hc2).2 (fun z => hOC.2.2.1.mp z h0)).symm) m2
  have eg : ogo n cl oc.1 z (some a_) (some b_) = ogo n cl oc.1 z (some y1) (some y2) := by simp only [ogo, ea]
  rw [eg]
  exact ho
theorem c_r4 {d : Nat} {G : am_G} {I : Nat → Nat → Int} {P : Nat → Nat → Option Nat} {Q : am_O → Prop} (hS : ST G P) {n i c cc : Nat} {cl : Nat → Cl} {oc : Oc} {z : Od} {ρ0 : Nat → Int} (hi : i < 12) (hc : c ≤ 400) (hO : MO I i c oc) (hI : MOI I z) (hLN : LawNow z.1.1 n cl) (hZ : OzI ρ0 cc z) (hcc : cc ≤ 1000) (hnow : ∀ o, 1 ≤ o → o < 6 → I 227 o = oz z (o - 1)) (h54 : I 208 54 = 0) (hOC : OCok oc) {e2_ e3_ : Option am_V} (hQ : ∀ o, MOr G P I (ogo n cl oc.1 z (oone oc.2.1 (oz z)) (oone oc.2.2.1 (oz z))) o → Q o) : am_ex (am_call am_B am_M (d + 10)) (am_B 278) (am_B 278 4) [some (.inr (.inr (some 208))), some (.inl ((8 * i : Nat) : Int)), e2_, e3_, none] [] (G, I, P) Q := by
  cases hc1 : oone oc.2.1 (oz z) with
  | none => exact c_r4_n hS hi hc hO hI hLN hZ hcc hnow h54 hOC hc1 hQ
  | some a_ =>
    cases hc2 : oone oc.2.2.1 (oz z) with
    | none => exact c_r4_b hS hi hc hO hI hLN hZ hcc hnow h54 hOC hc1 hc2 hQ
    | some b_ => exact c_r4_s hS hi hc hO hI hLN hZ hcc hnow h54 hOC hc1 hc2 hQ
theorem c_run_n {d : Nat} {G : am_G} {I : Nat → Nat → Int} {P : Nat → Nat → Option Nat} (hS : ST G P) {n i c cc : Nat} {cl : Nat → Cl} {oc : Oc} {z : Od} {ρ0 : Nat → Int} (hi : i < 12) (hc : c ≤ 400) (hO : MO I i c oc) (hI : MOI I z) (hLN : LawNow z.1.1 n cl) (hZ : OzI ρ0 cc z) (hcc : cc ≤ 1000) (hOC : OCok oc) (ht : oc.2.2.2.2 = none) : ∃ o, am_call am_B am_M (d + 11) 278 [(.inr (.inr (some 208))), (.inl ((8 * i : Nat) : Int))] (G, I, P) = some o ∧ (MOr G P I (orun n cl oc z)) o := by
  have hO0 := hO
  have hW := hZ.1
  have hR := (WR_0 hW).1
  have h59 := (WR_0 hW).2
  obtain ⟨m1, m2, m3, m4, m5, m6, m7, m8, m9, m10⟩ := hO
  have hdn := hZ.2.2.1
  have hlt := hZ.2.2.2
  have hME : ME I z.1.1 n cl := ⟨hI.1, hR, hLN, hI.2.2.2.2⟩
  have hok : okw (oww z.1.1 (z.1.1 1).toNat z.2.1 z.2.2) := okw_oz hZ hcc
  have hO := hO0
  have n1 := RW_n1 hR
  obtain ⟨ta, tx, t1, t2, t3, t4, t5⟩ := m9
  refine am_doQ (L := [some (.inr (.inr (some 208))), some (.inl ((8 * i : Nat) : Int)), none, none, none]) (Nat.le_of_ble_eq_true rfl) rfl ?_
  refine (ex_6_0 (ix_41r (sh_208 hS) (pt_208_36 hS) (ex_0 (ex_6_0 (ix_41r (sh_208 hS) (pt_208_3 hS) (ex_0 (ix_30 (j := 5) (v := (z.1.1 5)) (sh_210 hS) (by decide) (by decide) rfl (congrFun hI.1 _) (ex_19 (ix_36 (j := 1) (sh_227 hS) (by decide) (by decide) rfl (ex_6_0 (ix_41r (sh_208 hS) (pt_208_36 hS) (ex_0 (ex_6_0 (ix_41i (v := z.2.1) (sh_208 hS) ((u2_q (by decide)).trans hI.2.2.1) (ex_19 (ix_36 (j := 2) (sh_227 hS) (by decide) (by decide) rfl (ex_6_0 (ix_41r (sh_208 hS) (pt_208_36 hS) (ex_0 (ex_6_0 (ix_41i (v := z.2.2) (sh_208 hS) ((u2_q (by decide)).trans ((u2_q (by decide)).trans hI.2.2.2.1)) (ex_19 (ix_36 (j := 3) (sh_227 hS) (by decide) (by decide) rfl (ex_6_0 (ix_41r (sh_208 hS) (pt_208_36 hS) (ex_0 (ex_6_0 (ex_0 ?_))))))))))))))))))))))))))))
  have hs25 : (am_u2 (am_u2 (am_u2 I 227 1 (z.1.1 5)) 227 2 z.2.1) 227 3 z.2.2) 210 = z.1.1 := ((u2_qf (by decide)).trans ((u2_qf (by decide)).trans ((u2_qf (by decide)).trans hI.1)))
  have es25 := c_sumOfFolk (d := d + 9) (I := (am_u2 (am_u2 (am_u2 I 227 1 (z.1.1 5)) 227 2 z.2.1) 227 3 z.2.2)) (a := 25) (F := (z.1.1 1).toNat) hS (by rw [hs25]; exact (Int.toNat_of_nonneg n1.1).symm) (by omega) (by decide) (fun i hi => by rw [hs25]; exact RW_kn hR i (by omega))
  rw [hs25] at es25
  refine (ix_46 (S' := [(.inl (m_sum z.1.1 25 (z.1.1 1).toNat)), (.inl 4), (.inr (.inr (some 227)))]) rfl (sh_208 hS) es25 rfl rfl (ex_19 (ix_36 (j := 4) (sh_227 hS) (by decide) (by decide) rfl (ex_6_0 (ix_41r (sh_208 hS) (pt_208_36 hS) (ex_0 (ex_6_0 (ex_0 ?_))))))))
  have hs20 : (am_u2 (am_u2 (am_u2 (am_u2 I 227 1 (z.1.1 5)) 227 2 z.2.1) 227 3 z.2.2) 227 4 (m_sum z.1.1 25 (z.1.1 1).toNat)) 210 = z.1.1 := ((u2_qf (by decide)).trans ((u2_qf (by decide)).trans ((u2_qf (by decide)).trans ((u2_qf (by decide)).trans hI.1))))
  have es20 := c_sumOfFolk (d := d + 9) (I := (am_u2 (am_u2 (am_u2 (am_u2 I 227 1 (z.1.1 5)) 227 2 z.2.1) 227 3 z.2.2) 227 4 (m_sum z.1.1 25 (z.1.1 1).toNat))) (a := 20) (F := (z.1.1 1).toNat) hS (by rw [hs20]; exact (Int.toNat_of_nonneg n1.1).symm) (by omega) (by decide) (fun i hi => by rw [hs20]; exact RW_we hR i (by omega))
  rw [hs20] at es20
  refine (ix_46 (S' := [(.inl (m_sum z.1.1 20 (z.1.1 1).toNat)), (.inl 5), (.inr (.inr (some 227)))]) rfl (sh_208 hS) es20 rfl rfl (ex_19 (ix_36 (j := 5) (sh_227 hS) (by decide) (by decide) rfl (ex_6_0 (ex_0 (ix_42z (sh_208 hS) (by decide) (ex_6_0 (ix_41r (sh_208 hS) (pt_208_50 hS) (ex_4_1 (ex_0 (ex_11e (v := ((8 * i + 5 : Nat) : Int)) ((am_add ⟨by omega, by omega⟩).trans (by omega)) (ix_30 (j := (8 * i + 5)) (v := (ta : Int)) (sh_238 hS) (by omega) (by omega) (by omega) ((u2_q (by decide)).trans ((u2_q (by decide)).trans ((u2_q (by decide)).trans ((u2_q (by decide)).trans ((u2_q (by decide)).trans ((u2_q (by decide)).trans t1)))))) (ex_6_0 (ix_41r (sh_208 hS) (pt_208_50 hS) (ex_4_1 (ex_0 (ex_11e (v := ((8 * i + 6 : Nat) : Int)) ((am_add ⟨by omega, by omega⟩).trans (by omega)) (ix_30 (j := (8 * i + 6)) (v := (tx : Int)) (sh_238 hS) (by omega) (by omega) (by omega) ((u2_q (by decide)).trans ((u2_q (by decide)).trans ((u2_q (by decide)).trans ((u2_q (by decide)).trans ((u2_q (by decide)).trans ((u2_q (by decide)).trans t2)))))) ?_))))))))))))))))))
  refine ex_ic3 (fun hc83 => ?_) (fun hc83 => by exfalso; have := t4 ht; omega)
  have fW : ∀ q k, ¬ q = 227 → ¬ (q = 208 ∧ k = 54) → (am_u2 (am_u2 (am_u2 (am_u2 (am_u2 (am_u2 I 227 1 (z.1.1 5)) 227 2 z.2.1) 227 3 z.2.2) 227 4 (m_sum z.1.1 25 (z.1.1 1).toNat)) 227 5 (m_sum z.1.1 20 (z.1.1 1).toNat)) 208 54 0) q k = I q k := fun q k a b => (u2_o b).trans ((u2_q a).trans ((u2_q a).trans ((u2_q a).trans ((u2_q a).trans (u2_q a)))))
  have hIW : MOI (am_u2 (am_u2 (am_u2 (am_u2 (am_u2 (am_u2 I 227 1 (z.1.1 5)) 227 2 z.2.1) 227 3 z.2.2) 227 4 (m_sum z.1.1 25 (z.1.1 1).toNat)) 227 5 (m_sum z.1.1 20 (z.1.1 1).toNat)) 208 54 0) z := ⟨(funext fun k => fW _ _ (by decide) (by omega)).trans hI.1, MLg_fr hI.2.1 (fW _ _ (by decide) (by decide)) (fun j _ => fW _ _ (by decide) (by omega)) (fun j _ => fW _ _ (by decide) (by omega)), (fW _ _ (by decide) (by decide)).trans hI.2.2.1, (fW _ _ (by decide) (by decide)).trans hI.2.2.2.1, (fW _ _ (by decide) (by decide)).trans hI.2.2.2.2⟩
  have hOW : MO (am_u2 (am_u2 (am_u2 (am_u2 (am_u2 (am_u2 I 227 1 (z.1.1 5)) 227 2 z.2.1) 227 3 z.2.2) 227 4 (m_sum z.1.1 25 (z.1.1 1).toNat)) 227 5 (m_sum z.1.1 20 (z.1.1 1).toNat)) 208 54 0) i c oc := MO_fr hO (funext fun k => fW _ _ (by decide) (by omega)) (funext fun k => fW _ _ (by decide) (by omega)) (funext fun k => fW _ _ (by decide) (by omega))
  have hnW : ∀ o, 1 ≤ o → o < 6 → (am_u2 (am_u2 (am_u2 (am_u2 (am_u2 (am_u2 I 227 1 (z.1.1 5)) 227 2 z.2.1) 227 3 z.2.2) 227 4 (m_sum z.1.1 25 (z.1.1 1).toNat)) 227 5 (m_sum z.1.1 20 (z.1.1 1).toNat)) 208 54 0) 227 o = oz z (o - 1) := by
    intro o q1 q2
    have ho : o = 1 ∨ o = 2 ∨ o = 3 ∨ o = 4 ∨ o = 5 := by omega
    rcases ho with rfl | rfl | rfl | rfl | rfl
    · exact (u2_q (by decide)).trans ((u2_k (by decide)).trans ((u2_k (by decide)).trans ((u2_k (by decide)).trans ((u2_k (by decide)).trans u2_e))))
    · exact (u2_q (by decide)).trans ((u2_k (by decide)).trans ((u2_k (by decide)).trans ((u2_k (by decide)).trans u2_e)))
    · exact (u2_q (by decide)).trans ((u2_k (by decide)).trans ((u2_k (by decide)).trans u2_e))
    · exact (u2_q (by decide)).trans ((u2_k (by decide)).trans u2_e)
    · exact (u2_q (by decide)).trans u2_e
  have h5W : (am_u2 (am_u2 (am_u2 (am_u2 (am_u2 (am_u2 I 227 1 (z.1.1 5)) 227 2 z.2.1) 227 3 z.2.2) 227 4 (m_sum z.1.1 25 (z.1.1 1).toNat)) 227 5 (m_sum z.1.1 20 (z.1.1 1).toNat)) 208 54 0) 208 54 = 0 := u2_e
  have hfW : MOF I (am_u2 (am_u2 (am_u2 (am_u2 (am_u2 (am_u2 I 227 1 (z.1.1 5)) 227 2 z.2.1) 227 3 z.2.2) 227 4 (m_sum z.1.1 25 (z.1.1 1).toNat)) 227 5 (m_sum z.1.1 20 (z.1.1 1).toNat)) 208 54 0) := ⟨fun q k a b c d e f g i => fW q k c (by omega), fun j _ => fW _ _ (by decide) (by omega), fun j _ => fW _ _ (by decide) (by omega)⟩
  generalize (am_u2 (am_u2 (am_u2 (am_u2 (am_u2 (am_u2 I 227 1 (z.1.1 5)) 227 2 z.2.1) 227 3 z.2.2) 227 4 (m_sum z.1.1 25 (z.1.1 1).toNat)) 227 5 (m_sum z.1.1 20 (z.1.1 1).toNat)) 208 54 0) = KW at *
  refine c_r4 hS hi hc hOW hIW hLN hZ hcc hnW h5W hOC (fun o ho => MOr_tr hfW ?_)
  rw [orun_t (fun f e => by rw [ht] at e; cases e)]
  exact ho
theorem c_run_b {d : Nat} {G : am_G} {I : Nat → Nat → Int} {P : Nat → Nat → Option Nat} (hS : ST G P) {n i c cc : Nat} {cl : Nat → Cl} {oc : Oc} {z : Od} {ρ0 : Nat → Int} (hi : i < 12) (hc : c ≤ 400) (hO : MO I i c oc) (hI : MOI I z) (hLN : LawNow z.1.1 n cl) (hZ : OzI ρ0 cc z) (hcc : cc ≤ 1000) (hOC : OCok oc) {f_ : Fn} (ht : oc.2.2.2.2 = some f_) (hf : f_ (oz z) = none) : ∃ o, am_call am_B am_M (d + 11) 278 [(.inr (.inr (some 208))), (.inl ((8 * i : Nat) : Int))] (G, I, P) = some o ∧ (MOr G P I (orun n cl oc z)) o := by
  have hO0 := hO
  have hW := hZ.1
  have hR := (WR_0 hW).1
  have h59 := (WR_0 hW).2
  obtain ⟨m1, m2, m3, m4, m5, m6, m7, m8, m9, m10⟩ := hO
  have hdn := hZ.2.2.1
  have hlt := hZ.2.2.2
  have hME : ME I z.1.1 n cl := ⟨hI.1, hR, hLN, hI.2.2.2.2⟩
  have hok : okw (oww z.1.1 (z.1.1 1).toNat z.2.1 z.2.2) := okw_oz hZ hcc
  have hO := hO0
  have n1 := RW_n1 hR
  obtain ⟨ta, tx, t1, t2, t3, t4, t5⟩ := m9
  refine am_doQ (L := [some (.inr (.inr (some 208))), some (.inl ((8 * i : Nat) : Int)), none, none, none]) (Nat.le_of_ble_eq_true rfl) rfl ?_
  refine (ex_6_0 (ix_41r (sh_208 hS) (pt_208_36 hS) (ex_0 (ex_6_0 (ix_41r (sh_208 hS) (pt_208_3 hS) (ex_0 (ix_30 (j := 5) (v := (z.1.1 5)) (sh_210 hS) (by decide) (by decide) rfl (congrFun hI.1 _) (ex_19 (ix_36 (j := 1) (sh_227 hS) (by decide) (by decide) rfl (ex_6_0 (ix_41r (sh_208 hS) (pt_208_36 hS) (ex_0 (ex_6_0 (ix_41i (v := z.2.1) (sh_208 hS) ((u2_q (by decide)).trans hI.2.2.1) (ex_19 (ix_36 (j := 2) (sh_227 hS) (by decide) (by decide) rfl (ex_6_0 (ix_41r (sh_208 hS) (pt_208_36 hS) (ex_0 (ex_6_0 (ix_41i (v := z.2.2) (sh_208 hS) ((u2_q (by decide)).trans ((u2_q (by decide)).trans hI.2.2.2.1)) (ex_19 (ix_36 (j := 3) (sh_227 hS) (by decide) (by decide) rfl (ex_6_0 (ix_41r (sh_208 hS) (pt_208_36 hS) (ex_0 (ex_6_0 (ex_0 ?_))))))))))))))))))))))))))))
  have hs25 : (am_u2 (am_u2 (am_u2 I 227 1 (z.1.1 5)) 227 2 z.2.1) 227 3 z.2.2) 210 = z.1.1 := ((u2_qf (by decide)).trans ((u2_qf (by decide)).trans ((u2_qf (by decide)).trans hI.1)))
  have es25 := c_sumOfFolk (d := d + 9) (I := (am_u2 (am_u2 (am_u2 I 227 1 (z.1.1 5)) 227 2 z.2.1) 227 3 z.2.2)) (a := 25) (F := (z.1.1 1).toNat) hS (by rw [hs25]; exact (Int.toNat_of_nonneg n1.1).symm) (by omega) (by decide) (fun i hi => by rw [hs25]; exact RW_kn hR i (by omega))
  rw [hs25] at es25
  refine (ix_46 (S' := [(.inl (m_sum z.1.1 25 (z.1.1 1).toNat)), (.inl 4), (.inr (.inr (some 227)))]) rfl (sh_208 hS) es25 rfl rfl (ex_19 (ix_36 (j := 4) (sh_227 hS) (by decide) (by decide) rfl (ex_6_0 (ix_41r (sh_208 hS) (pt_208_36 hS) (ex_0 (ex_6_0 (ex_0 ?_))))))))
  have hs20 : (am_u2 (am_u2 (am_u2 (am_u2 I 227 1 (z.1.1 5)) 227 2 z.2.1) 227 3 z.2.2) 227 4 (m_sum z.1.1 25 (z.1.1 1).toNat)) 210 = z.1.1 := ((u2_qf (by decide)).trans ((u2_qf (by decide)).trans ((u2_qf (by decide)).trans ((u2_qf (by decide)).trans hI.1))))
  have es20 := c_sumOfFolk (d := d + 9) (I := (am_u2 (am_u2 (am_u2 (am_u2 I 227 1 (z.1.1 5)) 227 2 z.2.1) 227 3 z.2.2) 227 4 (m_sum z.1.1 25 (z.1.1 1).toNat))) (a := 20) (F := (z.1.1 1).toNat) hS (by rw [hs20]; exact (Int.toNat_of_nonneg n1.1).symm) (by omega) (by decide) (fun i hi => by rw [hs20]; exact RW_we hR i (by omega))
  rw [hs20] at es20
  refine (ix_46 (S' := [(.inl (m_sum z.1.1 20 (z.1.1 1).toNat)), (.inl 5), (.inr (.inr (some 227)))]) rfl (sh_208 hS) es20 rfl rfl (ex_19 (ix_36 (j := 5) (sh_227 hS) (by decide) (by decide) rfl (ex_6_0 (ex_0 (ix_42z (sh_208 hS) (by decide) (ex_6_0 (ix_41r (sh_208 hS) (pt_208_50 hS) (ex_4_1 (ex_0 (ex_11e (v := ((8 * i + 5 : Nat) : Int)) ((am_add ⟨by omega, by omega⟩).trans (by omega)) (ix_30 (j := (8 * i + 5)) (v := (ta : Int)) (sh_238 hS) (by omega) (by omega) (by omega) ((u2_q (by decide)).trans ((u2_q (by decide)).trans ((u2_q (by decide)).trans ((u2_q (by decide)).trans ((u2_q (by decide)).trans ((u2_q (by decide)).trans t1)))))) (ex_6_0 (ix_41r (sh_208 hS) (pt_208_50 hS) (ex_4_1 (ex_0 (ex_11e (v := ((8 * i + 6 : Nat) : Int)) ((am_add ⟨by omega, by omega⟩).trans (by omega)) (ix_30 (j := (8 * i + 6)) (v := (tx : Int)) (sh_238 hS) (by omega) (by omega) (by omega) ((u2_q (by decide)).trans ((u2_q (by decide)).trans ((u2_q (by decide)).trans ((u2_q (by decide)).trans ((u2_q (by decide)).trans ((u2_q (by decide)).trans t2)))))) ?_))))))))))))))))))
  refine ex_ic3 (fun hc83 => by exfalso; have := (t5 f_ ht).1.1; omega) (fun hc83 => ?_)
  refine (ex_6_0 (ex_4_1 (ex_0 (ex_11e (v := ((8 * i + 5 : Nat) : Int)) ((am_add ⟨by omega, by omega⟩).trans (by omega)) ?_))))
  have fW : ∀ q k, ¬ q = 227 → ¬ (q = 208 ∧ k = 54) → (am_u2 (am_u2 (am_u2 (am_u2 (am_u2 (am_u2 I 227 1 (z.1.1 5)) 227 2 z.2.1) 227 3 z.2.2) 227 4 (m_sum z.1.1 25 (z.1.1 1).toNat)) 227 5 (m_sum z.1.1 20 (z.1.1 1).toNat)) 208 54 0) q k = I q k := fun q k a b => (u2_o b).trans ((u2_q a).trans ((u2_q a).trans ((u2_q a).trans ((u2_q a).trans (u2_q a)))))
  have hIW : MOI (am_u2 (am_u2 (am_u2 (am_u2 (am_u2 (am_u2 I 227 1 (z.1.1 5)) 227 2 z.2.1) 227 3 z.2.2) 227 4 (m_sum z.1.1 25 (z.1.1 1).toNat)) 227 5 (m_sum z.1.1 20 (z.1.1 1).toNat)) 208 54 0) z := ⟨(funext fun k => fW _ _ (by decide) (by omega)).trans hI.1, MLg_fr hI.2.1 (fW _ _ (by decide) (by decide)) (fun j _ => fW _ _ (by decide) (by omega)) (fun j _ => fW _ _ (by decide) (by omega)), (fW _ _ (by decide) (by decide)).trans hI.2.2.1, (fW _ _ (by decide) (by decide)).trans hI.2.2.2.1, (fW _ _ (by decide) (by decide)).trans hI.2.2.2.2⟩
  have hOW : MO (am_u2 (am_u2 (am_u2 (am_u2 (am_u2 (am_u2 I 227 1 (z.1.1 5)) 227 2 z.2.1) 227 3 z.2.2) 227 4 (m_sum z.1.1 25 (z.1.1 1).toNat)) 227 5 (m_sum z.1.1 20 (z.1.1 1).toNat)) 208 54 0) i c oc := MO_fr hO (funext fun k => fW _ _ (by decide) (by omega)) (funext fun k => fW _ _ (by decide) (by omega)) (funext fun k => fW _ _ (by decide) (by omega))
  have hnW : ∀ o, 1 ≤ o → o < 6 → (am_u2 (am_u2 (am_u2 (am_u2 (am_u2 (am_u2 I 227 1 (z.1.1 5)) 227 2 z.2.1) 227 3 z.2.2) 227 4 (m_sum z.1.1 25 (z.1.1 1).toNat)) 227 5 (m_sum z.1.1 20 (z.1.1 1).toNat)) 208 54 0) 227 o = oz z (o - 1) := by
    intro o q1 q2
    have ho : o = 1 ∨ o = 2 ∨ o = 3 ∨ o = 4 ∨ o = 5 := by omega
    rcases ho with rfl | rfl | rfl | rfl | rfl
    · exact (u2_q (by decide)).trans ((u2_k (by decide)).trans ((u2_k (by decide)).trans ((u2_k (by decide)).trans ((u2_k (by decide)).trans u2_e))))
    · exact (u2_q (by decide)).trans ((u2_k (by decide)).trans ((u2_k (by decide)).trans ((u2_k (by decide)).trans u2_e)))
    · exact (u2_q (by decide)).trans ((u2_k (by decide)).trans ((u2_k (by decide)).trans u2_e))
    · exact (u2_q (by decide)).trans ((u2_k (by decide)).trans u2_e)
    · exact (u2_q (by decide)).trans u2_e
  have h5W : (am_u2 (am_u2 (am_u2 (am_u2 (am_u2 (am_u2 I 227 1 (z.1.1 5)) 227 2 z.2.1) 227 3 z.2.2) 227 4 (m_sum z.1.1 25 (z.1.1 1).toNat)) 227 5 (m_sum z.1.1 20 (z.1.1 1).toNat)) 208 54 0) 208 54 = 0 := u2_e
  have hfW : MOF I (am_u2 (am_u2 (am_u2 (am_u2 (am_u2 (am_u2 I 227 1 (z.1.1 5)) 227 2 z.2.1) 227 3 z.2.2) 227 4 (m_sum z.1.1 25 (z.1.1 1).toNat)) 227 5 (m_sum z.1.1 20 (z.1.1 1).toNat)) 208 54 0) := ⟨fun q k a b c d e f g i => fW q k c (by omega), fun j _ => fW _ _ (by decide) (by omega), fun j _ => fW _ _ (by decide) (by omega)⟩
  generalize (am_u2 (am_u2 (am_u2 (am_u2 (am_u2 (am_u2 I 227 1 (z.1.1 5)) 227 2 z.2.1) 227 3 z.2.2) 227 4 (m_sum z.1.1 25 (z.1.1 1).toNat)) 227 5 (m_sum z.1.1 20 (z.1.1 1).toNat)) 208 54 0) = KW at *
  have m9W : SE true KW 238 i 5 c oc.2.2.2.2 := hOW.2.2.2.2.2.2.2.2.1
  obtain ⟨y5, K5_, e5, f5, n5_, v5_⟩ := c_sO (d := d + 5) (e := 5) (F := (z.1.1 1).toNat) (dn := z.2.1) (lt := z.2.2) hS hIW.2.2.2.2 hIW.1 hR hnW hok hi (by decide) hc m9W h5W
  refine (ix_46 (S' := [(.inl y5)]) rfl (sh_208 hS) e5 rfl rfl (ex_7_2 rfl (ex_6_0 (ix_41i (v := 1) (sh_208 hS) (n5_ (by rw [ht]; exact hf)) (ex_if1 (fun _ => ?_) (fun hc => by exfalso; revert hc; decide))))))
  refine (ex_0 ?_)
  exact ex_53 (MOr_s (orun_f (fun h => by have := h f_ ht; rw [hf] at this; cases this)) (MOI_S hIW f5) (MOF_trans hfW (MOF_S f5)))
theorem c_run_0 {d : Nat} {G : am_G} {I : Nat → Nat → Int} {P : Nat → Nat → Option Nat} (hS : ST G P) {n i c cc : Nat} {cl : Nat → Cl} {oc : Oc} {z : Od} {ρ0 : Nat → Int} (hi : i < 12) (hc : c ≤ 400) (hO : MO I i c oc) (hI : MOI I z) (hLN : LawNow z.1.1 n cl) (hZ : OzI ρ0 cc z) (hcc : cc ≤ 1000) (hOC : OCok oc) {f_ : Fn} (ht : oc.2.2.2.2 = some f_) (hf : f_ (oz z) = some 0) : ∃ o, am_call am_B am_M (d + 11) 278 [(.inr (.inr (some 208))), (.inl ((8 * i : Nat) : Int))] (G, I, P) = some o ∧ (MOr G P I (orun n cl oc z)) o := by
  have hO0 := hO
  have hW := hZ.1
  have hR := (WR_0 hW).1
  have h59 := (WR_0 hW).2
  obtain ⟨m1, m2, m3, m4, m5, m6, m7, m8, m9, m10⟩ := hO
  have hdn := hZ.2.2.1
  have hlt := hZ.2.2.2
  have hME : ME I z.1.1 n cl := ⟨hI.1, hR, hLN, hI.2.2.2.2⟩
  have hok : okw (oww z.1.1 (z.1.1 1).toNat z.2.1 z.2.2) := okw_oz hZ hcc
  have hO := hO0
  have n1 := RW_n1 hR
  obtain ⟨ta, tx, t1, t2, t3, t4, t5⟩ := m9
  refine am_doQ (L := [some (.inr (.inr (some 208))), some (.inl ((8 * i : Nat) : Int)), none, none, none]) (Nat.le_of_ble_eq_true rfl) rfl ?_
  refine (ex_6_0 (ix_41r (sh_208 hS) (pt_208_36 hS) (ex_0 (ex_6_0 (ix_41r (sh_208 hS) (pt_208_3 hS) (ex_0 (ix_30 (j := 5) (v := (z.1.1 5)) (sh_210 hS) (by decide) (by decide) rfl (congrFun hI.1 _) (ex_19 (ix_36 (j := 1) (sh_227 hS) (by decide) (by decide) rfl (ex_6_0 (ix_41r (sh_208 hS) (pt_208_36 hS) (ex_0 (ex_6_0 (ix_41i (v := z.2.1) (sh_208 hS) ((u2_q (by decide)).trans hI.2.2.1) (ex_19 (ix_36 (j := 2) (sh_227 hS) (by decide) (by decide) rfl (ex_6_0 (ix_41r (sh_208 hS) (pt_208_36 hS) (ex_0 (ex_6_0 (ix_41i (v := z.2.2) (sh_208 hS) ((u2_q (by decide)).trans ((u2_q (by decide)).trans hI.2.2.2.1)) (ex_19 (ix_36 (j := 3) (sh_227 hS) (by decide) (by decide) rfl (ex_6_0 (ix_41r (sh_208 hS) (pt_208_36 hS) (ex_0 (ex_6_0 (ex_0 ?_))))))))))))))))))))))))))))
  have hs25 : (am_u2 (am_u2 (am_u2 I 227 1 (z.1.1 5)) 227 2 z.2.1) 227 3 z.2.2) 210 = z.1.1 := ((u2_qf (by decide)).trans ((u2_qf (by decide)).trans ((u2_qf (by decide)).trans hI.1)))
  have es25 := c_sumOfFolk (d := d + 9) (I := (am_u2 (am_u2 (am_u2 I 227 1 (z.1.1 5)) 227 2 z.2.1) 227 3 z.2.2)) (a := 25) (F := (z.1.1 1).toNat) hS (by rw [hs25]; exact (Int.toNat_of_nonneg n1.1).symm) (by omega) (by decide) (fun i hi => by rw [hs25]; exact RW_kn hR i (by omega))
  rw [hs25] at es25
  refine (ix_46 (S' := [(.inl (m_sum z.1.1 25 (z.1.1 1).toNat)), (.inl 4), (.inr (.inr (some 227)))]) rfl (sh_208 hS) es25 rfl rfl (ex_19 (ix_36 (j := 4) (sh_227 hS) (by decide) (by decide) rfl (ex_6_0 (ix_41r (sh_208 hS) (pt_208_36 hS) (ex_0 (ex_6_0 (ex_0 ?_))))))))
  have hs20 : (am_u2 (am_u2 (am_u2 (am_u2 I 227 1 (z.1.1 5)) 227 2 z.2.1) 227 3 z.2.2) 227 4 (m_sum z.1.1 25 (z.1.1 1).toNat)) 210 = z.1.1 := ((u2_qf (by decide)).trans ((u2_qf (by decide)).trans ((u2_qf (by decide)).trans ((u2_qf (by decide)).trans hI.1))))
  have es20 := c_sumOfFolk (d := d + 9) (I := (am_u2 (am_u2 (am_u2 (am_u2 I 227 1 (z.1.1 5)) 227 2 z.2.1) 227 3 z.2.2) 227 4 (m_sum z.1.1 25 (z.1.1 1).toNat))) (a := 20) (F := (z.1.1 1).toNat) hS (by rw [hs20]; exact (Int.toNat_of_nonneg n1.1).symm) (by omega) (by decide) (fun i hi => by rw [hs20]; exact RW_we hR i (by omega))
  rw [hs20] at es20
  refine (ix_46 (S' := [(.inl (m_sum z.1.1 20 (z.1.1 1).toNat)), (.inl 5), (.inr (.inr (some 227)))]) rfl (sh_208 hS) es20 rfl rfl (ex_19 (ix_36 (j := 5) (sh_227 hS) (by decide) (by decide) rfl (ex_6_0 (ex_0 (ix_42z (sh_208 hS) (by decide) (ex_6_0 (ix_41r (sh_208 hS) (pt_208_50 hS) (ex_4_1 (ex_0 (ex_11e (v := ((8 * i + 5 : Nat) : Int)) ((am_add ⟨by omega, by omega⟩).trans (by omega)) (ix_30 (j := (8 * i + 5)) (v := (ta : Int)) (sh_238 hS) (by omega) (by omega) (by omega) ((u2_q (by decide)).trans ((u2_q (by decide)).trans ((u2_q (by decide)).trans ((u2_q (by decide)).trans ((u2_q (by decide)).trans ((u2_q (by decide)).trans t1)))))) (ex_6_0 (ix_41r (sh_208 hS) (pt_208_50 hS) (ex_4_1 (ex_0 (ex_11e (v := ((8 * i + 6 : Nat) : Int)) ((am_add ⟨by omega, by omega⟩).trans (by omega)) (ix_30 (j := (8 * i + 6)) (v := (tx : Int)) (sh_238 hS) (by omega) (by omega) (by omega) ((u2_q (by decide)).trans ((u2_q (by decide)).trans ((u2_q (by decide)).trans ((u2_q (by decide)).trans ((u2_q (by decide)).trans ((u2_q (by decide)).trans t2)))))) ?_))))))))))))))))))
  refine ex_ic3 (fun hc83 => by exfalso; have := (t5 f_ ht).1.1; omega) (fun hc83 => ?_)
  refine (ex_6_0 (ex_4_1 (ex_0 (ex_11e (v := ((8 * i + 5 : Nat) : Int)) ((am_add ⟨by omega, by omega⟩).trans (by omega)) ?_))))
  have fW : ∀ q k, ¬ q = 227 → ¬ (q = 208 ∧ k = 54) → (am_u2 (am_u2 (am_u2 (am_u2 (am_u2 (am_u2 I 227 1 (z.1.1 5)) 227 2 z.2.1) 227 3 z.2.2) 227 4 (m_sum z.1.1 25 (z.1.1 1).toNat)) 227 5 (m_sum z.1.1 20 (z.1.1 1).toNat)) 208 54 0) q k = I q k := fun q k a b => (u2_o b).trans ((u2_q a).trans ((u2_q a).trans ((u2_q a).trans ((u2_q a).trans (u2_q a)))))
  have hIW : MOI (am_u2 (am_u2 (am_u2 (am_u2 (am_u2 (am_u2 I 227 1 (z.1.1 5)) 227 2 z.2.1) 227 3 z.2.2) 227 4 (m_sum z.1.1 25 (z.1.1 1).toNat)) 227 5 (m_sum z.1.1 20 (z.1.1 1).toNat)) 208 54 0) z := ⟨(funext fun k => fW _ _ (by decide) (by omega)).trans hI.1, MLg_fr hI.2.1 (fW _ _ (by decide) (by decide)) (fun j _ => fW _ _ (by decide) (by omega)) (fun j _ => fW _ _ (by decide) (by omega)), (fW _ _ (by decide) (by decide)).trans hI.2.2.1, (fW _ _ (by decide) (by decide)).trans hI.2.2.2.1, (fW _ _ (by decide) (by decide)).trans hI.2.2.2.2⟩
  have hOW : MO (am_u2 (am_u2 (am_u2 (am_u2 (am_u2 (am_u2 I 227 1 (z.1.1 5)) 227 2 z.2.1) 227 3 z.2.2) 227 4 (m_sum z.1.1 25 (z.1.1 1).toNat)) 227 5 (m_sum z.1.1 20 (z.1.1 1).toNat)) 208 54 0) i c oc := MO_fr hO (funext fun k => fW _ _ (by decide) (by omega)) (funext fun k => fW _ _ (by decide) (by omega)) (funext fun k => fW _ _ (by decide) (by omega))
  have hnW : ∀ o, 1 ≤ o → o < 6 → (am_u2 (am_u2 (am_u2 (am_u2 (am_u2 (am_u2 I 227 1 (z.1.1 5)) 227 2 z.2.1) 227 3 z.2.2) 227 4 (m_sum z.1.1 25 (z.1.1 1).toNat)) 227 5 (m_sum z.1.1 20 (z.1.1 1).toNat)) 208 54 0) 227 o = oz z (o - 1) := by
    intro o q1 q2
    have ho : o = 1 ∨ o = 2 ∨ o = 3 ∨ o = 4 ∨ o = 5 := by omega
    rcases ho with rfl | rfl | rfl | rfl | rfl
    · exact (u2_q (by decide)).trans ((u2_k (by decide)).trans ((u2_k (by decide)).trans ((u2_k (by decide)).trans ((u2_k (by decide)).trans u2_e))))
    · exact (u2_q (by decide)).trans ((u2_k (by decide)).trans ((u2_k (by decide)).trans ((u2_k (by decide)).trans u2_e)))
    · exact (u2_q (by decide)).trans ((u2_k (by decide)).trans ((u2_k (by decide)).trans u2_e))
    · exact (u2_q (by decide)).trans ((u2_k (by decide)).trans u2_e)
    · exact (u2_q (by decide)).trans u2_e
  have h5W : (am_u2 (am_u2 (am_u2 (am_u2 (am_u2 (am_u2 I 227 1 (z.1.1 5)) 227 2 z.2.1) 227 3 z.2.2) 227 4 (m_sum z.1.1 25 (z.1.1 1).toNat)) 227 5 (m_sum z.1.1 20 (z.1.1 1).toNat)) 208 54 0) 208 54 = 0 := u2_e
  have hfW : MOF I (am_u2 (am_u2 (am_u2 (am_u2 (am_u2 (am_u2 I 227 1 (z.1.1 5)) 227 2 z.2.1) 227 3 z.2.2) 227 4 (m_sum z.1.1 25 (z.1.1 1).toNat)) 227 5 (m_sum z.1.1 20 (z.1.1 1).toNat)) 208 54 0) := ⟨fun q k a b c d e f g i => fW q k c (by omega), fun j _ => fW _ _ (by decide) (by omega), fun j _ => fW _ _ (by decide) (by omega)⟩
  generalize (am_u2 (am_u2 (am_u2 (am_u2 (am_u2 (am_u2 I 227 1 (z.1.1 5)) 227 2 z.2.1) 227 3 z.2.2) 227 4 (m_sum z.1.1 25 (z.1.1 1).toNat)) 227 5 (m_sum z.1.1 20 (z.1.1 1).toNat)) 208 54 0) = KW at *
  have m9W : SE true KW 238 i 5 c oc.2.2.2.2 := hOW.2.2.2.2.2.2.2.2.1
  obtain ⟨y5, K5_, e5, f5, n5_, v5_⟩ := c_sO (d := d + 5) (e := 5) (F := (z.1.1 1).toNat) (dn := z.2.1) (lt := z.2.2) hS hIW.2.2.2.2 hIW.1 hR hnW hok hi (by decide) hc m9W h5W
  refine (ix_46 (S' := [(.inl y5)]) rfl (sh_208 hS) e5 rfl rfl (ex_7_2 rfl (ex_6_0 (ix_41i (v := 0) (sh_208 hS) (v5_ 0 (by rw [ht]; exact hf)).1 (ex_if1 (fun hc => by exfalso; revert hc; decide) (fun _ => ?_))))))
  refine (ex_4_2 ?_)
  refine ex_if1 (fun hc102 => by exfalso; have := (v5_ 0 (by rw [ht]; exact hf)).2 (by rw [ht]; exact fun z => by cases z); omega) (fun hc102 => ?_)
  refine (ex_0 ?_)
  exact ex_53 (MOr_s (orun_f (fun h => by have := h f_ ht; rw [hf] at this; cases this)) (MOI_S hIW f5) (MOF_trans hfW (MOF_S f5)))
theorem c_run_1 {d : Nat} {G : am_G} {I : Nat → Nat → Int} {P : Nat → Nat → Option Nat} (hS : ST G P) {n i c cc : Nat} {cl : Nat → Cl} {oc : Oc} {z : Od} {ρ0 : Nat → Int} (hi : i < 12) (hc : c ≤ 400) (hO : MO I i c oc) (hI : MOI I z) (hLN : LawNow z.1.1 n cl) (hZ : OzI ρ0 cc z) (hcc : cc ≤ 1000) (hOC : OCok oc) {f_ : Fn} (ht : oc.2.2.2.2 = some f_) (hf : f_ (oz z) = some 1) : ∃ o, am_call am_B am_M (d + 11) 278 [(.inr (.inr (some 208))), (.inl ((8 * i : Nat) : Int))] (G, I, P) = some o ∧ (MOr G P I (orun n cl oc z)) o := by
  have hO0 := hO
  have hW := hZ.1
  have hR := (WR_0 hW).1
  have h59 := (WR_0 hW).2
  obtain ⟨m1, m2, m3, m4, m5, m6, m7, m8, m9, m10⟩ := hO
  have hdn := hZ.2.2.1
  have hlt := hZ.2.2.2
  have hME : ME I z.1.1 n cl := ⟨hI.1, hR, hLN, hI.2.2.2.2⟩
  have hok : okw (oww z.1.1 (z.1.1 1).toNat z.2.1 z.2.2) := okw_oz hZ hcc
  have hO := hO0
  have n1 := RW_n1 hR
  obtain ⟨ta, tx, t1, t2, t3, t4, t5⟩ := m9
  refine am_doQ (L := [some (.inr (.inr (some 208))), some (.inl ((8 * i : Nat) : Int)), none, none, none]) (Nat.le_of_ble_eq_true rfl) rfl ?_
  refine (ex_6_0 (ix_41r (sh_208 hS) (pt_208_36 hS) (ex_0 (ex_6_0 (ix_41r (sh_208 hS) (pt_208_3 hS) (ex_0 (ix_30 (j := 5) (v := (z.1.1 5)) (sh_210 hS) (by decide) (by decide) rfl (congrFun hI.1 _) (ex_19 (ix_36 (j := 1) (sh_227 hS) (by decide) (by decide) rfl (ex_6_0 (ix_41r (sh_208 hS) (pt_208_36 hS) (ex_0 (ex_6_0 (ix_41i (v := z.2.1) (sh_208 hS) ((u2_q (by decide)).trans hI.2.2.1) (ex_19 (ix_36 (j := 2) (sh_227 hS) (by decide) (by decide) rfl (ex_6_0 (ix_41r (sh_208 hS) (pt_208_36 hS) (ex_0 (ex_6_0 (ix_41i (v := z.2.2) (sh_208 hS) ((u2_q (by decide)).trans ((u2_q (by decide)).trans hI.2.2.2.1)) (ex_19 (ix_36 (j := 3) (sh_227 hS) (by decide) (by decide) rfl (ex_6_0 (ix_41r (sh_208 hS) (pt_208_36 hS) (ex_0 (ex_6_0 (ex_0 ?_))))))))))))))))))))))))))))
  have hs25 : (am_u2 (am_u2 (am_u2 I 227 1 (z.1.1 5)) 227 2 z.2.1) 227 3 z.2.2) 210 = z.1.1 := ((u2_qf (by decide)).trans ((u2_qf (by decide)).trans ((u2_qf (by decide)).trans hI.1)))
  have es25 := c_sumOfFolk (d := d + 9) (I := (am_u2 (am_u2 (am_u2 I 227 1 (z.1.1 5)) 227 2 z.2.1) 227 3 z.2.2)) (a := 25) (F := (z.1.1 1).toNat) hS (by rw [hs25]; exact (Int.toNat_of_nonneg n1.1).symm) (by omega) (by decide) (fun i hi => by rw [hs25]; exact RW_kn hR i (by omega))
  rw [hs25] at es25
  refine (ix_46 (S' := [(.inl (m_sum z.1.1 25 (z.1.1 1).toNat)), (.inl 4), (.inr (.inr (some 227)))]) rfl (sh_208 hS) es25 rfl rfl (ex_19 (ix_36 (j := 4) (sh_227 hS) (by decide) (by decide) rfl (ex_6_0 (ix_41r (sh_208 hS) (pt_208_36 hS) (ex_0 (ex_6_0 (ex_0 ?_))))))))
  have hs20 : (am_u2 (am_u2 (am_u2 (am_u2 I 227 1 (z.1.1 5)) 227 2 z.2.1) 227 3 z.2.2) 227 4 (m_sum z.1.1 25 (z.1.1 1).toNat)) 210 = z.1.1 := ((u2_qf (by decide)).trans ((u2_qf (by decide)).trans ((u2_qf (by decide)).trans ((u2_qf (by decide)).trans hI.1))))
  have es20 := c_sumOfFolk (d := d + 9) (I := (am_u2 (am_u2 (am_u2 (am_u2 I 227 1 (z.1.1 5)) 227 2 z.2.1) 227 3 z.2.2) 227 4 (m_sum z.1.1 25 (z.1.1 1).toNat))) (a := 20) (F := (z.1.1 1).toNat) hS (by rw [hs20]; exact (Int.toNat_of_nonneg n1.1).symm) (by omega) (by decide) (fun i hi => by rw [hs20]; exact RW_we hR i (by omega))
  rw [hs20] at es20
  refine (ix_46 (S' := [(.inl (m_sum z.1.1 20 (z.1.1 1).toNat)), (.inl 5), (.inr (.inr (some 227)))]) rfl (sh_208 hS) es20 rfl rfl (ex_19 (ix_36 (j := 5) (sh_227 hS) (by decide) (by decide) rfl (ex_6_0 (ex_0 (ix_42z (sh_208 hS) (by decide) (ex_6_0 (ix_41r (sh_208 hS) (pt_208_50 hS) (ex_4_1 (ex_0 (ex_11e (v := ((8 * i + 5 : Nat) : Int)) ((am_add ⟨by omega, by omega⟩).trans (by omega)) (ix_30 (j := (8 * i + 5)) (v := (ta : Int)) (sh_238 hS) (by omega) (by omega) (by omega) ((u2_q (by decide)).trans ((u2_q (by decide)).trans ((u2_q (by decide)).trans ((u2_q (by decide)).trans ((u2_q (by decide)).trans ((u2_q (by decide)).trans t1)))))) (ex_6_0 (ix_41r (sh_208 hS) (pt_208_50 hS) (ex_4_1 (ex_0 (ex_11e (v := ((8 * i + 6 : Nat) : Int)) ((am_add ⟨by omega, by omega⟩).trans (by omega)) (ix_30 (j := (8 * i + 6)) (v := (tx : Int)) (sh_238 hS) (by omega) (by omega) (by omega) ((u2_q (by decide)).trans ((u2_q (by decide)).trans ((u2_q (by decide)).trans ((u2_q (by decide)).trans ((u2_q (by decide)).trans ((u2_q (by decide)).trans t2)))))) ?_))))))))))))))))))
  refine ex_ic3 (fun hc83 => by exfalso; have := (t5 f_ ht).1.1; omega) (fun hc83 => ?_)
  refine (ex_6_0 (ex_4_1 (ex_0 (ex_11e (v := ((8 * i + 5 : Nat) : Int)) ((am_add ⟨by omega, by omega⟩).trans (by omega)) ?_))))
  have fW : ∀ q k, ¬ q = 227 → ¬ (q = 208 ∧ k = 54) → (am_u2 (am_u2 (am_u2 (am_u2 (am_u2 (am_u2 I 227 1 (z.1.1 5)) 227 2 z.2.1) 227 3 z.2.2) 227 4 (m_sum z.1.1 25 (z.1.1 1).toNat)) 227 5 (m_sum z.1.1 20 (z.1.1 1).toNat)) 208 54 0) q k = I q k := fun q k a b => (u2_o b).trans ((u2_q a).trans ((u2_q a).trans ((u2_q a).trans ((u2_q a).trans (u2_q a)))))
  have hIW : MOI (am_u2 (am_u2 (am_u2 (am_u2 (am_u2 (am_u2 I 227 1 (z.1.1 5)) 227 2 z.2.1) 227 3 z.2.2) 227 4 (m_sum z.1.1 25 (z.1.1 1).toNat)) 227 5 (m_sum z.1.1 20 (z.1.1 1).toNat)) 208 54 0) z := ⟨(funext fun k => fW _ _ (by decide) (by omega)).trans hI.1, MLg_fr hI.2.1 (fW _ _ (by decide) (by decide)) (fun j _ => fW _ _ (by decide) (by omega)) (fun j _ => fW _ _ (by decide) (by omega)), (fW _ _ (by decide) (by decide)).trans hI.2.2.1, (fW _ _ (by decide) (by decide)).trans hI.2.2.2.1, (fW _ _ (by decide) (by decide)).trans hI.2.2.2.2⟩
  have hOW : MO (am_u2 (am_u2 (am_u2 (am_u2 (am_u2 (am_u2 I 227 1 (z.1.1 5)) 227 2 z.2.1) 227 3 z.2.2) 227 4 (m_sum z.1.1 25 (z.1.1 1).toNat)) 227 5 (m_sum z.1.1 20 (z.1.1 1).toNat)) 208 54 0) i c oc := MO_fr hO (funext fun k => fW _ _ (by decide) (by omega)) (funext fun k => fW _ _ (by decide) (by omega)) (funext fun k => fW _ _ (by decide) (by omega))
  have hnW : ∀ o, 1 ≤ o → o < 6 → (am_u2 (am_u2 (am_u2 (am_u2 (am_u2 (am_u2 I 227 1 (z.1.1 5)) 227 2 z.2.1) 227 3 z.2.2) 227 4 (m_sum z.1.1 25 (z.1.1 1).toNat)) 227 5 (m_sum z.1.1 20 (z.1.1 1).toNat)) 208 54 0) 227 o = oz z (o - 1) := by
    intro o q1 q2
    have ho : o = 1 ∨ o = 2 ∨ o = 3 ∨ o = 4 ∨ o = 5 := by omega
    rcases ho with rfl | rfl | rfl | rfl | rfl
    · exact (u2_q (by decide)).trans ((u2_k (by decide)).trans ((u2_k (by decide)).trans ((u2_k (by decide)).trans ((u2_k (by decide)).trans u2_e))))
    · exact (u2_q (by decide)).trans ((u2_k (by decide)).trans ((u2_k (by decide)).trans ((u2_k (by decide)).trans u2_e)))
    · exact (u2_q (by decide)).trans ((u2_k (by decide)).trans ((u2_k (by decide)).trans u2_e))
    · exact (u2_q (by decide)).trans ((u2_k (by decide)).trans u2_e)
    · exact (u2_q (by decide)).trans u2_e
  have h5W : (am_u2 (am_u2 (am_u2 (am_u2 (am_u2 (am_u2 I 227 1 (z.1.1 5)) 227 2 z.2.1) 227 3 z.2.2) 227 4 (m_sum z.1.1 25 (z.1.1 1).toNat)) 227 5 (m_sum z.1.1 20 (z.1.1 1).toNat)) 208 54 0) 208 54 = 0 := u2_e
  have hfW : MOF I (am_u2 (am_u2 (am_u2 (am_u2 (am_u2 (am_u2 I 227 1 (z.1.1 5)) 227 2 z.2.1) 227 3 z.2.2) 227 4 (m_sum z.1.1 25 (z.1.1 1).toNat)) 227 5 (m_sum z.1.1 20 (z.1.1 1).toNat)) 208 54 0) := ⟨fun q k a b c d e f g i => fW q k c (by omega), fun j _ => fW _ _ (by decide) (by omega), fun j _ => fW _ _ (by decide) (by omega)⟩
  generalize (am_u2 (am_u2 (am_u2 (am_u2 (am_u2 (am_u2 I 227 1 (z.1.1 5)) 227 2 z.2.1) 227 3 z.2.2) 227 4 (m_sum z.1.1 25 (z.1.1 1).toNat)) 227 5 (m_sum z.1.1 20 (z.1.1 1).toNat)) 208 54 0) = KW at *
  have m9W : SE true KW 238 i 5 c oc.2.2.2.2 := hOW.2.2.2.2.2.2.2.2.1
  obtain ⟨y5, K5_, e5, f5, n5_, v5_⟩ := c_sO (d := d + 5) (e := 5) (F := (z.1.1 1).toNat) (dn := z.2.1) (lt := z.2.2) hS hIW.2.2.2.2 hIW.1 hR hnW hok hi (by decide) hc m9W h5W
  refine (ix_46 (S' := [(.inl y5)]) rfl (sh_208 hS) e5 rfl rfl (ex_7_2 rfl (ex_6_0 (ix_41i (v := 0) (sh_208 hS) (v5_ 1 (by rw [ht]; exact hf)).1 (ex_if1 (fun hc => by exfalso; revert hc; decide) (fun _ => ?_))))))
  refine (ex_4_2 ?_)
  refine ex_if1 (fun hc102 => ?_) (fun hc102 => by exfalso; have := (v5_ 1 (by rw [ht]; exact hf)).2 (by rw [ht]; exact fun z => by cases z); omega)
  refine c_r4 hS hi hc (MO_fr hOW (funext fun k => f5 _ _ (by decide) (by omega)) (funext fun k => f5 _ _ (by decide) (by omega)) (funext fun k => f5 _ _ (by decide) (by omega))) (MOI_S hIW f5) hLN hZ hcc (fun o q1 q2 => (f5 _ _ (by decide) (by omega)).trans (hnW o q1 q2)) (v5_ 1 (by rw [ht]; exact hf)).1 hOC (fun o ho => MOr_tr (MOF_trans hfW (MOF_S f5)) ?_)
  rw [orun_t (fun f e => by rw [ht] at e; cases e; exact hf)]
  exact ho
theorem c_run {d : Nat} {G : am_G} {I : Nat → Nat → Int} {P : Nat → Nat → Option Nat} (hS : ST G P) {n i c cc : Nat} {cl : Nat → Cl} {oc : Oc} {z : Od} {ρ0 : Nat → Int} (hi : i < 12) (hc : c ≤ 400) (hO : MO I i c oc) (hI : MOI I z) (hLN : LawNow z.1.1 n cl) (hZ : OzI ρ0 cc z) (hcc : cc ≤ 1000) (hOC : OCok oc) : ∃ o, am_call am_B am_M (d + 11) 278 [.inr (.inr (some 208)), .inl ((8 * i : Nat) : Int)] (G, I, P) = some o ∧ MOr G P I (orun n cl oc z) o := by
  cases ht : oc.2.2.2.2 with
  | none => exact c_run_n hS hi hc hO hI hLN hZ hcc hOC ht
  | some f_ =>
    rcases hO.2.2.2.2.2.2.2.2.2 f_ ht (oz z) (okw_oz hZ hcc) with hf | hf | hf
    · exact c_run_b hS hi hc hO hI hLN hZ hcc hOC ht hf
    · exact c_run_0 hS hi hc hO hI hLN hZ hcc hOC ht hf
    · exact c_run_1 hS hi hc hO hI hLN hZ hcc hOC ht hf
