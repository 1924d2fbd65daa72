/-! ===== the reference: an order is run once ===== -/
theorem c_rkO {d : Nat} {G : am_G} {I : Nat → Nat → Int} {P : Nat → Nat → Option Nat} (hS : ST G P) {ρ : Nat → Int} {F a x : Nat} {dn lt : Int} {f : Fn} (h20 : I 208 20 = 1) (hr : I 210 = ρ) (hR : RW ρ) (hnow : ∀ o, 1 ≤ o → o < 6 → I 227 o = oww ρ F dn lt (o - 1)) (hok : okw (oww ρ F dn lt)) (hx : x ≤ 400) (hM : MS true (I 219) (I 220) a x 20 f) : ∃ I1, am_call am_B am_M (d + 4) 228 [.inr (.inr (some 208)), .inl (a : Int), .inl (x : Int)] (G, I, P) = some (none, (G, I1, P)) ∧ FR I I1 ∧ (f (oww ρ F dn lt) = none → I1 208 38 = 1) ∧ (∀ v, f (oww ρ F dn lt) = some v → I1 208 38 = 0 ∧ I1 208 39 = v) := by
  have hs := hM.2.2 (I 219) (I 220) (fun _ _ _ => ⟨rfl, rfl⟩) (oww ρ F dn lt) hok
  have n0 := RW_n0 hR
  have n1 := RW_n1 hR
  have hwv : ∀ o a v, wvM true (oww ρ F dn lt) o a = some v → 1 ≤ o → o < 20 → (o < 6 ∧ I 227 o.toNat = v) ∨ (o = 6 ∧ 0 ≤ a ∧ a < I 210 0 ∧ I 210 (9 + a.toNat) = v) ∨ (o = 6 ∧ 0 ≤ a ∧ ¬ a < I 210 0 ∧ -1 = v) ∨ (o = 7 ∧ 0 ≤ a ∧ a < I 210 1 ∧ I 210 (15 + a.toNat) = v) ∨ (o = 7 ∧ 0 ≤ a ∧ ¬ a < I 210 1 ∧ -1 = v) := by
    intro o a v e h1 h2
    unfold wvM at e
    rw [if_pos rfl] at e
    unfold wvO at e
    rw [hr]
    by_cases c1 : 1 ≤ o ∧ o < 6
    · rw [if_pos c1] at e
      refine Or.inl ⟨c1.2, ?_⟩
      rw [hnow o.toNat (by omega) (by omega)]
      exact Option.some.inj e
    · rw [if_neg c1] at e
      by_cases c2 : o = 6 ∧ 0 ≤ a ∧ a < 6
      · rw [if_pos c2] at e
        have e := Option.some.inj e
        unfold oww at e
        rw [if_neg (by omega), if_neg (by omega), if_neg (by omega), if_neg (by omega), if_neg (by omega), if_pos (by omega)] at e
        by_cases c3 : a < ρ 0
        · rw [if_pos (by omega)] at e
          refine Or.inr (Or.inl ⟨c2.1, c2.2.1, c3, ?_⟩)
          rw [← e]; exact congrArg ρ (by omega)
        · rw [if_neg (by omega)] at e
          exact Or.inr (Or.inr (Or.inl ⟨c2.1, c2.2.1, c3, e⟩))
      · rw [if_neg c2] at e
        by_cases c4 : o = 7 ∧ 0 ≤ a ∧ a < 5
        · rw [if_pos c4] at e
          have e := Option.some.inj e
          unfold oww at e
          rw [if_neg (by omega), if_neg (by omega), if_neg (by omega), if_neg (by omega), if_neg (by omega), if_neg (by omega)] at e
          by_cases c3 : a < ρ 1
          · rw [if_pos (by omega)] at e
            refine Or.inr (Or.inr (Or.inr (Or.inl ⟨c4.1, c4.2.1, c3, ?_⟩)))
            rw [← e]; exact congrArg ρ (by omega)
          · rw [if_neg (by omega)] at e
            exact Or.inr (Or.inr (Or.inr (Or.inr ⟨c4.1, c4.2.1, c3, e⟩)))
        · rw [if_neg c4] at e; cases e
  have h0' : 0 ≤ I 210 0 ∧ I 210 0 ≤ 6 := by rw [hr]; exact n0
  have h1' : 0 ≤ I 210 1 ∧ I 210 1 ≤ 5 := by rw [hr]; exact n1
  cases hf : f (oww ρ F dn lt) with
  | none =>
    rw [hf] at hs
    obtain ⟨I1, e, fr, res, hq, z1, _⟩ := c_rkAllO (d := d) (QQ := fun res => res = none) hS h20 (fun k _ => ⟨rfl, rfl⟩) hx h0' h1' hwv ((hs x 0 (I 228) _ (Nat.le_refl _) hx (by omega)).2 rfl rfl) (fun _ _ z => by cases z)
    exact ⟨I1, e, fr, fun _ => z1 hq, fun v z => by cases z⟩
  | some v =>
    rw [hf] at hs
    obtain ⟨I1, e, fr, res, ⟨r0, hq, hr0⟩, _, s1⟩ := c_rkAllO (d := d) (QQ := fun res => ∃ r0, res = some (0 + 1, r0) ∧ r0 0 = v) hS h20 (fun k _ => ⟨rfl, rfl⟩) hx h0' h1' hwv ((hs x 0 (I 228) _ (Nat.le_refl _) hx (by omega)).1 v rfl (fun r' _ e => rkE_end (Nat.le_refl _) ⟨r', rfl, e⟩)) (fun n r z => by obtain ⟨r0, z, -⟩ := z; cases z; omega)
    refine ⟨I1, e, fr, fun z => (by cases z), fun v' z => ?_⟩
    cases z
    have := s1 0 r0 hq
    exact ⟨this.1, this.2.trans hr0⟩
/-- what a sum of an order leaves alone -/
def SFm (I J : Nat → Nat → Int) : Prop := ∀ q k, ¬ q = 228 → ¬ (q = 208 ∧ (k = 38 ∨ k = 39 ∨ k = 40 ∨ k = 54)) → J q k = I q k
theorem SFm_refl {I : Nat → Nat → Int} : SFm I I := fun _ _ _ _ => rfl
theorem SFm_trans {I J K : Nat → Nat → Int} (h : SFm I J) (h2 : SFm J K) : SFm I K := fun q k a b => (h2 q k a b).trans (h q k a b)
theorem c_sO_off {d : Nat} {G : am_G} {I : Nat → Nat → Int} {P : Nat → Nat → Option Nat} (hS : ST G P) (h54 : I 208 54 = 1) {v : Int} : am_call am_B am_M (d + 5) 276 [(.inr (.inr (some 208))), (.inl v)] (G, I, P) = some (some (.inl (-1)), (G, I, P)) := by
  refine am_doL (L := [some (.inr (.inr (some 208))), some (.inl v)]) (Nat.le_of_ble_eq_true rfl) rfl ?_
  refine (ex_6_0 (ix_41i (v := 1) (sh_208 hS) h54 (ex_if1 (fun _ => ?_) (fun hc => by exfalso; revert hc; decide))))
  refine (ex_0 ?_)
  exact ex_53 rfl
theorem c_sO_n {d : Nat} {G : am_G} {I : Nat → Nat → Int} {P : Nat → Nat → Option Nat} (hS : ST G P) {ρ : Nat → Int} {F i e a x : Nat} {dn lt : Int} (h20 : I 208 20 = 0) (hr : I 210 = ρ) (hR : RW ρ) (hnow : ∀ o, 1 ≤ o → o < 6 → I 227 o = oww ρ F dn lt (o - 1)) (hok : okw (oww ρ F dn lt)) (hi : i < 12) (he : e < 7) (h1 : I 238 (8 * i + e) = (a : Int)) (h2 : I 238 (8 * i + (e + 1)) = (x : Int)) (hxc : x ≤ 400) (h54 : I 208 54 = 0) (hax : a = x) : am_call am_B am_M (d + 5) 276 [(.inr (.inr (some 208))), (.inl ((8 * i + e : Nat) : Int))] (G, I, P) = some (some (.inl (-1)), (G, I, P)) := by
  refine am_doL (L := [some (.inr (.inr (some 208))), some (.inl ((8 * i + e : Nat) : Int))]) (Nat.le_of_ble_eq_true rfl) rfl ?_
  refine (ex_6_0 (ix_41i (v := 0) (sh_208 hS) h54 (ex_if1 (fun hc => by exfalso; revert hc; decide) (fun _ => ?_))))
  refine (ex_6_0 (ix_41r (sh_208 hS) (pt_208_50 hS) (ex_4_1 (ix_30 (j := (8 * i + e)) (v := (a : Int)) (sh_238 hS) (by omega) (by omega) (by omega) h1 (ex_6_0 (ix_41r (sh_208 hS) (pt_208_50 hS) (ex_4_1 (ex_0 (ex_11e (v := ((8 * i + (e + 1) : Nat) : Int)) ((am_add ⟨by omega, by omega⟩).trans (by omega)) (ix_30 (j := (8 * i + (e + 1))) (v := (x : Int)) (sh_238 hS) (by omega) (by omega) (by omega) h2 ?_))))))))))
  refine ex_ic1 (fun hc21 => by exfalso; omega) (fun hc21 => ?_)
  refine (ex_0 ?_)
  exact ex_53 rfl
theorem c_sO_b {d : Nat} {G : am_G} {I : Nat → Nat → Int} {P : Nat → Nat → Option Nat} (hS : ST G P) {ρ : Nat → Int} {F i e a x : Nat} {dn lt : Int} (h20 : I 208 20 = 0) (hr : I 210 = ρ) (hR : RW ρ) (hnow : ∀ o, 1 ≤ o → o < 6 → I 227 o = oww ρ F dn lt (o - 1)) (hok : okw (oww ρ F dn lt)) (hi : i < 12) (he : e < 7) (h1 : I 238 (8 * i + e) = (a : Int)) (h2 : I 238 (8 * i + (e + 1)) = (x : Int)) (hxc : x ≤ 400) (h54 : I 208 54 = 0) (hax : a < x) {f_ : Fn} (hM : MS true (I 219) (I 220) a x 20 f_) (hf : f_ (oww ρ F dn lt) = none) : ∃ o, am_call am_B am_M (d + 5) 276 [(.inr (.inr (some 208))), (.inl ((8 * i + e : Nat) : Int))] (G, I, P) = some o ∧ (fun o => ∃ y I1, o = (some (.inl y), (G, I1, P)) ∧ I1 208 54 = 1 ∧ SFm I I1) o := by
  refine am_doQ (L := [some (.inr (.inr (some 208))), some (.inl ((8 * i + e : Nat) : Int))]) (Nat.le_of_ble_eq_true rfl) rfl ?_
  refine (ex_6_0 (ix_41i (v := 0) (sh_208 hS) h54 (ex_if1 (fun hc => by exfalso; revert hc; decide) (fun _ => ?_))))
  refine (ex_6_0 (ix_41r (sh_208 hS) (pt_208_50 hS) (ex_4_1 (ix_30 (j := (8 * i + e)) (v := (a : Int)) (sh_238 hS) (by omega) (by omega) (by omega) h1 (ex_6_0 (ix_41r (sh_208 hS) (pt_208_50 hS) (ex_4_1 (ex_0 (ex_11e (v := ((8 * i + (e + 1) : Nat) : Int)) ((am_add ⟨by omega, by omega⟩).trans (by omega)) (ix_30 (j := (8 * i + (e + 1))) (v := (x : Int)) (sh_238 hS) (by omega) (by omega) (by omega) h2 ?_))))))))))
  refine ex_ic1 (fun hc21 => ?_) (fun hc21 => by exfalso; omega)
  refine (ex_6_0 (ex_0 (ix_42z (sh_208 hS) (by decide) (ex_6_0 (ex_6_0 (ix_41r (sh_208 hS) (pt_208_50 hS) (ex_4_1 (ix_30 (j := (8 * i + e)) (v := (a : Int)) (sh_238 hS) (by omega) (by omega) (by omega) ((u2_q (by decide)).trans h1) (ex_6_0 (ix_41r (sh_208 hS) (pt_208_50 hS) (ex_4_1 (ex_0 (ex_11e (v := ((8 * i + (e + 1) : Nat) : Int)) ((am_add ⟨by omega, by omega⟩).trans (by omega)) (ix_30 (j := (8 * i + (e + 1))) (v := (x : Int)) (sh_238 hS) (by omega) (by omega) (by omega) ((u2_q (by decide)).trans h2) ?_))))))))))))))
  obtain ⟨K, eK, fK, z1, z2⟩ := c_rkO (d := d) (I := (am_u2 I 208 20 1)) (F := F) (dn := dn) (lt := lt) hS u2_e ((u2_qf (by decide)).trans hr) hR (fun o q1 q2 => (u2_q (by decide)).trans (hnow o q1 q2)) hok hxc (f := f_) (by rw [u2_qf (by decide), u2_qf (by decide)]; exact hM)
  have fI : ∀ q k, ¬ q = 228 → ¬ (q = 208 ∧ (k = 38 ∨ k = 39 ∨ k = 40)) → ¬ (q = 208 ∧ k = 20) → K q k = I q k := fun q k a b e => (fK q k a b).trans (u2_o e)
  have k38 := z1 hf
  refine (ix_46 (S' := []) rfl (sh_208 hS) eK rfl rfl (ex_6_0 (ex_0 (ix_42z (sh_208 hS) (by decide) (ex_6_0 (ex_6_0 (ix_41i (v := 1) (sh_208 hS) ((u2_k (by decide)).trans k38) (ix_42z (sh_208 hS) (by decide) (ex_6_0 (ix_41l (v := (K 208 39)) (sh_208 hS) ((u2_k (by decide)).trans (u2_k (by decide))) (ex_20w ?_)))))))))))
  exact ex_53 ⟨_, _, rfl, u2_e, fun q k a b => (u2_o (by omega)).trans (by by_cases e9 : q = 208 ∧ k = 20; (obtain ⟨e1, e2⟩ := e9; subst e1; subst e2; exact u2_e.trans h20.symm); (exact (u2_o e9).trans (fI q k a (by omega) e9)))⟩
theorem c_sO_s {d : Nat} {G : am_G} {I : Nat → Nat → Int} {P : Nat → Nat → Option Nat} (hS : ST G P) {ρ : Nat → Int} {F i e a x : Nat} {dn lt : Int} (h20 : I 208 20 = 0) (hr : I 210 = ρ) (hR : RW ρ) (hnow : ∀ o, 1 ≤ o → o < 6 → I 227 o = oww ρ F dn lt (o - 1)) (hok : okw (oww ρ F dn lt)) (hi : i < 12) (he : e < 7) (h1 : I 238 (8 * i + e) = (a : Int)) (h2 : I 238 (8 * i + (e + 1)) = (x : Int)) (hxc : x ≤ 400) (h54 : I 208 54 = 0) (hax : a < x) {f_ : Fn} (hM : MS true (I 219) (I 220) a x 20 f_) (hrk : ∀ v, f_ (oww ρ F dn lt) = some v → rkb v) {v : Int} (hf : f_ (oww ρ F dn lt) = some v) : ∃ I1, am_call am_B am_M (d + 5) 276 [(.inr (.inr (some 208))), (.inl ((8 * i + e : Nat) : Int))] (G, I, P) = some (some (.inl v), (G, I1, P)) ∧ (I1 208 54 = 0 ∧ SFm I I1) := by
  have w : am_ex (am_call am_B am_M (d + 4)) (am_B 276) (am_B 276 0) [some (.inr (.inr (some 208))), some (.inl ((8 * i + e : Nat) : Int))] [] (G, I, P) (fun o => ∃ I1, o = (some (.inl v), (G, I1, P)) ∧ (I1 208 54 = 0 ∧ SFm I I1)) := by
    refine (ex_6_0 (ix_41i (v := 0) (sh_208 hS) h54 (ex_if1 (fun hc => by exfalso; revert hc; decide) (fun _ => ?_))))
    refine (ex_6_0 (ix_41r (sh_208 hS) (pt_208_50 hS) (ex_4_1 (ix_30 (j := (8 * i + e)) (v := (a : Int)) (sh_238 hS) (by omega) (by omega) (by omega) h1 (ex_6_0 (ix_41r (sh_208 hS) (pt_208_50 hS) (ex_4_1 (ex_0 (ex_11e (v := ((8 * i + (e + 1) : Nat) : Int)) ((am_add ⟨by omega, by omega⟩).trans (by omega)) (ix_30 (j := (8 * i + (e + 1))) (v := (x : Int)) (sh_238 hS) (by omega) (by omega) (by omega) h2 ?_))))))))))
    refine ex_ic1 (fun hc21 => ?_) (fun hc21 => by exfalso; omega)
    refine (ex_6_0 (ex_0 (ix_42z (sh_208 hS) (by decide) (ex_6_0 (ex_6_0 (ix_41r (sh_208 hS) (pt_208_50 hS) (ex_4_1 (ix_30 (j := (8 * i + e)) (v := (a : Int)) (sh_238 hS) (by omega) (by omega) (by omega) ((u2_q (by decide)).trans h1) (ex_6_0 (ix_41r (sh_208 hS) (pt_208_50 hS) (ex_4_1 (ex_0 (ex_11e (v := ((8 * i + (e + 1) : Nat) : Int)) ((am_add ⟨by omega, by omega⟩).trans (by omega)) (ix_30 (j := (8 * i + (e + 1))) (v := (x : Int)) (sh_238 hS) (by omega) (by omega) (by omega) ((u2_q (by decide)).trans h2) ?_))))))))))))))
    obtain ⟨K, eK, fK, z1, z2⟩ := c_rkO (d := d) (I := (am_u2 I 208 20 1)) (F := F) (dn := dn) (lt := lt) hS u2_e ((u2_qf (by decide)).trans hr) hR (fun o q1 q2 => (u2_q (by decide)).trans (hnow o q1 q2)) hok hxc (f := f_) (by rw [u2_qf (by decide), u2_qf (by decide)]; exact hM)
    have fI : ∀ q k, ¬ q = 228 → ¬ (q = 208 ∧ (k = 38 ∨ k = 39 ∨ k = 40)) → ¬ (q = 208 ∧ k = 20) → K q k = I q k := fun q k a b e => (fK q k a b).trans (u2_o e)
    obtain ⟨k38, k39⟩ := z2 v hf
    have hrv := hrk v hf
    unfold rkb at hrv
    refine (ix_46 (S' := []) rfl (sh_208 hS) eK rfl rfl (ex_6_0 (ex_0 (ix_42z (sh_208 hS) (by decide) (ex_6_0 (ex_6_0 (ix_41i (v := 0) (sh_208 hS) ((u2_k (by decide)).trans k38) (ix_42z (sh_208 hS) (by decide) (ex_6_0 (ix_41l (v := v) (sh_208 hS) ((u2_k (by decide)).trans ((u2_k (by decide)).trans k39)) (ex_20 ⟨by omega, by omega⟩ ?_)))))))))))
    exact ex_53 ⟨_, rfl, u2_e, fun q k a b => (u2_o (by omega)).trans (by by_cases e9 : q = 208 ∧ k = 20; (obtain ⟨e1, e2⟩ := e9; subst e1; subst e2; exact u2_e.trans h20.symm); (exact (u2_o e9).trans (fI q k a (by omega) e9)))⟩
  obtain ⟨o, e, I1, rfl, h⟩ := am_doQ (as := [(.inr (.inr (some 208))), (.inl ((8 * i + e : Nat) : Int))]) (Nat.le_of_ble_eq_true rfl) rfl w
  exact ⟨I1, e, h⟩
/-- a sum of an order, asked for -/
theorem c_sO {d : Nat} {G : am_G} {I : Nat → Nat → Int} {P : Nat → Nat → Option Nat} (hS : ST G P) {ρ : Nat → Int} {F i e c : Nat} {dn lt : Int} {o : Option Fn} (h20 : I 208 20 = 0) (hr : I 210 = ρ) (hR : RW ρ) (hnow : ∀ o, 1 ≤ o → o < 6 → I 227 o = oww ρ F dn lt (o - 1)) (hok : okw (oww ρ F dn lt)) (hi : i < 12) (he : e < 7) (hc : c ≤ 400) (hE : SE true I 238 i e c o) (h54 : I 208 54 = 0) : ∃ y I1, am_call am_B am_M (d + 5) 276 [.inr (.inr (some 208)), .inl ((8 * i + e : Nat) : Int)] (G, I, P) = some (some (.inl y), (G, I1, P)) ∧ SFm I I1 ∧ (oone o (oww ρ F dn lt) = none → I1 208 54 = 1) ∧ (∀ v, oone o (oww ρ F dn lt) = some v → I1 208 54 = 0 ∧ (¬ o = none → y = v)) := by
  obtain ⟨a, x, h1, h2, h3, h4, h5⟩ := hE
  cases o with
  | none =>
    refine ⟨_, I, c_sO_n hS h20 hr hR hnow hok hi he h1 h2 (by omega) h54 (h4 rfl), SFm_refl, fun z => (by cases z), fun v z => ⟨h54, fun z2 => absurd rfl z2⟩⟩
  | some f =>
    obtain ⟨hM, hV⟩ := h5 f rfl
    cases hf : f (oww ρ F dn lt) with
    | none =>
      obtain ⟨_, eo, y, I1, rfl, k1, k2⟩ := c_sO_b (d := d) hS h20 hr hR hnow hok hi he h1 h2 (by omega) h54 hM.1 hM hf
      refine ⟨y, I1, eo, k2, fun _ => k1, fun v z => ?_⟩
      have z : f (oww ρ F dn lt) = some v := z
      rw [hf] at z; cases z
    | some v =>
      obtain ⟨I1, eo, k1, k2⟩ := c_sO_s (d := d) hS h20 hr hR hnow hok hi he h1 h2 (by omega) h54 hM.1 hM (hV (oww ρ F dn lt) hok) hf
      refine ⟨v, I1, eo, k2, fun z => ?_, fun v' z => ?_⟩
      · have z : f (oww ρ F dn lt) = none := z
        rw [hf] at z; cases z
      · have z : f (oww ρ F dn lt) = some v' := z
        rw [hf] at z
        exact ⟨k1, fun _ => Option.some.inj z⟩
theorem c_a0n {d : Nat} {G : am_G} {I : Nat → Nat → Int} {P : Nat → Nat → Option Nat} (hS : ST G P) {ρ : Nat → Int} {n : Nat} {cl : Nat → Cl} (hM : ME I ρ n cl) {a b : Int} (h : oact ρ n cl 0 a b = none) : ∃ (x : Int) (I1 : Nat → Nat → Int), am_call am_B am_M (d + 9) 238 [.inr (.inr (some 208)), .inl a, .inl b] (G, I, P) = some (some (.inl x), (G, I1, P)) ∧ x < 0 ∧ TF I I1 := by
  by_cases c : (0 ≤ a ∧ a < ρ 0) ∧ (0 ≤ b ∧ b < ρ 1)
  · have hc : ¬ m_can ρ n cl a.toNat b.toNat := fun z => by rw [oact_0t ⟨c, z⟩] at h; cases h
    obtain ⟨I1, e, f⟩ := c_ringNow_c (d := d) hS hM (c := a.toNat) (f := b.toNat) (by omega) (by omega) hc
    rw [Int.toNat_of_nonneg c.1.1, Int.toNat_of_nonneg c.2.1] at e
    exact ⟨_, I1, e, by decide, f⟩
  · exact ⟨_, I, c_ringNow_n hS hM c, by decide, TF_refl⟩
theorem c_a0s {d : Nat} {G : am_G} {I : Nat → Nat → Int} {P : Nat → Nat → Option Nat} (hS : ST G P) {ρ : Nat → Int} {n : Nat} {cl : Nat → Cl} (hM : ME I ρ n cl) {u : Nat} (hu : I 208 8 = (u : Int)) (hu16 : u ≤ 16) {a b : Int} {q : (Nat → Int) × De × Int} (hq : oact ρ n cl 0 a b = some q) : ∃ I1, am_call am_B am_M (d + 9) 238 [.inr (.inr (some 208)), .inl a, .inl b] (G, I, P) = some (some (.inl q.2.2), (G, I1, P)) ∧ DONE I ρ q.1 u 0 I1 := by
  rcases oact_v (by decide) hq with ⟨_, c, rfl⟩ | ⟨e, _⟩ | ⟨e, _⟩ | ⟨e, _⟩
  · obtain ⟨I1, w1, w2⟩ := c_ringNow (d := d) hS hM (c := a.toNat) (f := b.toNat) (by omega) (by omega) hu hu16 c.2
    rw [Int.toNat_of_nonneg c.1.1.1, Int.toNat_of_nonneg c.1.2.1] at w1
    exact ⟨I1, w1, w2⟩
  · exact absurd e (by decide)
  · exact absurd e (by decide)
  · exact absurd e (by decide)
theorem c_act0n {d : Nat} {G : am_G} {I : Nat → Nat → Int} {P : Nat → Nat → Option Nat} (hS : ST G P) {ρ : Nat → Int} {n : Nat} {cl : Nat → Cl} (hM : ME I ρ n cl) (h5 : ρ 5 ≤ 999) {a b : Int} (hq : oact ρ n cl 0 a b = none) : ∃ o, am_call am_B am_M (d + 10) 277 [(.inr (.inr (some 208))), (.inl 0), (.inl a), (.inl b)] (G, I, P) = some o ∧ (fun o => ∃ (x : Int) (I1 : Nat → Nat → Int), o = (some (.inl x), (G, I1, P)) ∧ x < 0 ∧ TF I I1) o := by
  refine am_doQ (L := [some (.inr (.inr (some 208))), some (.inl 0), some (.inl a), some (.inl b)]) (Nat.le_of_ble_eq_true rfl) rfl ?_
  refine (ex_4_1 (ex_29i 0 rfl rfl (ex_6_0 (ex_4_2 (ex_4_3 ?_)))))
  obtain ⟨xr, K, eK, hx, fK⟩ := c_a0n (d := d) hS hM (a := a) (b := b) hq
  refine (ix_46 (S' := [(.inl xr)]) rfl (sh_208 hS) eK rfl rfl ?_)
  exact ex_53 ⟨_, _, rfl, hx, fK⟩
theorem c_act0s {d : Nat} {G : am_G} {I : Nat → Nat → Int} {P : Nat → Nat → Option Nat} (hS : ST G P) {ρ : Nat → Int} {n : Nat} {cl : Nat → Cl} (hM : ME I ρ n cl) {u : Nat} (hu : I 208 8 = (u : Int)) (hu16 : u ≤ 16) {a b : Int} {q : (Nat → Int) × De × Int} (hq : oact ρ n cl 0 a b = some q) : ∃ o, am_call am_B am_M (d + 10) 277 [(.inr (.inr (some 208))), (.inl 0), (.inl a), (.inl b)] (G, I, P) = some o ∧ (fun o => ∃ I1, o = (some (.inl q.2.2), (G, I1, P)) ∧ DONE I ρ q.1 u 0 I1) o := by
  refine am_doQ (L := [some (.inr (.inr (some 208))), some (.inl 0), some (.inl a), some (.inl b)]) (Nat.le_of_ble_eq_true rfl) rfl ?_
  refine (ex_4_1 (ex_29i 0 rfl rfl (ex_6_0 (ex_4_2 (ex_4_3 ?_)))))
  obtain ⟨K, eK, fK⟩ := c_a0s (d := d) hS hM hu hu16 (a := a) (b := b) hq
  refine (ix_46 (S' := [(.inl q.2.2)]) rfl (sh_208 hS) eK rfl rfl ?_)
  exact ex_53 ⟨_, rfl, fK⟩
theorem c_a1n {d : Nat} {G : am_G} {I : Nat → Nat → Int} {P : Nat → Nat → Option Nat} (hS : ST G P) {ρ : Nat → Int} {n : Nat} {cl : Nat → Cl} (hM : ME I ρ n cl) {a b : Int} (h : oact ρ n cl 1 a b = none) : ∃ (x : Int) (I1 : Nat → Nat → Int), am_call am_B am_M (d + 3) 240 [.inr (.inr (some 208)), .inl a] (G, I, P) = some (some (.inl x), (G, I1, P)) ∧ x < 0 ∧ TF I I1 := by
  have c : ¬ (0 ≤ a ∧ a < ρ 1) := fun z => by rw [oact_1t z] at h; cases h
  exact ⟨_, I, c_engageNow_n hS hM c, by decide, TF_refl⟩
theorem c_a1s {d : Nat} {G : am_G} {I : Nat → Nat → Int} {P : Nat → Nat → Option Nat} (hS : ST G P) {ρ : Nat → Int} {n : Nat} {cl : Nat → Cl} (hM : ME I ρ n cl) {u : Nat} (hu : I 208 8 = (u : Int)) (hu16 : u ≤ 16) {a b : Int} {q : (Nat → Int) × De × Int} (hq : oact ρ n cl 1 a b = some q) : ∃ I1, am_call am_B am_M (d + 3) 240 [.inr (.inr (some 208)), .inl a] (G, I, P) = some (some (.inl q.2.2), (G, I1, P)) ∧ DONE I ρ q.1 u 1 I1 := by
  rcases oact_v (by decide) hq with ⟨e, _⟩ | ⟨_, c, rfl⟩ | ⟨e, _⟩ | ⟨e, _⟩
  · exact absurd e (by decide)
  · obtain ⟨I1, w1, w2⟩ := c_engageNow (d := d) hS hM (f := a.toNat) (by omega) hu hu16
    rw [Int.toNat_of_nonneg c.1] at w1
    exact ⟨I1, w1, w2⟩
  · exact absurd e (by decide)
  · exact absurd e (by decide)
theorem c_act1n {d : Nat} {G : am_G} {I : Nat → Nat → Int} {P : Nat → Nat → Option Nat} (hS : ST G P) {ρ : Nat → Int} {n : Nat} {cl : Nat → Cl} (hM : ME I ρ n cl) (h5 : ρ 5 ≤ 999) {a b : Int} (hq : oact ρ n cl 1 a b = none) : ∃ o, am_call am_B am_M (d + 10) 277 [(.inr (.inr (some 208))), (.inl 1), (.inl a), (.inl b)] (G, I, P) = some o ∧ (fun o => ∃ (x : Int) (I1 : Nat → Nat → Int), o = (some (.inl x), (G, I1, P)) ∧ x < 0 ∧ TF I I1) o := by
  refine am_doQ (L := [some (.inr (.inr (some 208))), some (.inl 1), some (.inl a), some (.inl b)]) (Nat.le_of_ble_eq_true rfl) rfl ?_
  refine (ex_4_1 (ex_29i 1 rfl rfl (ex_6_0 (ex_4_2 ?_))))
  obtain ⟨xr, K, eK, hx, fK⟩ := c_a1n (d := d + 6) hS hM (a := a) (b := b) hq
  refine (ix_46 (S' := [(.inl xr)]) rfl (sh_208 hS) eK rfl rfl ?_)
  exact ex_53 ⟨_, _, rfl, hx, fK⟩
theorem c_act1s {d : Nat} {G : am_G} {I : Nat → Nat → Int} {P : Nat → Nat → Option Nat} (hS : ST G P) {ρ : Nat → Int} {n : Nat} {cl : Nat → Cl} (hM : ME I ρ n cl) {u : Nat} (hu : I 208 8 = (u : Int)) (hu16 : u ≤ 16) {a b : Int} {q : (Nat → Int) × De × Int} (hq : oact ρ n cl 1 a b = some q) : ∃ o, am_call am_B am_M (d + 10) 277 [(.inr (.inr (some 208))), (.inl 1), (.inl a), (.inl b)] (G, I, P) = some o ∧ (fun o => ∃ I1, o = (some (.inl q.2.2), (G, I1, P)) ∧ DONE I ρ q.1 u 1 I1) o := by
  refine am_doQ (L := [some (.inr (.inr (some 208))), some (.inl 1), some (.inl a), some (.inl b)]) (Nat.le_of_ble_eq_true rfl) rfl ?_
  refine (ex_4_1 (ex_29i 1 rfl rfl (ex_6_0 (ex_4_2 ?_))))
  obtain ⟨K, eK, fK⟩ := c_a1s (d := d + 6) hS hM hu hu16 (a := a) (b := b) hq
  refine (ix_46 (S' := [(.inl q.2.2)]) rfl (sh_208 hS) eK rfl rfl ?_)
  exact ex_53 ⟨_, rfl, fK⟩
theorem c_a2n {d : Nat} {G : am_G} {I : Nat → Nat → Int} {P : Nat → Nat → Option Nat} (hS : ST G P) {ρ : Nat → Int} {n : Nat} {cl : Nat → Cl} (hM : ME I ρ n cl) {a b : Int} (h : oact ρ n cl 2 a b = none) : ∃ (x : Int) (I1 : Nat → Nat → Int), am_call am_B am_M (d + 3) 242 [.inr (.inr (some 208)), .inl a] (G, I, P) = some (some (.inl x), (G, I1, P)) ∧ x < 0 ∧ TF I I1 := by
  have hM2 := hM
  have c : ¬ (0 ≤ a ∧ a < 6) := fun z => by rw [oact_2t z] at h; cases h
  exact ⟨_, I, c_smashNow_n c, by decide, TF_refl⟩
theorem c_a2s {d : Nat} {G : am_G} {I : Nat → Nat → Int} {P : Nat → Nat → Option Nat} (hS : ST G P) {ρ : Nat → Int} {n : Nat} {cl : Nat → Cl} (hM : ME I ρ n cl) {u : Nat} (hu : I 208 8 = (u : Int)) (hu16 : u ≤ 16) {a b : Int} {q : (Nat → Int) × De × Int} (hq : oact ρ n cl 2 a b = some q) : ∃ I1, am_call am_B am_M (d + 3) 242 [.inr (.inr (some 208)), .inl a] (G, I, P) = some (some (.inl q.2.2), (G, I1, P)) ∧ DONE I ρ q.1 u 2 I1 := by
  rcases oact_v (by decide) hq with ⟨e, _⟩ | ⟨e, _⟩ | ⟨_, c, rfl⟩ | ⟨e, _⟩
  · exact absurd e (by decide)
  · exact absurd e (by decide)
  · obtain ⟨I1, w1, w2⟩ := c_smashNow (d := d) hS hM (b := a.toNat) (by omega) hu hu16
    rw [Int.toNat_of_nonneg c.1] at w1
    exact ⟨I1, w1, w2⟩
  · exact absurd e (by decide)
theorem c_act2n {d : Nat} {G : am_G} {I : Nat → Nat → Int} {P : Nat → Nat → Option Nat} (hS : ST G P) {ρ : Nat → Int} {n : Nat} {cl : Nat → Cl} (hM : ME I ρ n cl) (h5 : ρ 5 ≤ 999) {a b : Int} (hq : oact ρ n cl 2 a b = none) : ∃ o, am_call am_B am_M (d + 10) 277 [(.inr (.inr (some 208))), (.inl 2), (.inl a), (.inl b)] (G, I, P) = some o ∧ (fun o => ∃ (x : Int) (I1 : Nat → Nat → Int), o = (some (.inl x), (G, I1, P)) ∧ x < 0 ∧ TF I I1) o := by
  refine am_doQ (L := [some (.inr (.inr (some 208))), some (.inl 2), some (.inl a), some (.inl b)]) (Nat.le_of_ble_eq_true rfl) rfl ?_
  refine (ex_4_1 (ex_29i 2 rfl rfl (ex_6_0 (ex_4_2 ?_))))
  obtain ⟨xr, K, eK, hx, fK⟩ := c_a2n (d := d + 6) hS hM (a := a) (b := b) hq
  refine (ix_46 (S' := [(.inl xr)]) rfl (sh_208 hS) eK rfl rfl ?_)
  exact ex_53 ⟨_, _, rfl, hx, fK⟩
theorem c_act2s {d : Nat} {G : am_G} {I : Nat → Nat → Int} {P : Nat → Nat → Option Nat} (hS : ST G P) {ρ : Nat → Int} {n : Nat} {cl : Nat → Cl} (hM : ME I ρ n cl) {u : Nat} (hu : I 208 8 = (u : Int)) (hu16 : u ≤ 16) {a b : Int} {q : (Nat → Int) × De × Int} (hq : oact ρ n cl 2 a b = some q) : ∃ o, am_call am_B am_M (d + 10) 277 [(.inr (.inr (some 208))), (.inl 2), (.inl a), (.inl b)] (G, I, P) = some o ∧ (fun o => ∃ I1, o = (some (.inl q.2.2), (G, I1, P)) ∧ DONE I ρ q.1 u 2 I1) o := by
  refine am_doQ (L := [some (.inr (.inr (some 208))), some (.inl 2), some (.inl a), some (.inl b)]) (Nat.le_of_ble_eq_true rfl) rfl ?_
  refine (ex_4_1 (ex_29i 2 rfl rfl (ex_6_0 (ex_4_2 ?_))))
  obtain ⟨K, eK, fK⟩ := c_a2s (d := d + 6) hS hM hu hu16 (a := a) (b := b) hq
  refine (ix_46 (S' := [(.inl q.2.2)]) rfl (sh_208 hS) eK rfl rfl ?_)
  exact ex_53 ⟨_, rfl, fK⟩
theorem c_a3n {d : Nat} {G : am_G} {I : Nat → Nat → Int} {P : Nat → Nat → Option Nat} (hS : ST G P) {ρ : Nat → Int} {n : Nat} {cl : Nat → Cl} (hM : ME I ρ n cl) (h5 : ρ 5 ≤ 999) {a b : Int} (h : oact ρ n cl 3 a b = none) : ∃ (x : Int) (I1 : Nat → Nat → Int), am_call am_B am_M (d + 9) 245 [.inr (.inr (some 208))] (G, I, P) = some (some (.inl x), (G, I1, P)) ∧ x < 0 ∧ TF I I1 := by
  have c : ¬ ρ 5 < 999 := fun z => by rw [oact_3t z] at h; cases h
  exact ⟨_, I, c_passNow_n hS hM (by omega), by decide, TF_refl⟩
theorem c_a3s {d : Nat} {G : am_G} {I : Nat → Nat → Int} {P : Nat → Nat → Option Nat} (hS : ST G P) {ρ : Nat → Int} {n : Nat} {cl : Nat → Cl} (hM : ME I ρ n cl) {u : Nat} (hu : I 208 8 = (u : Int)) (hu16 : u ≤ 16) {a b : Int} {q : (Nat → Int) × De × Int} (hq : oact ρ n cl 3 a b = some q) : ∃ I1, am_call am_B am_M (d + 9) 245 [.inr (.inr (some 208))] (G, I, P) = some (some (.inl q.2.2), (G, I1, P)) ∧ DONE I ρ q.1 u 3 I1 := by
  rcases oact_v (by decide) hq with ⟨e, _⟩ | ⟨e, _⟩ | ⟨e, _⟩ | ⟨_, c, rfl⟩
  · exact absurd e (by decide)
  · exact absurd e (by decide)
  · exact absurd e (by decide)
  · exact c_passNow (d := d) hS hM (by omega) hu hu16
theorem c_act3n {d : Nat} {G : am_G} {I : Nat → Nat → Int} {P : Nat → Nat → Option Nat} (hS : ST G P) {ρ : Nat → Int} {n : Nat} {cl : Nat → Cl} (hM : ME I ρ n cl) (h5 : ρ 5 ≤ 999) {a b : Int} (hq : oact ρ n cl 3 a b = none) : ∃ o, am_call am_B am_M (d + 10) 277 [(.inr (.inr (some 208))), (.inl 3), (.inl a), (.inl b)] (G, I, P) = some o ∧ (fun o => ∃ (x : Int) (I1 : Nat → Nat → Int), o = (some (.inl x), (G, I1, P)) ∧ x < 0 ∧ TF I I1) o := by
  refine am_doQ (L := [some (.inr (.inr (some 208))), some (.inl 3), some (.inl a), some (.inl b)]) (Nat.le_of_ble_eq_true rfl) rfl ?_
  refine (ex_4_1 (ex_29o (by decide) (ex_6_0 ?_)))
  obtain ⟨xr, K, eK, hx, fK⟩ := c_a3n (d := d) hS hM h5 (a := a) (b := b) hq
  refine (ix_46 (S' := [(.inl xr)]) rfl (sh_208 hS) eK rfl rfl ?_)
  exact ex_53 ⟨_, _, rfl, hx, fK⟩
theorem c_act3s {d : Nat} {G : am_G} {I : Nat → Nat → Int} {P : Nat → Nat → Option Nat} (hS : ST G P) {ρ : Nat → Int} {n : Nat} {cl : Nat → Cl} (hM : ME I ρ n cl) {u : Nat} (hu : I 208 8 = (u : Int)) (hu16 : u ≤ 16) {a b : Int} {q : (Nat → Int) × De × Int} (hq : oact ρ n cl 3 a b = some q) : ∃ o, am_call am_B am_M (d + 10) 277 [(.inr (.inr (some 208))), (.inl 3), (.inl a), (.inl b)] (G, I, P) = some o ∧ (fun o => ∃ I1, o = (some (.inl q.2.2), (G, I1, P)) ∧ DONE I ρ q.1 u 3 I1) o := by
  refine am_doQ (L := [some (.inr (.inr (some 208))), some (.inl 3), some (.inl a), some (.inl b)]) (Nat.le_of_ble_eq_true rfl) rfl ?_
  refine (ex_4_1 (ex_29o (by decide) (ex_6_0 ?_)))
  obtain ⟨K, eK, fK⟩ := c_a3s (d := d) hS hM hu hu16 (a := a) (b := b) hq
  refine (ix_46 (S' := [(.inl q.2.2)]) rfl (sh_208 hS) eK rfl rfl ?_)
  exact ex_53 ⟨_, rfl, fK⟩
theorem c_actn {d : Nat} {G : am_G} {I : Nat → Nat → Int} {P : Nat → Nat → Option Nat} (hS : ST G P) {ρ : Nat → Int} {n : Nat} {cl : Nat → Cl} (hM : ME I ρ n cl) (h5 : ρ 5 ≤ 999) {v : Nat} (hv : v < 4) {a b : Int} (hq : oact ρ n cl v a b = none) : ∃ (x : Int) (I1 : Nat → Nat → Int), am_call am_B am_M (d + 10) 277 [.inr (.inr (some 208)), .inl (v : Int), .inl a, .inl b] (G, I, P) = some (some (.inl x), (G, I1, P)) ∧ x < 0 ∧ TF I I1 := by
  have hv4 : v = 0 ∨ v = 1 ∨ v = 2 ∨ v = 3 := by omega
  rcases hv4 with rfl | rfl | rfl | rfl
  · obtain ⟨_, e, x, I1, rfl, h⟩ := c_act0n (d := d) hS hM h5 hq; exact ⟨x, I1, e, h⟩
  · obtain ⟨_, e, x, I1, rfl, h⟩ := c_act1n (d := d) hS hM h5 hq; exact ⟨x, I1, e, h⟩
  · obtain ⟨_, e, x, I1, rfl, h⟩ := c_act2n (d := d) hS hM h5 hq; exact ⟨x, I1, e, h⟩
  · obtain ⟨_, e, x, I1, rfl, h⟩ := c_act3n (d := d) hS hM h5 hq; exact ⟨x, I1, e, h⟩
theorem c_acts {d : Nat} {G : am_G} {I : Nat → Nat → Int} {P : Nat → Nat → Option Nat} (hS : ST G P) {ρ : Nat → Int} {n : Nat} {cl : Nat → Cl} (hM : ME I ρ n cl) {v : Nat} (hv : v < 4) {u : Nat} (hu : I 208 8 = (u : Int)) (hu16 : u ≤ 16) {a b : Int} {q : (Nat → Int) × De × Int} (hq : oact ρ n cl v a b = some q) : ∃ I1, am_call am_B am_M (d + 10) 277 [.inr (.inr (some 208)), .inl (v : Int), .inl a, .inl b] (G, I, P) = some (some (.inl q.2.2), (G, I1, P)) ∧ DONE I ρ q.1 u (v : Int) I1 := by
  have hv4 : v = 0 ∨ v = 1 ∨ v = 2 ∨ v = 3 := by omega
  rcases hv4 with rfl | rfl | rfl | rfl
  · obtain ⟨_, e, I1, rfl, h⟩ := c_act0s (d := d) hS hM hu hu16 hq; exact ⟨I1, e, h⟩
  · obtain ⟨_, e, I1, rfl, h⟩ := c_act1s (d := d) hS hM hu hu16 hq; exact ⟨I1, e, h⟩
  · obtain ⟨_, e, I1, rfl, h⟩ := c_act2s (d := d) hS hM hu hu16 hq; exact ⟨I1, e, h⟩
  · obtain ⟨_, e, I1, rfl, h⟩ := c_act3s (d := d) hS hM hu hu16 hq; exact ⟨I1, e, h⟩
