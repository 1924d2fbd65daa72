/-! ===== what a law says: clauses as functions of the words; the reference's tells ===== -/
abbrev Fn : Type := (Nat → Int) → Option Int
/-- verb, sum, test -/
abbrev Cl : Type := Nat × Option Fn × Option Fn
def o_sum (s : Option Fn) (w : Nat → Int) : Option Int := match s with
  | some s => s w
  | none => some 1
def o_test (t : Option Fn) (w : Nat → Int) : Bool := match t with
  | some t => decide (t w = some 1)
  | none => true
def cl_says (c : Cl) (w : Nat → Int) : Option Int := if o_test c.2.2 w = true then o_sum c.2.1 w else none
def law_1 (cl : Nat → Cl) (verb : Nat) (w : Nat → Int) (i : Nat) (acc : Option Int) : Option Int := if (cl i).1 = verb then (cl_says (cl i) w).or acc else acc
def law_say (n : Nat) (cl : Nat → Cl) (verb : Nat) (w : Nat → Int) : Option Int := am_it (fun i acc => law_1 cl verb w i acc) n 0 none
def okw (w : Nat → Int) : Prop := ∀ i, rkb (w i)
def opL (ρ : Nat → Int) (lw k : Nat) : Int := ρ (lw + 98 + 2 * k)
def argL (ρ : Nat → Int) (lw k : Nat) : Int := ρ (lw + 98 + 2 * k + 1)
def wvL (w : Nat → Int) (o _a : Int) : Option Int := if 1 ≤ o ∧ o < 10 then some (w (o.toNat - 1)) else none
/-- a clause as it stands in the row -/
def RowCl (ρ : Nat → Int) (lw k : Nat) (c : Cl) : Prop := ρ k = (c.1 : Int) ∧ c.1 < 4 ∧ ∃ a1 b1 a2 b2 : Nat, ρ (k + 3) = (a1 : Int) ∧ ρ (k + 4) = (b1 : Int) ∧ ρ (k + 5) = (a2 : Int) ∧ ρ (k + 6) = (b2 : Int) ∧ b1 ≤ 400 ∧ b2 ≤ 400 ∧ (c.2.1 = none ↔ c.1 = 3) ∧ (∀ s, c.2.1 = some s → ∀ w, okw w → mseg (opL ρ lw) (argL ρ lw) (wvL w) a1 b1 100 (s w)) ∧ (c.2.2 = none → b2 ≤ a2) ∧ (∀ t, c.2.2 = some t → a2 < b2 ∧ ∀ w, okw w → f_01 (t w) ∧ mseg (opL ρ lw) (argL ρ lw) (wvL w) a2 b2 100 (t w))
def RowLaw (ρ : Nat → Int) (lw n : Nat) (cl : Nat → Cl) : Prop := ρ (lw + 1) = (n : Int) ∧ n ≤ 12 ∧ ∀ j, j < n → RowCl ρ lw (lw + 2 + 8 * j) (cl j)
/-- a law is being asked -/
def LE (I : Nat → Nat → Int) (ρ : Nat → Int) (lw : Nat) (w : Nat → Int) : Prop := I 210 = ρ ∧ I 208 20 = 0 ∧ I 208 34 = (lw : Int) ∧ (∀ o, 1 ≤ o → o < 10 → I 226 o = w (o - 1))
theorem LE_FR {I J : Nat → Nat → Int} {ρ : Nat → Int} {lw : Nat} {w : Nat → Int} (h : LE I ρ lw w) (hf : FR I J) : LE J ρ lw w := by
  obtain ⟨a, b, c, e⟩ := h
  refine ⟨(FR_q hf (by decide) (by decide)).trans a, (hf _ _ (by decide) (by decide)).trans b, (hf _ _ (by decide) (by decide)).trans c, fun o h1 h2 => (congrFun (FR_q hf (by decide) (by decide)) o).trans (e o h1 h2)⟩
theorem c_rkL {d : Nat} {G : am_G} {I : Nat → Nat → Int} {P : Nat → Nat → Option Nat} {ρ : Nat → Int} {lw a b : Nat} {w : Nat → Int} {f : Option Int} (hS : ST G P) (hl : LE I ρ lw w) (hlw : lw + 900 ≤ 5500) (hb : b ≤ 400) (hs : mseg (opL ρ lw) (argL ρ lw) (wvL w) a b 100 f) : ∃ I1, am_call am_B am_M (d + 4) 228 [.inr (.inr (some 208)), .inl (a : Int), .inl (b : Int)] (G, I, P) = some (none, (G, I1, P)) ∧ FR I I1 ∧ LE I1 ρ lw w ∧ (f = none → I1 208 38 = 1) ∧ (∀ v, f = some v → I1 208 38 = 0 ∧ I1 208 39 = v) := by
  obtain ⟨h1, h2, h3, h4⟩ := hl
  have hop : ∀ k, k < b → I 210 (lw + 98 + 2 * k) = opL ρ lw k ∧ I 210 (lw + 98 + 2 * k + 1) = argL ρ lw k := fun k _ => by rw [h1]; exact ⟨rfl, rfl⟩
  have hwv : ∀ o a v, wvL w o a = some v → 1 ≤ o → o < 20 → o < 13 ∧ I 226 o.toNat = v := by
    intro o a v e _ _
    unfold wvL at e
    split at e
    · rename_i q
      refine ⟨by omega, ?_⟩
      rw [h4 o.toNat (by omega) (by omega)]
      exact Option.some.inj e
    · cases e
  cases f with
  | none =>
    obtain ⟨I1, e, fr, res, hq, n1, _⟩ := c_rkAllL (d := d) (QQ := fun res => res = none) hS h2 h3 hlw hop hb hwv ((hs b 0 (I 228) _ (Nat.le_refl _) hb (by omega)).2 rfl rfl) (fun _ _ z => by cases z)
    exact ⟨I1, e, fr, LE_FR ⟨h1, h2, h3, h4⟩ fr, fun _ => n1 hq, fun v z => by cases z⟩
  | some v =>
    obtain ⟨I1, e, fr, res, ⟨r0, hq, hr0⟩, _, s1⟩ := c_rkAllL (d := d) (QQ := fun res => ∃ r0, res = some (0 + 1, r0) ∧ r0 0 = v) hS h2 h3 hlw hop hb hwv ((hs b 0 (I 228) _ (Nat.le_refl _) hb (by omega)).1 v rfl (fun r' _ e => rkE_end (Nat.le_refl _) ⟨r', rfl, e⟩)) (fun n r z => by obtain ⟨r0, z, -⟩ := z; cases z; omega)
    refine ⟨I1, e, fr, LE_FR ⟨h1, h2, h3, h4⟩ fr, fun z => (by cases z), fun v' z => ?_⟩
    cases z
    have := s1 0 r0 hq
    exact ⟨this.1, this.2.trans hr0⟩
theorem c_isSo_nb {d : Nat} {G : am_G} {I : Nat → Nat → Int} {P : Nat → Nat → Option Nat} (hS : ST G P) {ρ : Nat → Int} {lw k a1 b1 a2 b2 vb : Nat} {w : Nat → Int} (hl : LE I ρ lw w) (hlw : lw + 900 ≤ 5500) (hk : k + 8 ≤ 5500) (hv : ρ k = (vb : Int)) (ha1 : ρ (k + 3) = (a1 : Int)) (hb1 : ρ (k + 4) = (b1 : Int)) (ha2 : ρ (k + 5) = (a2 : Int)) (hb2 : ρ (k + 6) = (b2 : Int)) (hb14 : b1 ≤ 400) (hb24 : b2 ≤ 400) (ht : b2 ≤ a2) (hvb : vb = 3) : ∃ I1, am_call am_B am_M (d + 5) 229 [(.inr (.inr (some 208))), (.inl (k : Int))] (G, I, P) = some (some (.inl 1), (G, I1, P)) ∧ (FR I I1) := by
  have w : am_ex (am_call am_B am_M (d + 4)) (am_B 229) (am_B 229 0) [some (.inr (.inr (some 208))), some (.inl (k : Int))] [] (G, I, P) (fun o => ∃ I1, o = (some (.inl 1), (G, I1, P)) ∧ (FR I I1)) := by
    refine (ex_6_0 (ix_41r (sh_208 hS) (pt_208_3 hS) (ex_4_1 (ex_0 (ex_add ⟨by omega, by omega⟩ (ix_30 (j := (k + 5)) (sh_210 hS) (by omega) (by omega) (by omega) ((congrFun hl.1 _).trans ha2) (ex_6_0 (ix_41r (sh_208 hS) (pt_208_3 hS) (ex_4_1 (ex_0 (ex_add ⟨by omega, by omega⟩ (ix_30 (j := (k + 6)) (sh_210 hS) (by omega) (by omega) (by omega) ((congrFun hl.1 _).trans hb2) ?_))))))))))))
    refine ex_ic3 (fun hc17 => ?_) (fun hc17 => by exfalso; omega)
    refine (ex_6_0 (ix_41r (sh_208 hS) (pt_208_3 hS) (ex_4_1 (ix_30 (j := k) (sh_210 hS) (by omega) (by omega) (by omega) ((congrFun hl.1 _).trans hv) (ex_0 ?_)))))
    refine ex_ic0 (fun hc66 => ?_) (fun hc66 => by exfalso; omega)
    refine (ex_0 ?_)
    exact ex_57 (by decide) ⟨_, rfl, FR_refl⟩
  obtain ⟨o, e, I1, rfl, h⟩ := am_doQ (as := [(.inr (.inr (some 208))), (.inl (k : Int))]) (Nat.le_of_ble_eq_true rfl) rfl w
  exact ⟨I1, e, h⟩
theorem c_isSo_nn {d : Nat} {G : am_G} {I : Nat → Nat → Int} {P : Nat → Nat → Option Nat} (hS : ST G P) {ρ : Nat → Int} {lw k a1 b1 a2 b2 vb : Nat} {w : Nat → Int} (hl : LE I ρ lw w) (hlw : lw + 900 ≤ 5500) (hk : k + 8 ≤ 5500) (hv : ρ k = (vb : Int)) (ha1 : ρ (k + 3) = (a1 : Int)) (hb1 : ρ (k + 4) = (b1 : Int)) (ha2 : ρ (k + 5) = (a2 : Int)) (hb2 : ρ (k + 6) = (b2 : Int)) (hb14 : b1 ≤ 400) (hb24 : b2 ≤ 400) (ht : b2 ≤ a2) (hvb : ¬ vb = 3) (hss : mseg (opL ρ lw) (argL ρ lw) (wvL w) a1 b1 100 none) : ∃ I1, am_call am_B am_M (d + 5) 229 [(.inr (.inr (some 208))), (.inl (k : Int))] (G, I, P) = some (some (.inl 0), (G, I1, P)) ∧ (FR I I1) := by
  have w : am_ex (am_call am_B am_M (d + 4)) (am_B 229) (am_B 229 0) [some (.inr (.inr (some 208))), some (.inl (k : Int))] [] (G, I, P) (fun o => ∃ I1, o = (some (.inl 0), (G, I1, P)) ∧ (FR I I1)) := by
    refine (ex_6_0 (ix_41r (sh_208 hS) (pt_208_3 hS) (ex_4_1 (ex_0 (ex_add ⟨by omega, by omega⟩ (ix_30 (j := (k + 5)) (sh_210 hS) (by omega) (by omega) (by omega) ((congrFun hl.1 _).trans ha2) (ex_6_0 (ix_41r (sh_208 hS) (pt_208_3 hS) (ex_4_1 (ex_0 (ex_add ⟨by omega, by omega⟩ (ix_30 (j := (k + 6)) (sh_210 hS) (by omega) (by omega) (by omega) ((congrFun hl.1 _).trans hb2) ?_))))))))))))
    refine ex_ic3 (fun hc17 => ?_) (fun hc17 => by exfalso; omega)
    refine (ex_6_0 (ix_41r (sh_208 hS) (pt_208_3 hS) (ex_4_1 (ix_30 (j := k) (sh_210 hS) (by omega) (by omega) (by omega) ((congrFun hl.1 _).trans hv) (ex_0 ?_)))))
    refine ex_ic0 (fun hc66 => by exfalso; omega) (fun hc66 => ?_)
    refine (ex_6_0 (ex_6_0 (ix_41r (sh_208 hS) (pt_208_3 hS) (ex_4_1 (ex_0 (ex_add ⟨by omega, by omega⟩ (ix_30 (j := (k + 3)) (sh_210 hS) (by omega) (by omega) (by omega) ((congrFun hl.1 _).trans ha1) (ex_6_0 (ix_41r (sh_208 hS) (pt_208_3 hS) (ex_4_1 (ex_0 (ex_add ⟨by omega, by omega⟩ (ix_30 (j := (k + 4)) (sh_210 hS) (by omega) (by omega) (by omega) ((congrFun hl.1 _).trans hb1) ?_)))))))))))))
    obtain ⟨J86, e86, f86, l86, n86, s86⟩ := c_rkL (d := d) hS hl hlw hb14 hss
    refine (ix_46 (S' := []) rfl (sh_208 hS) e86 rfl rfl (ex_6_0 (ex_6_0 (ix_41l (sh_208 hS) rfl (ix_42l (sh_208 hS) (ex_6_0 (ix_41i (sh_208 hS) ((u2_k (by decide)).trans (n86 rfl)) (ex_if1 (fun _ => ?_) (fun hc => by exfalso; revert hc; decide)))))))))
    refine (ex_0 (ex_58 ?_))
    exact ex_57 (by decide) ⟨_, rfl, (FR_trans FR_refl (FR_trans f86 FR_40))⟩
  obtain ⟨o, e, I1, rfl, h⟩ := am_doQ (as := [(.inr (.inr (some 208))), (.inl (k : Int))]) (Nat.le_of_ble_eq_true rfl) rfl w
  exact ⟨I1, e, h⟩
theorem c_isSo_nv {d : Nat} {G : am_G} {I : Nat → Nat → Int} {P : Nat → Nat → Option Nat} (hS : ST G P) {ρ : Nat → Int} {lw k a1 b1 a2 b2 vb : Nat} {w : Nat → Int} (hl : LE I ρ lw w) (hlw : lw + 900 ≤ 5500) (hk : k + 8 ≤ 5500) (hv : ρ k = (vb : Int)) (ha1 : ρ (k + 3) = (a1 : Int)) (hb1 : ρ (k + 4) = (b1 : Int)) (ha2 : ρ (k + 5) = (a2 : Int)) (hb2 : ρ (k + 6) = (b2 : Int)) (hb14 : b1 ≤ 400) (hb24 : b2 ≤ 400) (ht : b2 ≤ a2) (hvb : ¬ vb = 3) {v : Int} (hss : mseg (opL ρ lw) (argL ρ lw) (wvL w) a1 b1 100 (some v)) : ∃ I1, am_call am_B am_M (d + 5) 229 [(.inr (.inr (some 208))), (.inl (k : Int))] (G, I, P) = some (some (.inl 1), (G, I1, P)) ∧ (FR I I1 ∧ I1 208 40 = v) := by
  have w : am_ex (am_call am_B am_M (d + 4)) (am_B 229) (am_B 229 0) [some (.inr (.inr (some 208))), some (.inl (k : Int))] [] (G, I, P) (fun o => ∃ I1, o = (some (.inl 1), (G, I1, P)) ∧ (FR I I1 ∧ I1 208 40 = v)) := by
    refine (ex_6_0 (ix_41r (sh_208 hS) (pt_208_3 hS) (ex_4_1 (ex_0 (ex_add ⟨by omega, by omega⟩ (ix_30 (j := (k + 5)) (sh_210 hS) (by omega) (by omega) (by omega) ((congrFun hl.1 _).trans ha2) (ex_6_0 (ix_41r (sh_208 hS) (pt_208_3 hS) (ex_4_1 (ex_0 (ex_add ⟨by omega, by omega⟩ (ix_30 (j := (k + 6)) (sh_210 hS) (by omega) (by omega) (by omega) ((congrFun hl.1 _).trans hb2) ?_))))))))))))
    refine ex_ic3 (fun hc17 => ?_) (fun hc17 => by exfalso; omega)
    refine (ex_6_0 (ix_41r (sh_208 hS) (pt_208_3 hS) (ex_4_1 (ix_30 (j := k) (sh_210 hS) (by omega) (by omega) (by omega) ((congrFun hl.1 _).trans hv) (ex_0 ?_)))))
    refine ex_ic0 (fun hc66 => by exfalso; omega) (fun hc66 => ?_)
    refine (ex_6_0 (ex_6_0 (ix_41r (sh_208 hS) (pt_208_3 hS) (ex_4_1 (ex_0 (ex_add ⟨by omega, by omega⟩ (ix_30 (j := (k + 3)) (sh_210 hS) (by omega) (by omega) (by omega) ((congrFun hl.1 _).trans ha1) (ex_6_0 (ix_41r (sh_208 hS) (pt_208_3 hS) (ex_4_1 (ex_0 (ex_add ⟨by omega, by omega⟩ (ix_30 (j := (k + 4)) (sh_210 hS) (by omega) (by omega) (by omega) ((congrFun hl.1 _).trans hb1) ?_)))))))))))))
    obtain ⟨J86, e86, f86, l86, n86, s86⟩ := c_rkL (d := d) hS hl hlw hb14 hss
    refine (ix_46 (S' := []) rfl (sh_208 hS) e86 rfl rfl (ex_6_0 (ex_6_0 (ix_41l (sh_208 hS) (s86 _ rfl).2 (ix_42l (sh_208 hS) (ex_6_0 (ix_41i (sh_208 hS) ((u2_k (by decide)).trans (s86 _ rfl).1) (ex_if1 (fun hc => by exfalso; revert hc; decide) (fun _ => ?_)))))))))
    refine (ex_0 (ex_28 ?_))
    exact ex_57 (by decide) ⟨_, rfl, (FR_trans FR_refl (FR_trans f86 FR_40)), u2_e⟩
  obtain ⟨o, e, I1, rfl, h⟩ := am_doQ (as := [(.inr (.inr (some 208))), (.inl (k : Int))]) (Nat.le_of_ble_eq_true rfl) rfl w
  exact ⟨I1, e, h⟩
theorem c_isSo_1b {d : Nat} {G : am_G} {I : Nat → Nat → Int} {P : Nat → Nat → Option Nat} (hS : ST G P) {ρ : Nat → Int} {lw k a1 b1 a2 b2 vb : Nat} {w : Nat → Int} (hl : LE I ρ lw w) (hlw : lw + 900 ≤ 5500) (hk : k + 8 ≤ 5500) (hv : ρ k = (vb : Int)) (ha1 : ρ (k + 3) = (a1 : Int)) (hb1 : ρ (k + 4) = (b1 : Int)) (ha2 : ρ (k + 5) = (a2 : Int)) (hb2 : ρ (k + 6) = (b2 : Int)) (hb14 : b1 ≤ 400) (hb24 : b2 ≤ 400) (ht : a2 < b2) (hts : mseg (opL ρ lw) (argL ρ lw) (wvL w) a2 b2 100 (some 1)) (hvb : vb = 3) : ∃ I1, am_call am_B am_M (d + 5) 229 [(.inr (.inr (some 208))), (.inl (k : Int))] (G, I, P) = some (some (.inl 1), (G, I1, P)) ∧ (FR I I1) := by
  have w : am_ex (am_call am_B am_M (d + 4)) (am_B 229) (am_B 229 0) [some (.inr (.inr (some 208))), some (.inl (k : Int))] [] (G, I, P) (fun o => ∃ I1, o = (some (.inl 1), (G, I1, P)) ∧ (FR I I1)) := by
    refine (ex_6_0 (ix_41r (sh_208 hS) (pt_208_3 hS) (ex_4_1 (ex_0 (ex_add ⟨by omega, by omega⟩ (ix_30 (j := (k + 5)) (sh_210 hS) (by omega) (by omega) (by omega) ((congrFun hl.1 _).trans ha2) (ex_6_0 (ix_41r (sh_208 hS) (pt_208_3 hS) (ex_4_1 (ex_0 (ex_add ⟨by omega, by omega⟩ (ix_30 (j := (k + 6)) (sh_210 hS) (by omega) (by omega) (by omega) ((congrFun hl.1 _).trans hb2) ?_))))))))))))
    refine ex_ic3 (fun hc17 => by exfalso; omega) (fun hc17 => ?_)
    refine (ex_6_0 (ex_6_0 (ix_41r (sh_208 hS) (pt_208_3 hS) (ex_4_1 (ex_0 (ex_add ⟨by omega, by omega⟩ (ix_30 (j := (k + 5)) (sh_210 hS) (by omega) (by omega) (by omega) ((congrFun hl.1 _).trans ha2) (ex_6_0 (ix_41r (sh_208 hS) (pt_208_3 hS) (ex_4_1 (ex_0 (ex_add ⟨by omega, by omega⟩ (ix_30 (j := (k + 6)) (sh_210 hS) (by omega) (by omega) (by omega) ((congrFun hl.1 _).trans hb2) ?_)))))))))))))
    obtain ⟨J38, e38, f38, l38, n38, s38⟩ := c_rkL (d := d) hS hl hlw hb24 hts
    refine (ix_46 (S' := []) rfl (sh_208 hS) e38 rfl rfl (ex_6_0 (ix_41i (sh_208 hS) (s38 _ rfl).1 (ex_if1 (fun hc => by exfalso; revert hc; decide) (fun _ => ?_)))))
    refine (ex_6_0 (ix_41l (sh_208 hS) (s38 _ rfl).2 (ex_1 ?_)))
    refine ex_lc1 (fun _ => ?_) (fun hc => by exfalso; revert hc; decide)
    refine (ex_6_0 (ix_41r (sh_208 hS) (pt_208_3 hS) (ex_4_1 (ix_30 (j := k) (sh_210 hS) (by omega) (by omega) (by omega) (((f38 _ _ (by decide) (by omega))).trans ((congrFun hl.1 _).trans hv)) (ex_0 ?_)))))
    refine ex_ic0 (fun hc66 => ?_) (fun hc66 => by exfalso; omega)
    refine (ex_0 ?_)
    exact ex_57 (by decide) ⟨_, rfl, f38⟩
  obtain ⟨o, e, I1, rfl, h⟩ := am_doQ (as := [(.inr (.inr (some 208))), (.inl (k : Int))]) (Nat.le_of_ble_eq_true rfl) rfl w
  exact ⟨I1, e, h⟩
theorem c_isSo_1n {d : Nat} {G : am_G} {I : Nat → Nat → Int} {P : Nat → Nat → Option Nat} (hS : ST G P) {ρ : Nat → Int} {lw k a1 b1 a2 b2 vb : Nat} {w : Nat → Int} (hl : LE I ρ lw w) (hlw : lw + 900 ≤ 5500) (hk : k + 8 ≤ 5500) (hv : ρ k = (vb : Int)) (ha1 : ρ (k + 3) = (a1 : Int)) (hb1 : ρ (k + 4) = (b1 : Int)) (ha2 : ρ (k + 5) = (a2 : Int)) (hb2 : ρ (k + 6) = (b2 : Int)) (hb14 : b1 ≤ 400) (hb24 : b2 ≤ 400) (ht : a2 < b2) (hts : mseg (opL ρ lw) (argL ρ lw) (wvL w) a2 b2 100 (some 1)) (hvb : ¬ vb = 3) (hss : mseg (opL ρ lw) (argL ρ lw) (wvL w) a1 b1 100 none) : ∃ I1, am_call am_B am_M (d + 5) 229 [(.inr (.inr (some 208))), (.inl (k : Int))] (G, I, P) = some (some (.inl 0), (G, I1, P)) ∧ (FR I I1) := by
  have w : am_ex (am_call am_B am_M (d + 4)) (am_B 229) (am_B 229 0) [some (.inr (.inr (some 208))), some (.inl (k : Int))] [] (G, I, P) (fun o => ∃ I1, o = (some (.inl 0), (G, I1, P)) ∧ (FR I I1)) := by
    refine (ex_6_0 (ix_41r (sh_208 hS) (pt_208_3 hS) (ex_4_1 (ex_0 (ex_add ⟨by omega, by omega⟩ (ix_30 (j := (k + 5)) (sh_210 hS) (by omega) (by omega) (by omega) ((congrFun hl.1 _).trans ha2) (ex_6_0 (ix_41r (sh_208 hS) (pt_208_3 hS) (ex_4_1 (ex_0 (ex_add ⟨by omega, by omega⟩ (ix_30 (j := (k + 6)) (sh_210 hS) (by omega) (by omega) (by omega) ((congrFun hl.1 _).trans hb2) ?_))))))))))))
    refine ex_ic3 (fun hc17 => by exfalso; omega) (fun hc17 => ?_)
    refine (ex_6_0 (ex_6_0 (ix_41r (sh_208 hS) (pt_208_3 hS) (ex_4_1 (ex_0 (ex_add ⟨by omega, by omega⟩ (ix_30 (j := (k + 5)) (sh_210 hS) (by omega) (by omega) (by omega) ((congrFun hl.1 _).trans ha2) (ex_6_0 (ix_41r (sh_208 hS) (pt_208_3 hS) (ex_4_1 (ex_0 (ex_add ⟨by omega, by omega⟩ (ix_30 (j := (k + 6)) (sh_210 hS) (by omega) (by omega) (by omega) ((congrFun hl.1 _).trans hb2) ?_)))))))))))))
    obtain ⟨J38, e38, f38, l38, n38, s38⟩ := c_rkL (d := d) hS hl hlw hb24 hts
    refine (ix_46 (S' := []) rfl (sh_208 hS) e38 rfl rfl (ex_6_0 (ix_41i (sh_208 hS) (s38 _ rfl).1 (ex_if1 (fun hc => by exfalso; revert hc; decide) (fun _ => ?_)))))
    refine (ex_6_0 (ix_41l (sh_208 hS) (s38 _ rfl).2 (ex_1 ?_)))
    refine ex_lc1 (fun _ => ?_) (fun hc => by exfalso; revert hc; decide)
    refine (ex_6_0 (ix_41r (sh_208 hS) (pt_208_3 hS) (ex_4_1 (ix_30 (j := k) (sh_210 hS) (by omega) (by omega) (by omega) (((f38 _ _ (by decide) (by omega))).trans ((congrFun hl.1 _).trans hv)) (ex_0 ?_)))))
    refine ex_ic0 (fun hc66 => by exfalso; omega) (fun hc66 => ?_)
    refine (ex_6_0 (ex_6_0 (ix_41r (sh_208 hS) (pt_208_3 hS) (ex_4_1 (ex_0 (ex_add ⟨by omega, by omega⟩ (ix_30 (j := (k + 3)) (sh_210 hS) (by omega) (by omega) (by omega) (((f38 _ _ (by decide) (by omega))).trans ((congrFun hl.1 _).trans ha1)) (ex_6_0 (ix_41r (sh_208 hS) (pt_208_3 hS) (ex_4_1 (ex_0 (ex_add ⟨by omega, by omega⟩ (ix_30 (j := (k + 4)) (sh_210 hS) (by omega) (by omega) (by omega) (((f38 _ _ (by decide) (by omega))).trans ((congrFun hl.1 _).trans hb1)) ?_)))))))))))))
    obtain ⟨J86, e86, f86, l86, n86, s86⟩ := c_rkL (d := d) hS l38 hlw hb14 hss
    refine (ix_46 (S' := []) rfl (sh_208 hS) e86 rfl rfl (ex_6_0 (ex_6_0 (ix_41l (sh_208 hS) rfl (ix_42l (sh_208 hS) (ex_6_0 (ix_41i (sh_208 hS) ((u2_k (by decide)).trans (n86 rfl)) (ex_if1 (fun _ => ?_) (fun hc => by exfalso; revert hc; decide)))))))))
    refine (ex_0 (ex_58 ?_))
    exact ex_57 (by decide) ⟨_, rfl, (FR_trans f38 (FR_trans f86 FR_40))⟩
  obtain ⟨o, e, I1, rfl, h⟩ := am_doQ (as := [(.inr (.inr (some 208))), (.inl (k : Int))]) (Nat.le_of_ble_eq_true rfl) rfl w
  exact ⟨I1, e, h⟩
theorem c_isSo_1v {d : Nat} {G : am_G} {I : Nat → Nat → Int} {P : Nat → Nat → Option Nat} (hS : ST G P) {ρ : Nat → Int} {lw k a1 b1 a2 b2 vb : Nat} {w : Nat → Int} (hl : LE I ρ lw w) (hlw : lw + 900 ≤ 5500) (hk : k + 8 ≤ 5500) (hv : ρ k = (vb : Int)) (ha1 : ρ (k + 3) = (a1 : Int)) (hb1 : ρ (k + 4) = (b1 : Int)) (ha2 : ρ (k + 5) = (a2 : Int)) (hb2 : ρ (k + 6) = (b2 : Int)) (hb14 : b1 ≤ 400) (hb24 : b2 ≤ 400) (ht : a2 < b2) (hts : mseg (opL ρ lw) (argL ρ lw) (wvL w) a2 b2 100 (some 1)) (hvb : ¬ vb = 3) {v : Int} (hss : mseg (opL ρ lw) (argL ρ lw) (wvL w) a1 b1 100 (some v)) : ∃ I1, am_call am_B am_M (d + 5) 229 [(.inr (.inr (some 208))), (.inl (k : Int))] (G, I, P) = some (some (.inl 1), (G, I1, P)) ∧ (FR I I1 ∧ I1 208 40 = v) := by
  have w : am_ex (am_call am_B am_M (d + 4)) (am_B 229) (am_B 229 0) [some (.inr (.inr (some 208))), some (.inl (k : Int))] [] (G, I, P) (fun o => ∃ I1, o = (some (.inl 1), (G, I1, P)) ∧ (FR I I1 ∧ I1 208 40 = v)) := by
    refine (ex_6_0 (ix_41r (sh_208 hS) (pt_208_3 hS) (ex_4_1 (ex_0 (ex_add ⟨by omega, by omega⟩ (ix_30 (j := (k + 5)) (sh_210 hS) (by omega) (by omega) (by omega) ((congrFun hl.1 _).trans ha2) (ex_6_0 (ix_41r (sh_208 hS) (pt_208_3 hS) (ex_4_1 (ex_0 (ex_add ⟨by omega, by omega⟩ (ix_30 (j := (k + 6)) (sh_210 hS) (by omega) (by omega) (by omega) ((congrFun hl.1 _).trans hb2) ?_))))))))))))
    refine ex_ic3 (fun hc17 => by exfalso; omega) (fun hc17 => ?_)
    refine (ex_6_0 (ex_6_0 (ix_41r (sh_208 hS) (pt_208_3 hS) (ex_4_1 (ex_0 (ex_add ⟨by omega, by omega⟩ (ix_30 (j := (k + 5)) (sh_210 hS) (by omega) (by omega) (by omega) ((congrFun hl.1 _).trans ha2) (ex_6_0 (ix_41r (sh_208 hS) (pt_208_3 hS) (ex_4_1 (ex_0 (ex_add ⟨by omega, by omega⟩ (ix_30 (j := (k + 6)) (sh_210 hS) (by omega) (by omega) (by omega) ((congrFun hl.1 _).trans hb2) ?_)))))))))))))
    obtain ⟨J38, e38, f38, l38, n38, s38⟩ := c_rkL (d := d) hS hl hlw hb24 hts
    refine (ix_46 (S' := []) rfl (sh_208 hS) e38 rfl rfl (ex_6_0 (ix_41i (sh_208 hS) (s38 _ rfl).1 (ex_if1 (fun hc => by exfalso; revert hc; decide) (fun _ => ?_)))))
    refine (ex_6_0 (ix_41l (sh_208 hS) (s38 _ rfl).2 (ex_1 ?_)))
    refine ex_lc1 (fun _ => ?_) (fun hc => by exfalso; revert hc; decide)
    refine (ex_6_0 (ix_41r (sh_208 hS) (pt_208_3 hS) (ex_4_1 (ix_30 (j := k) (sh_210 hS) (by omega) (by omega) (by omega) (((f38 _ _ (by decide) (by omega))).trans ((congrFun hl.1 _).trans hv)) (ex_0 ?_)))))
    refine ex_ic0 (fun hc66 => by exfalso; omega) (fun hc66 => ?_)
    refine (ex_6_0 (ex_6_0 (ix_41r (sh_208 hS) (pt_208_3 hS) (ex_4_1 (ex_0 (ex_add ⟨by omega, by omega⟩ (ix_30 (j := (k + 3)) (sh_210 hS) (by omega) (by omega) (by omega) (((f38 _ _ (by decide) (by omega))).trans ((congrFun hl.1 _).trans ha1)) (ex_6_0 (ix_41r (sh_208 hS) (pt_208_3 hS) (ex_4_1 (ex_0 (ex_add ⟨by omega, by omega⟩ (ix_30 (j := (k + 4)) (sh_210 hS) (by omega) (by omega) (by omega) (((f38 _ _ (by decide) (by omega))).trans ((congrFun hl.1 _).trans hb1)) ?_)))))))))))))
    obtain ⟨J86, e86, f86, l86, n86, s86⟩ := c_rkL (d := d) hS l38 hlw hb14 hss
    refine (ix_46 (S' := []) rfl (sh_208 hS) e86 rfl rfl (ex_6_0 (ex_6_0 (ix_41l (sh_208 hS) (s86 _ rfl).2 (ix_42l (sh_208 hS) (ex_6_0 (ix_41i (sh_208 hS) ((u2_k (by decide)).trans (s86 _ rfl).1) (ex_if1 (fun hc => by exfalso; revert hc; decide) (fun _ => ?_)))))))))
    refine (ex_0 (ex_28 ?_))
    exact ex_57 (by decide) ⟨_, rfl, (FR_trans f38 (FR_trans f86 FR_40)), u2_e⟩
  obtain ⟨o, e, I1, rfl, h⟩ := am_doQ (as := [(.inr (.inr (some 208))), (.inl (k : Int))]) (Nat.le_of_ble_eq_true rfl) rfl w
  exact ⟨I1, e, h⟩
theorem c_isSo_zb {d : Nat} {G : am_G} {I : Nat → Nat → Int} {P : Nat → Nat → Option Nat} (hS : ST G P) {ρ : Nat → Int} {lw k a1 b1 a2 b2 vb : Nat} {w : Nat → Int} (hl : LE I ρ lw w) (hlw : lw + 900 ≤ 5500) (hk : k + 8 ≤ 5500) (hv : ρ k = (vb : Int)) (ha1 : ρ (k + 3) = (a1 : Int)) (hb1 : ρ (k + 4) = (b1 : Int)) (ha2 : ρ (k + 5) = (a2 : Int)) (hb2 : ρ (k + 6) = (b2 : Int)) (hb14 : b1 ≤ 400) (hb24 : b2 ≤ 400) (ht : a2 < b2) (hts : mseg (opL ρ lw) (argL ρ lw) (wvL w) a2 b2 100 none) : ∃ I1, am_call am_B am_M (d + 5) 229 [(.inr (.inr (some 208))), (.inl (k : Int))] (G, I, P) = some (some (.inl 0), (G, I1, P)) ∧ (FR I I1) := by
  have w : am_ex (am_call am_B am_M (d + 4)) (am_B 229) (am_B 229 0) [some (.inr (.inr (some 208))), some (.inl (k : Int))] [] (G, I, P) (fun o => ∃ I1, o = (some (.inl 0), (G, I1, P)) ∧ (FR I I1)) := by
    refine (ex_6_0 (ix_41r (sh_208 hS) (pt_208_3 hS) (ex_4_1 (ex_0 (ex_add ⟨by omega, by omega⟩ (ix_30 (j := (k + 5)) (sh_210 hS) (by omega) (by omega) (by omega) ((congrFun hl.1 _).trans ha2) (ex_6_0 (ix_41r (sh_208 hS) (pt_208_3 hS) (ex_4_1 (ex_0 (ex_add ⟨by omega, by omega⟩ (ix_30 (j := (k + 6)) (sh_210 hS) (by omega) (by omega) (by omega) ((congrFun hl.1 _).trans hb2) ?_))))))))))))
    refine ex_ic3 (fun hc17 => by exfalso; omega) (fun hc17 => ?_)
    refine (ex_6_0 (ex_6_0 (ix_41r (sh_208 hS) (pt_208_3 hS) (ex_4_1 (ex_0 (ex_add ⟨by omega, by omega⟩ (ix_30 (j := (k + 5)) (sh_210 hS) (by omega) (by omega) (by omega) ((congrFun hl.1 _).trans ha2) (ex_6_0 (ix_41r (sh_208 hS) (pt_208_3 hS) (ex_4_1 (ex_0 (ex_add ⟨by omega, by omega⟩ (ix_30 (j := (k + 6)) (sh_210 hS) (by omega) (by omega) (by omega) ((congrFun hl.1 _).trans hb2) ?_)))))))))))))
    obtain ⟨J38, e38, f38, l38, n38, s38⟩ := c_rkL (d := d) hS hl hlw hb24 hts
    refine (ix_46 (S' := []) rfl (sh_208 hS) e38 rfl rfl (ex_6_0 (ix_41i (sh_208 hS) (n38 rfl) (ex_if1 (fun _ => ?_) (fun hc => by exfalso; revert hc; decide)))))
    refine (ex_0 ?_)
    exact ex_57 (by decide) ⟨_, rfl, f38⟩
  obtain ⟨o, e, I1, rfl, h⟩ := am_doQ (as := [(.inr (.inr (some 208))), (.inl (k : Int))]) (Nat.le_of_ble_eq_true rfl) rfl w
  exact ⟨I1, e, h⟩
theorem c_isSo_0b {d : Nat} {G : am_G} {I : Nat → Nat → Int} {P : Nat → Nat → Option Nat} (hS : ST G P) {ρ : Nat → Int} {lw k a1 b1 a2 b2 vb : Nat} {w : Nat → Int} (hl : LE I ρ lw w) (hlw : lw + 900 ≤ 5500) (hk : k + 8 ≤ 5500) (hv : ρ k = (vb : Int)) (ha1 : ρ (k + 3) = (a1 : Int)) (hb1 : ρ (k + 4) = (b1 : Int)) (ha2 : ρ (k + 5) = (a2 : Int)) (hb2 : ρ (k + 6) = (b2 : Int)) (hb14 : b1 ≤ 400) (hb24 : b2 ≤ 400) (ht : a2 < b2) (hts : mseg (opL ρ lw) (argL ρ lw) (wvL w) a2 b2 100 (some 0)) : ∃ I1, am_call am_B am_M (d + 5) 229 [(.inr (.inr (some 208))), (.inl (k : Int))] (G, I, P) = some (some (.inl 0), (G, I1, P)) ∧ (FR I I1) := by
  have w : am_ex (am_call am_B am_M (d + 4)) (am_B 229) (am_B 229 0) [some (.inr (.inr (some 208))), some (.inl (k : Int))] [] (G, I, P) (fun o => ∃ I1, o = (some (.inl 0), (G, I1, P)) ∧ (FR I I1)) := by
    refine (ex_6_0 (ix_41r (sh_208 hS) (pt_208_3 hS) (ex_4_1 (ex_0 (ex_add ⟨by omega, by omega⟩ (ix_30 (j := (k + 5)) (sh_210 hS) (by omega) (by omega) (by omega) ((congrFun hl.1 _).trans ha2) (ex_6_0 (ix_41r (sh_208 hS) (pt_208_3 hS) (ex_4_1 (ex_0 (ex_add ⟨by omega, by omega⟩ (ix_30 (j := (k + 6)) (sh_210 hS) (by omega) (by omega) (by omega) ((congrFun hl.1 _).trans hb2) ?_))))))))))))
    refine ex_ic3 (fun hc17 => by exfalso; omega) (fun hc17 => ?_)
    refine (ex_6_0 (ex_6_0 (ix_41r (sh_208 hS) (pt_208_3 hS) (ex_4_1 (ex_0 (ex_add ⟨by omega, by omega⟩ (ix_30 (j := (k + 5)) (sh_210 hS) (by omega) (by omega) (by omega) ((congrFun hl.1 _).trans ha2) (ex_6_0 (ix_41r (sh_208 hS) (pt_208_3 hS) (ex_4_1 (ex_0 (ex_add ⟨by omega, by omega⟩ (ix_30 (j := (k + 6)) (sh_210 hS) (by omega) (by omega) (by omega) ((congrFun hl.1 _).trans hb2) ?_)))))))))))))
    obtain ⟨J38, e38, f38, l38, n38, s38⟩ := c_rkL (d := d) hS hl hlw hb24 hts
    refine (ix_46 (S' := []) rfl (sh_208 hS) e38 rfl rfl (ex_6_0 (ix_41i (sh_208 hS) (s38 _ rfl).1 (ex_if1 (fun hc => by exfalso; revert hc; decide) (fun _ => ?_)))))
    refine (ex_6_0 (ix_41l (sh_208 hS) (s38 _ rfl).2 (ex_1 ?_)))
    refine ex_lc1 (fun hc => by exfalso; revert hc; decide) (fun _ => ?_)
    refine (ex_0 ?_)
    exact ex_57 (by decide) ⟨_, rfl, f38⟩
  obtain ⟨o, e, I1, rfl, h⟩ := am_doQ (as := [(.inr (.inr (some 208))), (.inl (k : Int))]) (Nat.le_of_ble_eq_true rfl) rfl w
  exact ⟨I1, e, h⟩
theorem c_isSo {d : Nat} {G : am_G} {I : Nat → Nat → Int} {P : Nat → Nat → Option Nat} (hS : ST G P) {ρ : Nat → Int} {lw k : Nat} {w : Nat → Int} {c : Cl} (hl : LE I ρ lw w) (hlw : lw + 900 ≤ 5500) (hk : k + 8 ≤ 5500) (hw : okw w) (hc : RowCl ρ lw k c) : (cl_says c w = none → ∃ I1, am_call am_B am_M (d + 5) 229 [.inr (.inr (some 208)), .inl (k : Int)] (G, I, P) = some (some (.inl 0), (G, I1, P)) ∧ FR I I1) ∧ (∀ v, cl_says c w = some v → ∃ I1, am_call am_B am_M (d + 5) 229 [.inr (.inr (some 208)), .inl (k : Int)] (G, I, P) = some (some (.inl 1), (G, I1, P)) ∧ FR I I1 ∧ (¬ c.1 = 3 → I1 208 40 = v) ∧ (c.1 = 3 → v = 1)) := by
  obtain ⟨vb, sm, ts⟩ := c
  obtain ⟨hv, hv4, a1, b1, a2, b2, ha1, hb1, ha2, hb2, hb14, hb24, hn3, hsm, htn, hts⟩ := hc
  have hv : ρ k = (vb : Int) := hv
  have hn3 : sm = none ↔ vb = 3 := hn3
  have hsm : ∀ s, sm = some s → ∀ w, okw w → mseg (opL ρ lw) (argL ρ lw) (wvL w) a1 b1 100 (s w) := hsm
  have htn : ts = none → b2 ≤ a2 := htn
  have hts : ∀ t, ts = some t → a2 < b2 ∧ ∀ w, okw w → f_01 (t w) ∧ mseg (opL ρ lw) (argL ρ lw) (wvL w) a2 b2 100 (t w) := hts
  show (cl_says (vb, sm, ts) w = none → _) ∧ ∀ v, cl_says (vb, sm, ts) w = some v → _
  cases ts with
  | none =>
    have ht := htn rfl
    have e : cl_says (vb, sm, none) w = o_sum sm w := if_pos rfl
    rw [e]
    cases sm with
    | none =>
      have h3 : vb = 3 := hn3.mp rfl
      refine ⟨fun z => (by cases z), fun v z => ?_⟩
      cases z
      obtain ⟨I1, e1, f1⟩ := c_isSo_nb (d := d) hS hl hlw hk hv ha1 hb1 ha2 hb2 hb14 hb24 ht h3
      exact ⟨I1, e1, f1, fun q => absurd h3 q, fun _ => rfl⟩
    | some s =>
      have h3 : ¬ vb = 3 := fun q => by have := hn3.mpr q; cases this
      have hm := hsm s rfl w hw
      show (s w = none → _) ∧ ∀ v, s w = some v → _
      refine ⟨fun z => ?_, fun v z => ?_⟩
      · rw [z] at hm
        exact c_isSo_nn (d := d) hS hl hlw hk hv ha1 hb1 ha2 hb2 hb14 hb24 ht h3 hm
      · rw [z] at hm
        obtain ⟨I1, e1, f1, g1⟩ := c_isSo_nv (d := d) hS hl hlw hk hv ha1 hb1 ha2 hb2 hb14 hb24 ht h3 hm
        exact ⟨I1, e1, f1, fun _ => g1, fun q => absurd q h3⟩
  | some t =>
    obtain ⟨ht, hq⟩ := hts t rfl
    obtain ⟨h01, hm2⟩ := hq w hw
    have e : cl_says (vb, sm, some t) w = if t w = some 1 then o_sum sm w else none := by
      unfold cl_says o_test
      by_cases h : t w = some 1
      · rw [if_pos h, if_pos (decide_eq_true h)]
      · rw [if_neg h, if_neg (fun q => h (of_decide_eq_true q))]
    rw [e]
    rcases h01 with h | h | h
    · rw [h] at hm2 ⊢
      rw [if_neg (by intro q; cases q)]
      refine ⟨fun _ => c_isSo_zb (d := d) hS hl hlw hk hv ha1 hb1 ha2 hb2 hb14 hb24 ht hm2, fun v z => (by cases z)⟩
    · rw [h] at hm2 ⊢
      rw [if_neg (by intro q; cases q)]
      refine ⟨fun _ => c_isSo_0b (d := d) hS hl hlw hk hv ha1 hb1 ha2 hb2 hb14 hb24 ht hm2, fun v z => (by cases z)⟩
    · rw [h] at hm2 ⊢
      rw [if_pos rfl]
      cases sm with
      | none =>
        have h3 : vb = 3 := hn3.mp rfl
        refine ⟨fun z => (by cases z), fun v z => ?_⟩
        cases z
        obtain ⟨I1, e1, f1⟩ := c_isSo_1b (d := d) hS hl hlw hk hv ha1 hb1 ha2 hb2 hb14 hb24 ht hm2 h3
        exact ⟨I1, e1, f1, fun q => absurd h3 q, fun _ => rfl⟩
      | some s =>
        have h3 : ¬ vb = 3 := fun q => by have := hn3.mpr q; cases this
        have hm := hsm s rfl w hw
        show (s w = none → _) ∧ ∀ v, s w = some v → _
        refine ⟨fun z => ?_, fun v z => ?_⟩
        · rw [z] at hm
          exact c_isSo_1n (d := d) hS hl hlw hk hv ha1 hb1 ha2 hb2 hb14 hb24 ht hm2 h3 hm
        · rw [z] at hm
          obtain ⟨I1, e1, f1, g1⟩ := c_isSo_1v (d := d) hS hl hlw hk hv ha1 hb1 ha2 hb2 hb14 hb24 ht hm2 h3 hm
          exact ⟨I1, e1, f1, fun _ => g1, fun q => absurd q h3⟩
