/-! ===== the reference: the tape, rows of roads, few ===== -/
def m_oct (v : Int) (k : Int) : Int := am_b2 3 (am_b2 7 v k) 255
def m_put4 (f : Nat → Int) (t : Nat) (v : Int) : Nat → Int := am_u1 (am_u1 (am_u1 (am_u1 f t (m_oct v 24)) (t + 1) (m_oct v 16)) (t + 1 + 1) (m_oct v 8)) (t + 1 + 1 + 1) (m_oct v 0)
def m_four (I : Nat → Nat → Int) (t : Nat) (v : Int) : Nat → Nat → Int := am_u2 (am_u1 I 217 (m_put4 (I 217) t v)) 208 13 ((t + 4 : Nat) : Int)
theorem u2_sw {I : Nat → Nat → Int} {q q' k k' : Nat} {v v' : Int} (h : ¬ q = q') : am_u2 (am_u2 I q k v) q' k' v' = am_u2 (am_u2 I q' k' v') q k v := by
  funext a b
  by_cases h1 : a = q
  · subst h1
    rw [u2_q h, u2_at, u2_at, u2_q h]
  · by_cases h2 : a = q'
    · subst h2
      rw [u2_at, u2_q h1, u2_q h1, u2_at]
    · rw [u2_q h2, u2_q h1, u2_q h1, u2_q h2]
theorem u2_u2 {I : Nat → Nat → Int} {q k : Nat} {v v' : Int} : am_u2 (am_u2 I q k v) q k v' = am_u2 I q k v' := by
  funext a b
  by_cases h1 : a = q
  · subst h1
    rw [u2_at, u2_at, u2_at]
    split <;> rfl
  · rw [u2_q h1, u2_q h1, u2_q h1]
theorem u2_as_u1 {I : Nat → Nat → Int} {q k : Nat} {v : Int} : am_u2 I q k v = am_u1 I q (am_u1 (I q) k v) := rfl
theorem m_four_eq {I : Nat → Nat → Int} {t : Nat} {v : Int} : (am_u2 (am_u2 (am_u2 (am_u2 (am_u2 (am_u2 (am_u2 (am_u2 I 217 t (m_oct v 24)) 208 13 ((t : Int) + 1)) 217 (t + 1) (m_oct v 16)) 208 13 (((t : Int) + 1) + 1)) 217 ((t + 1) + 1) (m_oct v 8)) 208 13 ((((t : Int) + 1) + 1) + 1)) 217 (((t + 1) + 1) + 1) (m_oct v 0)) 208 13 (((((t : Int) + 1) + 1) + 1) + 1)) = m_four I t v := by
  have n1 : ¬ (208 : Nat) = 217 := by decide
  rw [u2_sw (q := 208) (q' := 217) (v' := m_oct v 16) n1, u2_u2, u2_sw (q := 208) (q' := 217) (v' := m_oct v 8) n1, u2_u2, u2_sw (q := 208) (q' := 217) (v' := m_oct v 0) n1, u2_u2]
  unfold m_four m_put4
  rw [u2_as_u1 (I := I), u2_u1, u2_u1, u2_u1]
  rw [show (t : Int) + 1 + 1 + 1 + 1 = ((t + 4 : Nat) : Int) by omega]
theorem c_four {d : Nat} {G : am_G} {I : Nat → Nat → Int} {P : Nat → Nat → Option Nat} (hS : ST G P) {t : Nat} {v : Int} (ht : I 208 13 = (t : Int)) (hl : t + 4 ≤ 400) : am_call am_B am_M (d + 1) 194 [(.inr (.inr (some 208))), (.inl v)] (G, I, P) = some (none, (G, m_four I t v, P)) := by
  refine am_doL (L := [some (.inr (.inr (some 208))), some (.inl v), none]) (Nat.le_of_ble_eq_true rfl) rfl ?_
  refine (ex_0 (ex_7_2 rfl (ex_58 (ex_4_2 (ex_if2 (fun hc => by exfalso; revert hc; decide) (fun _ => ?_))))))
  refine (ex_6_0 (ix_41r (sh_208 hS) (pt_208_12 hS) (ex_6_0 (ix_41i (sh_208 hS) ht (ex_4_1 (ex_4_2 (ex_11e (v := (am_b2 7 v 24)) rfl (ex_0 (ex_11e (v := (am_b2 3 (am_b2 7 v 24) 255)) rfl (ix_34 (j := t) (sh_217 hS) (by omega) (by omega) (by omega) (ex_6_0 (ex_22 rfl (ix_41i (sh_208 hS) ((u2_q (by decide)).trans ht) (ex_0 (ex_add ⟨by omega, by omega⟩ (ix_42i (sh_208 hS) (ex_10_2 ⟨by omega, by omega⟩ rfl (ex_28 (ex_4_2 (ex_if2 (fun hc => by exfalso; revert hc; decide) (fun _ => ?_)))))))))))))))))))))
  refine (ex_6_0 (ix_41r (sh_208 hS) (pt_208_12 hS) (ex_6_0 (ix_41i (sh_208 hS) u2_e (ex_4_1 (ex_4_2 (ex_11e (v := (am_b2 7 v 16)) rfl (ex_0 (ex_11e (v := (am_b2 3 (am_b2 7 v 16) 255)) rfl (ix_34 (j := (t + 1)) (sh_217 hS) (by omega) (by omega) (by omega) (ex_6_0 (ex_22 rfl (ix_41i (sh_208 hS) ((u2_q (by decide)).trans u2_e) (ex_0 (ex_add ⟨by omega, by omega⟩ (ix_42i (sh_208 hS) (ex_10_2 ⟨by omega, by omega⟩ rfl (ex_28 (ex_4_2 (ex_if2 (fun hc => by exfalso; revert hc; decide) (fun _ => ?_)))))))))))))))))))))
  refine (ex_6_0 (ix_41r (sh_208 hS) (pt_208_12 hS) (ex_6_0 (ix_41i (sh_208 hS) u2_e (ex_4_1 (ex_4_2 (ex_11e (v := (am_b2 7 v 8)) rfl (ex_0 (ex_11e (v := (am_b2 3 (am_b2 7 v 8) 255)) rfl (ix_34 (j := ((t + 1) + 1)) (sh_217 hS) (by omega) (by omega) (by omega) (ex_6_0 (ex_22 rfl (ix_41i (sh_208 hS) ((u2_q (by decide)).trans u2_e) (ex_0 (ex_add ⟨by omega, by omega⟩ (ix_42i (sh_208 hS) (ex_10_2 ⟨by omega, by omega⟩ rfl (ex_28 (ex_4_2 (ex_if2 (fun hc => by exfalso; revert hc; decide) (fun _ => ?_)))))))))))))))))))))
  refine (ex_6_0 (ix_41r (sh_208 hS) (pt_208_12 hS) (ex_6_0 (ix_41i (sh_208 hS) u2_e (ex_4_1 (ex_4_2 (ex_11e (v := (am_b2 7 v 0)) rfl (ex_0 (ex_11e (v := (am_b2 3 (am_b2 7 v 0) 255)) rfl (ix_34 (j := (((t + 1) + 1) + 1)) (sh_217 hS) (by omega) (by omega) (by omega) (ex_6_0 (ex_22 rfl (ix_41i (sh_208 hS) ((u2_q (by decide)).trans u2_e) (ex_0 (ex_add ⟨by omega, by omega⟩ (ix_42i (sh_208 hS) (ex_10_2 ⟨by omega, by omega⟩ rfl (ex_28 (ex_4_2 (ex_if2 (fun _ => ?_) (fun hc => by exfalso; revert hc; decide)))))))))))))))))))))
  exact ex_56 (by rw [← m_four_eq]; rfl)
theorem m_four_q {I : Nat → Nat → Int} {t q k : Nat} {v : Int} (h1 : ¬ q = 208) (h2 : ¬ q = 217) : m_four I t v q k = I q k := by
  unfold m_four; rw [u2_q h1, u1_q h2]
theorem m_four_f {I : Nat → Nat → Int} {t k : Nat} {v : Int} (h1 : ¬ k = 13) : m_four I t v 208 k = I 208 k := by
  unfold m_four; rw [u2_k h1, u1_q (by decide)]
theorem m_four_t {I : Nat → Nat → Int} {t : Nat} {v : Int} : m_four I t v 208 13 = ((t + 4 : Nat) : Int) := by
  unfold m_four; rw [u2_e]
theorem m_four_b {I : Nat → Nat → Int} {t : Nat} {v : Int} : m_four I t v 217 = m_put4 (I 217) t v := by
  unfold m_four; rw [u2_qf (by decide), u1_e]
theorem m_feed_n {d : Nat} {G : am_G} {I : Nat → Nat → Int} {P : Nat → Nat → Option Nat} (hS : ST G P) {a b c e f : Int} {t : Nat} (ht : I 208 13 = (t : Int)) (hl : ¬ t + 20 ≤ 400) (hl4 : t ≤ 400) : am_call am_B am_M (d + 2) 195 [(.inr (.inr (some 208))), (.inl a), (.inl b), (.inl c), (.inl e), (.inl f)] (G, I, P) = some (some (.inl (-1)), (G, (am_u2 I 208 0 0), P)) := by
  refine am_doL (L := [some (.inr (.inr (some 208))), some (.inl a), some (.inl b), some (.inl c), some (.inl e), some (.inl f)]) (Nat.le_of_ble_eq_true rfl) rfl ?_
  refine (ex_6_0 (ex_0 (ix_42i (sh_208 hS) (ex_6_0 (ix_41i (sh_208 hS) ((u2_k (by decide)).trans ht) (ex_0 (ex_add ⟨by omega, by omega⟩ (ex_0 ?_))))))))
  refine ex_ic5 (fun hc15 => by exfalso; omega) (fun hc15 => ?_)
  refine (ex_0 ?_)
  exact ex_53 rfl
theorem m_feed {d : Nat} {G : am_G} {I : Nat → Nat → Int} {P : Nat → Nat → Option Nat} (hS : ST G P) {a b c e f : Int} {t : Nat} (ht : I 208 13 = (t : Int)) (hl : t + 20 ≤ 400) : am_call am_B am_M (d + 2) 195 [(.inr (.inr (some 208))), (.inl a), (.inl b), (.inl c), (.inl e), (.inl f)] (G, I, P) = some (some (.inl (((((((t + 4) + 4) + 4) + 4) + 4) : Nat) : Int)), (G, (m_four (m_four (m_four (m_four (m_four (am_u2 I 208 0 0) t a) (t + 4) b) ((t + 4) + 4) c) (((t + 4) + 4) + 4) e) ((((t + 4) + 4) + 4) + 4) f), P)) := by
  refine am_doL (L := [some (.inr (.inr (some 208))), some (.inl a), some (.inl b), some (.inl c), some (.inl e), some (.inl f)]) (Nat.le_of_ble_eq_true rfl) rfl ?_
  refine (ex_6_0 (ex_0 (ix_42i (sh_208 hS) (ex_6_0 (ix_41i (sh_208 hS) ((u2_k (by decide)).trans ht) (ex_0 (ex_add ⟨by omega, by omega⟩ (ex_0 ?_))))))))
  refine ex_ic5 (fun hc15 => ?_) (fun hc15 => by exfalso; omega)
  refine (ex_6_0 (ex_4_1 (ix_46 (S' := []) rfl (sh_208 hS) (c_four hS (t := t) ((u2_k (by decide)).trans ht) (by omega)) rfl rfl (ex_6_0 (ex_4_2 (ix_46 (S' := []) rfl (sh_208 hS) (c_four hS (t := (t + 4)) m_four_t (by omega)) rfl rfl (ex_6_0 (ex_4_3 (ix_46 (S' := []) rfl (sh_208 hS) (c_four hS (t := ((t + 4) + 4)) m_four_t (by omega)) rfl rfl (ex_6_0 (ex_4_4 (ix_46 (S' := []) rfl (sh_208 hS) (c_four hS (t := (((t + 4) + 4) + 4)) m_four_t (by omega)) rfl rfl (ex_6_0 (ex_4_5 (ix_46 (S' := []) rfl (sh_208 hS) (c_four hS (t := ((((t + 4) + 4) + 4) + 4)) m_four_t (by omega)) rfl rfl (ex_6_0 (ix_41i (sh_208 hS) m_four_t ?_)))))))))))))))))
  exact ex_53 rfl
def m_road1 (ρ : Nat → Int) (b o : Nat) (l : Int) : Nat → Int := am_u1 (am_u1 ρ (52 + 6 * b + o) l) (52 + 6 * o + b) l
def m_isR (a b c : Int) : Prop := (0 ≤ a ∧ a < 6) ∧ (0 ≤ b ∧ b < 6) ∧ ¬ a = b ∧ (0 ≤ c ∧ c ≤ 9)
def m_rowF (tp : Nat → Int) (had i : Nat) (z : (Nat → Int) × Int × Int) : (Nat → Int) × Int × Int := if 3 * i + 2 < had ∧ ((0 ≤ tp (3 * i) ∧ tp (3 * i) < 6) ∧ (0 ≤ tp (3 * i + 1) ∧ tp (3 * i + 1) < 6) ∧ ¬ tp (3 * i) = tp (3 * i + 1) ∧ (0 ≤ tp (3 * i + 2) ∧ tp (3 * i + 2) ≤ 9)) then (m_road1 z.1 (tp (3 * i)).toNat (tp (3 * i + 1)).toNat (tp (3 * i + 2)), z.2.1 + 1, z.2.2) else (z.1, z.2.1, z.2.2 + 1)
def m_rowH (I : Nat → Nat → Int) (z : (Nat → Int) × Int × Int) : Nat → Nat → Int := am_u2 (am_u1 I 210 z.1) 208 11 z.2.2
theorem m_rowH_q {I : Nat → Nat → Int} {z : (Nat → Int) × Int × Int} {q k : Nat} (h1 : ¬ q = 208) (h2 : ¬ q = 210) : m_rowH I z q k = I q k := by
  unfold m_rowH; rw [u2_q h1, u1_q h2]
theorem m_rowH_r {I : Nat → Nat → Int} {z : (Nat → Int) × Int × Int} {b o : Nat} {l : Int} : am_u2 (am_u2 (m_rowH I z) 210 (52 + 6 * b + o) l) 210 (52 + 6 * o + b) l = m_rowH I (m_road1 z.1 b o l, z.2.1 + 1, z.2.2) := by
  unfold m_rowH m_road1
  rw [u2_sw (q := 208) (q' := 210) (by decide), u2_sw (q := 208) (q' := 210) (by decide), u2_u1, u2_u1]
theorem m_rowH_w {I : Nat → Nat → Int} {z : (Nat → Int) × Int × Int} : am_u2 (m_rowH I z) 208 11 (z.2.2 + 1) = m_rowH I (z.1, z.2.1, z.2.2 + 1) := by
  unfold m_rowH; rw [u2_u2]
theorem m_row_e {d : Nat} {G : am_G} {I : Nat → Nat → Int} {P : Nat → Nat → Option Nat} (hS : ST G P) (ht : I 208 13 = 0) (hR6 : 0 ≤ I 209 6 ∧ I 209 6 ≤ 1000000) : am_call am_B am_M (d + 4) 192 [(.inr (.inr (some 208)))] (G, I, P) = some (some (.inl (-6)), (G, (am_u2 (am_u2 (am_u2 (am_u2 I 208 0 0) 208 13 0) 208 1 (-6)) 209 6 (I 209 6 + 1)), P)) := by
  refine am_doL (L := [some (.inr (.inr (some 208))), none, none, none]) (Nat.le_of_ble_eq_true rfl) rfl ?_
  refine (ex_6_0 (ex_0 (ix_42i (sh_208 hS) (ex_6_0 (ix_41i (sh_208 hS) ((u2_k (by decide)).trans ht) (ex_7_1 rfl (ex_6_0 (ex_0 (ix_42i (sh_208 hS) (ex_4_1 (ex_if1 (fun hc => by exfalso; revert hc; decide) (fun _ => ?_))))))))))))
  refine (ex_6_0 (ex_0 (ix_46 (S' := [(.inl (-6))]) rfl (sh_208 hS) (c_tell_c hS (k := 6) (by decide) (by decide) ((u2_q (by decide)).trans (u2_q (by decide))) hR6) rfl rfl ?_)))
  exact ex_53 rfl
theorem c_setRoad_i {d : Nat} {G : am_G} {I : Nat → Nat → Int} {P : Nat → Nat → Option Nat} (hS : ST G P) {one other len : Int} (h1 : 0 ≤ one ∧ one < 6) (h2 : 0 ≤ other ∧ other < 6) : am_call am_B am_M (d + 1) 188 [.inr (.inr (some 208)), .inl one, .inl other, .inl len] (G, I, P) = some (none, (G, am_u2 (am_u2 I 210 (52 + 6 * one.toNat + other.toNat) len) 210 (52 + 6 * other.toNat + one.toNat) len, P)) := by
  have := c_setRoad (d := d) (I := I) (G := G) (P := P) hS (b := one.toNat) (o := other.toNat) (len := len) (by omega) (by omega)
  rw [Int.toNat_of_nonneg h1.1, Int.toNat_of_nonneg h2.1] at this
  exact this
theorem m_row {d : Nat} {G : am_G} {I : Nat → Nat → Int} {P : Nat → Nat → Option Nat} (hS : ST G P) {had : Nat} (ht : I 208 13 = (had : Int)) (h0 : ¬ had = 0) (h4 : had ≤ 400) : am_call am_B am_M (d + 4) 192 [(.inr (.inr (some 208)))] (G, I, P) = some (some (.inl (am_it (fun i z => m_rowF (I 217) had i z) ((had + 2) / 3) 0 ((am_u2 (am_u2 (am_u2 I 208 0 0) 208 13 0) 208 11 0) 210, 0, 0)).2.1), (G, am_u2 (m_rowH (am_u2 (am_u2 (am_u2 I 208 0 0) 208 13 0) 208 11 0) (am_it (fun i z => m_rowF (I 217) had i z) ((had + 2) / 3) 0 ((am_u2 (am_u2 (am_u2 I 208 0 0) 208 13 0) 208 11 0) 210, 0, 0))) 208 1 0, P)) := by
  refine am_doL (L := [some (.inr (.inr (some 208))), none, none, none]) (Nat.le_of_ble_eq_true rfl) rfl ?_
  refine (ex_6_0 (ex_0 (ix_42i (sh_208 hS) (ex_6_0 (ix_41i (sh_208 hS) ((u2_k (by decide)).trans ht) (ex_7_1 rfl (ex_6_0 (ex_0 (ix_42i (sh_208 hS) (ex_4_1 ?_))))))))))
  refine ex_if1 (fun hc16 => ?_) (fun hc16 => by exfalso; omega)
  refine (ex_6_0 (ex_0 (ix_42i (sh_208 hS) (ex_0 (ex_7_2 rfl (ex_0 (ex_7_3 rfl (ex_58 ?_))))))))
  refine ex_forH (b := 3) (σ := (Nat → Int) × Int × Int) ((had + 2) / 3) (fun i z => m_rowF (I 217) had i z) (fun i z => 0 ≤ z.2.1 ∧ z.2.1 ≤ (i : Int) ∧ 0 ≤ z.2.2 ∧ z.2.2 ≤ (i : Int)) (fun i z e_i => [some (.inr (.inr (some 208))), some (.inl (had : Int)), some (.inl z.2.1), some (.inl (3 * (i : Int)))]) (fun i z => (G, (m_rowH (am_u2 (am_u2 (am_u2 I 208 0 0) 208 13 0) 208 11 0) z), P)) ?_ ?_ ((had + 2) / 3) (0) (((am_u2 (am_u2 (am_u2 I 208 0 0) 208 13 0) 208 11 0) 210, 0, 0)) (fun k_ => ([some (.inr (.inr (some 208))), some (.inl (had : Int)), some (.inl 0), some (.inl 0)] : am_L).getD k_ none) (by omega) (⟨Int.le_refl 0, Int.le_refl 0, Int.le_refl 0, Int.le_refl 0⟩) rfl (congrArg (fun J => (G, J, P)) (by unfold m_rowH; rw [u1_self, u2_u2])) ?_
  · intro i z hii hvi
    show 0 ≤ (m_rowF (I 217) had i z).2.1 ∧ (m_rowF (I 217) had i z).2.1 ≤ ((i + 1 : Nat) : Int) ∧ 0 ≤ (m_rowF (I 217) had i z).2.2 ∧ (m_rowF (I 217) had i z).2.2 ≤ ((i + 1 : Nat) : Int)
    have hvi : 0 ≤ z.2.1 ∧ z.2.1 ≤ (i : Int) ∧ 0 ≤ z.2.2 ∧ z.2.2 ≤ (i : Int) := hvi
    unfold m_rowF
    split
    · exact ⟨by show 0 ≤ z.2.1 + 1; omega, by show z.2.1 + 1 ≤ _; omega, by show 0 ≤ z.2.2; omega, by show z.2.2 ≤ _; omega⟩
    · exact ⟨by show 0 ≤ z.2.1; omega, by show z.2.1 ≤ _; omega, by show 0 ≤ z.2.2 + 1; omega, by show z.2.2 + 1 ≤ _; omega⟩
  · intro i z e_i hii hvi z' hsi hki
    have hvi : 0 ≤ z.2.1 ∧ z.2.1 ≤ (i : Int) ∧ 0 ≤ z.2.2 ∧ z.2.2 ≤ (i : Int) := hvi
    refine (ex_4_3 (ex_4_1 ?_))
    refine ex_ic3 (fun hc37 => by exfalso; omega) (fun hc37 => ?_)
    refine (ex_4_3 (ex_0 (ex_add ⟨by omega, by omega⟩ (ex_4_1 ?_))))
    refine ex_ic3 (fun hc44 => ?_) (fun hc44 => ?_)
    · refine (ex_6_0 (ex_22 rfl (ix_41i (sh_208 hS) u2_e (ex_0 (ex_add ⟨by omega, by omega⟩ (ix_42i (sh_208 hS) (ex_58 (ex_10_3 ⟨by omega, by omega⟩ rfl ?_))))))))
      rw [show ((3 * (i : Int)) + 3) = (3 * ((i + 1 : Nat) : Int)) from by omega]
      refine (ex_28 ?_)
      rw [m_rowH_w]
      rw [hsi.trans (if_neg (by rintro ⟨z1, z2⟩; first | omega | exact hb69 z2))] at hki
      exact hki (fun k_ => ([some (.inr (.inr (some 208))), some (.inl (had : Int)), some (.inl z.2.1), some (.inl (3 * ((i + 1 : Nat) : Int)))] : am_L).getD k_ none)
    · refine (ex_6_0 (ix_41r (sh_208 hS) (pt_208_12 hS) (ex_4_3 (ix_30 (j := (3 * i)) (sh_217 hS) (by omega) (by omega) (by omega) (((m_rowH_q (by decide) (by decide))).trans ((u2_q (by decide)).trans ((u2_q (by decide)).trans (u2_q (by decide))))) (ex_6_0 (ix_41r (sh_208 hS) (pt_208_12 hS) (ex_4_3 (ex_0 (ex_add ⟨by omega, by omega⟩ (ix_30 (j := ((3 * i) + 1)) (sh_217 hS) (by omega) (by omega) (by omega) (((m_rowH_q (by decide) (by decide))).trans ((u2_q (by decide)).trans ((u2_q (by decide)).trans (u2_q (by decide))))) (ex_6_0 (ix_41r (sh_208 hS) (pt_208_12 hS) (ex_4_3 (ex_0 (ex_add ⟨by omega, by omega⟩ (ix_30 (j := ((3 * i) + 2)) (sh_217 hS) (by omega) (by omega) (by omega) (((m_rowH_q (by decide) (by decide))).trans ((u2_q (by decide)).trans ((u2_q (by decide)).trans (u2_q (by decide))))) ?_))))))))))))))))
      by_cases hb69 : (((0 : Int) ≤ (I 217 (3 * i)) ∧ (I 217 (3 * i)) < 6) ∧ (0 ≤ (I 217 ((3 * i) + 1)) ∧ (I 217 ((3 * i) + 1)) < 6) ∧ ¬ (I 217 (3 * i)) = (I 217 ((3 * i) + 1)) ∧ (0 ≤ (I 217 ((3 * i) + 2)) ∧ (I 217 ((3 * i) + 2)) ≤ 9))
      · refine (ix_45 (S' := [(.inl 1)]) rfl (c_isRoad_t hb69) rfl rfl (ex_if0 (fun hc => by exfalso; revert hc; decide) (fun _ => ?_)))
        refine (ex_6_0 (ex_6_0 (ix_41r (sh_208 hS) (pt_208_12 hS) (ex_4_3 (ix_30 (j := (3 * i)) (sh_217 hS) (by omega) (by omega) (by omega) (((m_rowH_q (by decide) (by decide))).trans ((u2_q (by decide)).trans ((u2_q (by decide)).trans (u2_q (by decide))))) (ex_6_0 (ix_41r (sh_208 hS) (pt_208_12 hS) (ex_4_3 (ex_0 (ex_add ⟨by omega, by omega⟩ (ix_30 (j := ((3 * i) + 1)) (sh_217 hS) (by omega) (by omega) (by omega) (((m_rowH_q (by decide) (by decide))).trans ((u2_q (by decide)).trans ((u2_q (by decide)).trans (u2_q (by decide))))) (ex_6_0 (ix_41r (sh_208 hS) (pt_208_12 hS) (ex_4_3 (ex_0 (ex_add ⟨by omega, by omega⟩ (ix_30 (j := ((3 * i) + 2)) (sh_217 hS) (by omega) (by omega) (by omega) (((m_rowH_q (by decide) (by decide))).trans ((u2_q (by decide)).trans ((u2_q (by decide)).trans (u2_q (by decide))))) (ix_46 (S' := []) rfl (sh_208 hS) (c_setRoad_i hS (one := (I 217 (3 * i))) (other := (I 217 ((3 * i) + 1))) (by omega) (by omega)) rfl rfl (ex_10_2 ⟨by omega, by omega⟩ rfl (ex_28 (ex_10_3 ⟨by omega, by omega⟩ rfl ?_)))))))))))))))))))))
        rw [show ((3 * (i : Int)) + 3) = (3 * ((i + 1 : Nat) : Int)) from by omega]
        refine (ex_28 ?_)
        rw [m_rowH_r]
        rw [hsi.trans (if_pos ⟨by omega, hb69⟩)] at hki
        exact hki (fun k_ => ([some (.inr (.inr (some 208))), some (.inl (had : Int)), some (.inl (z.2.1 + 1)), some (.inl (3 * ((i + 1 : Nat) : Int)))] : am_L).getD k_ none)
      · refine (ix_45 (S' := [(.inl 0)]) rfl (c_isRoad_f hb69) rfl rfl (ex_if0 (fun _ => ?_) (fun hc => by exfalso; revert hc; decide)))
        refine (ex_6_0 (ex_22 rfl (ix_41i (sh_208 hS) u2_e (ex_0 (ex_add ⟨by omega, by omega⟩ (ix_42i (sh_208 hS) (ex_58 (ex_10_3 ⟨by omega, by omega⟩ rfl ?_))))))))
        rw [show ((3 * (i : Int)) + 3) = (3 * ((i + 1 : Nat) : Int)) from by omega]
        refine (ex_28 ?_)
        rw [m_rowH_w]
        rw [hsi.trans (if_neg (by rintro ⟨z1, z2⟩; first | omega | exact hb69 z2))] at hki
        exact hki (fun k_ => ([some (.inr (.inr (some 208))), some (.inl (had : Int)), some (.inl z.2.1), some (.inl (3 * ((i + 1 : Nat) : Int)))] : am_L).getD k_ none)
  · intro z e_i hsi hvi
    have hvi : 0 ≤ z.2.1 ∧ z.2.1 ≤ (((had + 2) / 3 : Nat) : Int) ∧ 0 ≤ z.2.2 ∧ z.2.2 ≤ (((had + 2) / 3 : Nat) : Int) := hvi
    refine (ex_4_3 (ex_4_1 ?_))
    refine ex_ic3 (fun hc37 => ?_) (fun hc37 => by exfalso; omega)
    refine (ex_6_0 (ex_4_2 (ix_46 (S' := [(.inl z.2.1)]) rfl (sh_208 hS) (c_tell_p hS (by omega)) rfl rfl ?_)))
    exact ex_53 (by rw [hsi])
def m_f1 (fd : Int) (i : Nat) (p : Nat → Int) : Nat → Int := am_u1 (am_u1 p i (p i * (10 - fd) / 10)) (i + 1) (p (i + 1) + p i * fd / 10)
def m_f2 (fd : Int) (k : Nat) (p : Nat → Int) : Nat → Int := am_it (fun j p => m_f1 fd (k - 1 - j) p) k 0 p
def m_f0 (i : Nat) (p : Nat → Int) : Nat → Int := am_u1 p i (if i = 0 then 1000000000000 else 0)
def m_few (fd : Int) (k n : Nat) (p : Nat → Int) : Nat → Int := am_it (fun _ p => m_f2 fd k p) n 0 (am_it (fun i p => m_f0 i p) 21 0 p)
/-- what holds between two steps of a round: j steps are done, m rounds -/
def m_fw (fd : Int) (k j m : Nat) (p : Nat → Int) : Prop := (∀ x, x < k → 0 ≤ p x ∧ p x ≤ 1000000000000 ∧ (0 < j → x = k - j → p x ≤ 100000000000 * (10 - fd))) ∧ 0 ≤ p k ∧ p k ≤ 1000000000000 * ((m : Int) + (if j = 0 then 0 else 1))
theorem m_f_div {x fd : Int} (hx : 0 ≤ x ∧ x ≤ 1000000000000) (hf : 0 ≤ fd ∧ fd ≤ 10) : 0 ≤ x * fd / 10 ∧ x * fd / 10 ≤ 100000000000 * fd ∧ 0 ≤ x * (10 - fd) / 10 ∧ x * (10 - fd) / 10 ≤ 100000000000 * (10 - fd) ∧ x * fd ≤ 10000000000000 ∧ x * (10 - fd) ≤ 10000000000000 ∧ 0 ≤ x * fd ∧ 0 ≤ x * (10 - fd) := by
  have : fd = 0 ∨ fd = 1 ∨ fd = 2 ∨ fd = 3 ∨ fd = 4 ∨ fd = 5 ∨ fd = 6 ∨ fd = 7 ∨ fd = 8 ∨ fd = 9 ∨ fd = 10 := by omega
  rcases this with rfl | rfl | rfl | rfl | rfl | rfl | rfl | rfl | rfl | rfl | rfl <;> omega
theorem m_f1_w {fd : Int} {k j m : Nat} {p : Nat → Int} (hf : 0 ≤ fd ∧ fd ≤ 10) (hj : j < k) (h : m_fw fd k j m p) : m_fw fd k (j + 1) m (m_f1 fd (k - 1 - j) p) := by
  obtain ⟨h1, h2, h3⟩ := h
  have hd := m_f_div (x := p (k - 1 - j)) (hx := ⟨(h1 (k - 1 - j) (by omega)).1, (h1 (k - 1 - j) (by omega)).2.1⟩) hf
  have e1 : k - 1 - j + 1 = k - j := by omega
  refine ⟨fun x hx => ?_, ?_, ?_⟩
  · have hx1 := h1 x hx
    unfold m_f1 am_u1
    rw [e1]
    by_cases hxa : x = k - j
    · rw [if_pos hxa]
      have := hx1.2.2 (by omega) hxa
      subst hxa
      refine ⟨by omega, by omega, fun _ z => by omega⟩
    · rw [if_neg hxa]
      by_cases hxb : x = k - 1 - j
      · rw [if_pos hxb]
        refine ⟨by omega, by omega, fun _ z => by omega⟩
      · rw [if_neg hxb]
        exact ⟨hx1.1, hx1.2.1, fun _ z => by omega⟩
  · unfold m_f1 am_u1
    rw [e1]
    by_cases hxa : k = k - j
    · rw [if_pos hxa, ← hxa]; omega
    · rw [if_neg hxa, if_neg (by omega)]; exact h2
  · unfold m_f1 am_u1
    rw [e1]
    by_cases hxa : k = k - j
    · have : j = 0 := by omega
      subst this
      rw [if_pos rfl] at h3
      rw [if_pos hxa, ← hxa, if_neg (by omega)]
      omega
    · rw [if_neg hxa, if_neg (by omega)]
      rw [if_neg (by omega)] at h3 ⊢
      exact h3
theorem m_fw_end {fd : Int} {k m : Nat} {p : Nat → Int} (hk : 0 < k) (h : m_fw fd k k m p) : m_fw fd k 0 (m + 1) p := by
  obtain ⟨h1, h2, h3⟩ := h
  refine ⟨fun x hx => ⟨(h1 x hx).1, (h1 x hx).2.1, fun z => absurd z (by omega)⟩, h2, ?_⟩
  rw [if_neg (by omega)] at h3
  rw [if_pos rfl]
  omega
theorem m_f2_w {fd : Int} {k m : Nat} {p : Nat → Int} (hf : 0 ≤ fd ∧ fd ≤ 10) (hk : 0 < k) (h : m_fw fd k 0 m p) : m_fw fd k 0 (m + 1) (m_f2 fd k p) :=
  m_fw_end hk (am_it_inv (inv := fun j p => m_fw fd k j m p) (N := k) (fun _ _ hj h => m_f1_w hf hj h) k 0 p (by omega) h)
theorem m_f0_w {fd : Int} {k : Nat} {p : Nat → Int} (hk : k ≤ 20) (hk0 : 0 < k) : m_fw fd k 0 0 (am_it (fun i p => m_f0 i p) 21 0 p) := by
  have : ∀ x, x < 21 → (am_it (fun i p => m_f0 i p) 21 0 p) x = if x = 0 then 1000000000000 else 0 := by
    refine am_it_inv (f := fun i p => m_f0 i p) (inv := fun i p => ∀ x, x < i → p x = if x = 0 then 1000000000000 else 0) (N := 21) (fun i s hi h x hx => ?_) 21 0 p rfl (fun x hx => absurd hx (by omega))
    show m_f0 i s x = _
    unfold m_f0 am_u1
    by_cases hx2 : x = i
    · rw [if_pos hx2, hx2]
    · rw [if_neg hx2]; exact h x (by omega)
  refine ⟨fun x hx => ?_, ?_, ?_⟩
  · rw [this x (by omega)]
    refine ⟨by split <;> omega, by split <;> omega, fun z => absurd z (by omega)⟩
  · rw [this k (by omega)]; split <;> omega
  · rw [this k (by omega), if_neg (by omega), if_pos rfl]; omega
theorem m_few_c {d : Nat} {G : am_G} {I : Nat → Nat → Int} {P : Nat → Nat → Option Nat} (hS : ST G P) {k n : Nat} {fd : Int} (hk : 1 ≤ k ∧ k ≤ 20) (hn : n ≤ 99) (h6 : I 210 6 = fd) (hfd : 0 ≤ fd ∧ fd ≤ 10) : am_call am_B am_M (d + 2) 273 [(.inr (.inr (some 208))), (.inl (k : Int)), (.inl (n : Int))] (G, I, P) = some (some (.inr (.inl (am_it (fun i v => v + (m_few fd k n ((am_u2 I 208 0 0) 236)) i) k 0 0))), (G, am_u1 (am_u2 I 208 0 0) 236 (m_few fd k n ((am_u2 I 208 0 0) 236)), P)) := by
  refine am_doL (L := [some (.inr (.inr (some 208))), some (.inl (k : Int)), some (.inl (n : Int)), none, none, none, none, none]) (Nat.le_of_ble_eq_true rfl) rfl ?_
  refine (ex_6_0 (ex_0 (ix_42i (sh_208 hS) (ex_4_1 (ex_19 (ex_1 (ex_1 ?_)))))))
  have hb11 : ((1 : Int) ≤ (k : Int) ∧ ((k : Int) : Int) ≤ 20) := by omega
  refine (ix_45 (S' := [(.inl 1)]) rfl (c_in_t hb11) rfl rfl (ex_if0 (fun hc => by exfalso; revert hc; decide) (fun _ => ?_)))
  refine (ex_4_2 (ex_19 (ex_1 (ex_1 ?_))))
  have hb23 : ((0 : Int) ≤ (n : Int) ∧ ((n : Int) : Int) ≤ 99) := by omega
  refine (ix_45 (S' := [(.inl 1)]) rfl (c_in_t hb23) rfl rfl (ex_if1 (fun _ => ?_) (fun hc => by exfalso; revert hc; decide)))
  refine (ex_0 (ex_7_3 rfl (ex_58 ?_)))
  refine ex_forH (b := 4) (σ := Nat → Int) (21) (fun i p_0 => m_f0 i p_0) (fun i p_0 => True) (fun i p_0 e_i => [some (.inr (.inr (some 208))), some (.inl (k : Int)), some (.inl (n : Int)), some (.inl (i : Int)), none, none, none, none]) (fun i p_0 => (G, (am_u1 (am_u2 I 208 0 0) 236 p_0), P)) ?_ ?_ (21) (0) ((am_u2 I 208 0 0) 236) (fun k_ => ([some (.inr (.inr (some 208))), some (.inl (k : Int)), some (.inl (n : Int)), some (.inl 0), none, none, none, none] : am_L).getD k_ none) (by omega) (trivial) rfl (congrArg (fun J => (G, J, P)) u1_self.symm) ?_
  · intro i p_0 hii hvi
    exact trivial
  · intro i p_0 e_i hii hvi p_0' hsi hki
    refine (ex_4_3 (ex_0 ?_))
    refine ex_ic3 (fun hc38 => by exfalso; omega) (fun hc38 => ?_)
    refine (ex_6_0 (ix_41r (sh_208 hS) (pt_208_48 hS) (ex_4_3 (ex_4_3 ?_))))
    refine ex_if1 (fun hc47 => ?_) (fun hc47 => ?_)
    · refine (ex_1 (ex_58 (ix_36 (j := i) (sh_236 hS) (by omega) (by omega) (by omega) (ex_10_3 ⟨by omega, by omega⟩ rfl (ex_28 ?_)))))
      rw [u2_u1]
      rw [hsi.trans (congrArg (am_u1 p_0 i) (if_neg (by omega)))] at hki
      exact hki (fun k_ => ([some (.inr (.inr (some 208))), some (.inl (k : Int)), some (.inl (n : Int)), some (.inl ((i : Int) + 1)), none, none, none, none] : am_L).getD k_ none)
    · refine (ex_1 (ex_28 (ix_36 (j := i) (sh_236 hS) (by omega) (by omega) (by omega) (ex_10_3 ⟨by omega, by omega⟩ rfl (ex_28 ?_)))))
      rw [u2_u1]
      rw [hsi.trans (congrArg (am_u1 p_0 i) (if_pos (by omega)))] at hki
      exact hki (fun k_ => ([some (.inr (.inr (some 208))), some (.inl (k : Int)), some (.inl (n : Int)), some (.inl ((i : Int) + 1)), none, none, none, none] : am_L).getD k_ none)
  · intro p_0 e_i hsi hvi
    have hvp : m_fw fd k 0 0 p_0 := by rw [hsi]; exact m_f0_w (by omega) (by omega)
    refine (ex_4_3 (ex_0 ?_))
    refine ex_ic3 (fun hc38 => ?_) (fun hc38 => by exfalso; omega)
    refine (ex_6_0 (ix_41r (sh_208 hS) (pt_208_3 hS) (ex_0 (ix_30 (j := 6) (sh_210 hS) (by decide) (by decide) rfl (((u1_qk (by decide))).trans ((u2_q (by decide)).trans h6)) (ex_7_3 rfl (ex_0 (ex_7_4 rfl (ex_58 ?_))))))))
    refine ex_forH (b := 10) (σ := Nat → Int) (n) (fun m p_m => m_f2 fd k p_m) (fun m p_m => m_fw fd k 0 m p_m) (fun m p_m e_m => [some (.inr (.inr (some 208))), some (.inl (k : Int)), some (.inl (n : Int)), some (.inl fd), some (.inl (m : Int)), (e_m 5), (e_m 6), (e_m 7)]) (fun m p_m => (G, (am_u1 (am_u2 I 208 0 0) 236 p_m), P)) ?_ ?_ (n) (0) (p_0) (fun k_ => ([some (.inr (.inr (some 208))), some (.inl (k : Int)), some (.inl (n : Int)), some (.inl fd), some (.inl 0), none, none, none] : am_L).getD k_ none) (by omega) (hvp) rfl (rfl) ?_
    · intro m p_m him hvm
      exact m_f2_w hfd (by omega) hvm
    · intro m p_m e_m him hvm p_m' hsm hkm
      have hvm : m_fw fd k 0 m p_m := hvm
      refine (ex_4_4 (ex_4_2 ?_))
      refine ex_ic3 (fun hc78 => by exfalso; omega) (fun hc78 => ?_)
      refine (ex_4_1 (ex_0 (ex_11e (v := ((k : Int) - 1 - ((0 : Nat) : Int))) ((am_sub ⟨by omega, by omega⟩).trans (by omega)) (ex_7_5 rfl (ex_58 ?_)))))
      refine ex_forH (b := 12) (σ := Nat → Int) (k) (fun j p_j => m_f1 fd (k - 1 - j) p_j) (fun j p_j => m_fw fd k j m p_j) (fun j p_j e_j => [some (.inr (.inr (some 208))), some (.inl (k : Int)), some (.inl (n : Int)), some (.inl fd), some (.inl (m : Int)), some (.inl ((k : Int) - 1 - (j : Int))), (e_j 6), (e_j 7)]) (fun j p_j => (G, (am_u1 (am_u2 I 208 0 0) 236 p_j), P)) ?_ ?_ (k) (0) (p_m) (fun k_ => ([some (.inr (.inr (some 208))), some (.inl (k : Int)), some (.inl (n : Int)), some (.inl fd), some (.inl (m : Int)), some (.inl ((k : Int) - 1 - ((0 : Nat) : Int))), (e_m 6), (e_m 7)] : am_L).getD k_ none) (by omega) (hvm) rfl (rfl) ?_
      · intro j p_j hij hvj
        exact m_f1_w hfd hij hvj
      · intro j p_j e_j hij hvj p_j' hsj hkj
        have hvj : m_fw fd k j m p_j := hvj
        have hd := (m_f_div (x := p_j (k - 1 - j)) ⟨(hvj.1 (k - 1 - j) (by omega)).1, (hvj.1 (k - 1 - j) (by omega)).2.1⟩ hfd)
        have hb1 : 0 ≤ p_j (k - 1 - j + 1) ∧ p_j (k - 1 - j + 1) ≤ 200000000000000 := by
          have hw := hvj
          obtain ⟨g1, g2, g3⟩ := hw
          by_cases hj0 : j = 0
          · subst hj0
            rw [if_pos rfl] at g3
            rw [show k - 1 - 0 + 1 = k by omega]
            exact ⟨g2, by omega⟩
          · have := g1 (k - 1 - j + 1) (by omega)
            exact ⟨this.1, by omega⟩
        refine (ex_4_5 ?_)
        refine ex_if2 (fun hc88 => by exfalso; omega) (fun hc88 => ?_)
        refine (ex_6_0 (ix_41r (sh_208 hS) (pt_208_48 hS) (ex_4_5 (ix_32 (j := (k - 1 - j)) (sh_236 hS) (by omega) (by omega) (by omega) (congrFun u1_e _) (ex_8_6 rfl (ex_6_0 (ix_41r (sh_208 hS) (pt_208_48 hS) (ex_4_5 (ex_5_6 (ex_0 (ex_4_3 (ex_sub ⟨by omega, by omega⟩ (ex_19 (ex_lmul ⟨by omega, by omega⟩ (ex_1 (ex_16 (by decide) (am_d8q (by omega) (by decide) (by omega) (by decide)) (ix_36 (j := (k - 1 - j)) (sh_236 hS) (by omega) (by omega) (by omega) (ex_6_0 (ix_41r (sh_208 hS) (pt_208_48 hS) (ex_4_5 (ex_0 (ex_add ⟨by omega, by omega⟩ (ex_23 rfl (ix_32 (j := ((k - 1 - j) + 1)) (sh_236 hS) (by omega) (by omega) (by omega) ((u2_k (by omega)).trans (congrFun u1_e _)) (ex_5_6 (ex_4_3 (ex_19 (ex_lmul ⟨by omega, by omega⟩ (ex_1 (ex_16 (by decide) (am_d8q (by omega) (by decide) (by omega) (by decide)) (ex_ladd ⟨by omega, by omega⟩ (ix_36 (j := ((k - 1 - j) + 1)) (sh_236 hS) (by omega) (by omega) (by omega) (ex_10_5 ⟨by omega, by omega⟩ rfl ?_)))))))))))))))))))))))))))))))))
        rw [show (((k : Int) - 1 - (j : Int)) + (-1)) = ((k : Int) - 1 - ((j + 1 : Nat) : Int)) from by omega]
        refine (ex_28 ?_)
        rw [u2_u1, u2_u1]
        rw [hsj] at hkj
        exact hkj (fun k_ => ([some (.inr (.inr (some 208))), some (.inl (k : Int)), some (.inl (n : Int)), some (.inl fd), some (.inl (m : Int)), some (.inl ((k : Int) - 1 - ((j + 1 : Nat) : Int))), some (.inr (.inl (p_j (k - 1 - j)))), none] : am_L).getD k_ none)
      · intro p_j e_j hsj hvj
        refine (ex_4_5 ?_)
        refine ex_if2 (fun hc88 => ?_) (fun hc88 => by exfalso; omega)
        refine (ex_10_4 ⟨by omega, by omega⟩ rfl (ex_28 ?_))
        rw [hsm.trans hsj.symm] at hkm
        exact hkm (fun k_ => ([some (.inr (.inr (some 208))), some (.inl (k : Int)), some (.inl (n : Int)), some (.inl fd), some (.inl ((m : Int) + 1)), some (.inl ((k : Int) - 1 - ((k) : Int))), (e_j 6), (e_j 7)] : am_L).getD k_ none)
    · intro p_m e_m hsm hvm
      refine (ex_4_4 (ex_4_2 ?_))
      refine ex_ic3 (fun hc78 => ?_) (fun hc78 => by exfalso; omega)
      refine (ex_1 (ex_8_4 rfl (ex_0 (ex_7_6 rfl (ex_58 ?_)))))
      refine ex_forH (b := 16) (σ := Int) (k) (fun x v => v + p_m x) (fun x v => 0 ≤ v ∧ v ≤ 1000000000000 * (x : Int)) (fun x v e_x => [some (.inr (.inr (some 208))), some (.inl (k : Int)), some (.inl (n : Int)), some (.inl fd), some (.inr (.inl v)), (e_x 5), some (.inl (x : Int)), (e_x 7)]) (fun x v => (G, (am_u1 (am_u2 I 208 0 0) 236 p_m), P)) ?_ ?_ (k) (0) (0) (fun k_ => ([some (.inr (.inr (some 208))), some (.inl (k : Int)), some (.inl (n : Int)), some (.inl fd), some (.inr (.inl 0)), none, some (.inl 0), (e_m 7)] : am_L).getD k_ none) (by omega) (⟨by decide, by decide⟩) rfl (rfl) ?_
      · intro x v hix hvx
        have := hvm.1 x hix
        have hvx : 0 ≤ v ∧ v ≤ 1000000000000 * (x : Int) := hvx
        show 0 ≤ v + p_m x ∧ v + p_m x ≤ 1000000000000 * ((x + 1 : Nat) : Int)
        omega
      · intro x v e_x hix hvx v' hsx hkx
        have hq := hvm.1 x hix
        have hvx : 0 ≤ v ∧ v ≤ 1000000000000 * (x : Int) := hvx
        refine (ex_4_6 (ex_4_1 ?_))
        refine ex_ic3 (fun hc161 => by exfalso; omega) (fun hc161 => ?_)
        refine (ex_5_4 (ex_6_0 (ix_41r (sh_208 hS) (pt_208_48 hS) (ex_4_6 (ix_32 (j := x) (sh_236 hS) (by omega) (by omega) (by omega) (congrFun u1_e _) (ex_ladd ⟨by omega, by omega⟩ (ex_8_4 rfl (ex_10_6 ⟨by omega, by omega⟩ rfl (ex_28 ?_)))))))))
        rw [hsx] at hkx
        exact hkx (fun k_ => ([some (.inr (.inr (some 208))), some (.inl (k : Int)), some (.inl (n : Int)), some (.inl fd), some (.inr (.inl (v + (p_m x)))), none, some (.inl ((x : Int) + 1)), (e_x 7)] : am_L).getD k_ none)
      · intro v e_x hsx hvx
        refine (ex_4_6 (ex_4_1 ?_))
        refine ex_ic3 (fun hc161 => ?_) (fun hc161 => by exfalso; omega)
        refine (ex_5_4 ?_)
        exact ex_54 (by rw [hsx, show p_m = m_few fd k n ((am_u2 I 208 0 0) 236) from by rw [hsm, hsi]; rfl])
theorem m_few_b {d : Nat} {G : am_G} {I : Nat → Nat → Int} {P : Nat → Nat → Option Nat} (hS : ST G P) {k n : Int} (hb : ¬ ((1 ≤ k ∧ k ≤ 20) ∧ (0 ≤ n ∧ n ≤ 99))) : am_call am_B am_M (d + 2) 273 [(.inr (.inr (some 208))), (.inl k), (.inl n)] (G, I, P) = some (some (.inr (.inl (-1))), (G, (am_u2 I 208 0 0), P)) := by
  refine am_doL (L := [some (.inr (.inr (some 208))), some (.inl k), some (.inl n), none, none, none, none, none]) (Nat.le_of_ble_eq_true rfl) rfl ?_
  refine (ex_6_0 (ex_0 (ix_42i (sh_208 hS) (ex_4_1 (ex_19 (ex_1 (ex_1 ?_)))))))
  by_cases hb11 : ((1 : Int) ≤ k ∧ (k : Int) ≤ 20)
  · refine (ix_45 (S' := [(.inl 1)]) rfl (c_in_t hb11) rfl rfl (ex_if0 (fun hc => by exfalso; revert hc; decide) (fun _ => ?_)))
    refine (ex_4_2 (ex_19 (ex_1 (ex_1 ?_))))
    have hb23 : ¬ (((0 : Int) ≤ n ∧ (n : Int) ≤ 99)) := by omega
    refine (ix_45 (S' := [(.inl 0)]) rfl (c_in_f hb23) rfl rfl (ex_if1 (fun hc => by exfalso; revert hc; decide) (fun _ => ?_)))
    refine (ex_1 ?_)
    exact ex_54 rfl
  · refine (ix_45 (S' := [(.inl 0)]) rfl (c_in_f hb11) rfl rfl (ex_if0 (fun _ => ?_) (fun hc => by exfalso; revert hc; decide)))
    refine (ex_1 ?_)
    exact ex_54 rfl
