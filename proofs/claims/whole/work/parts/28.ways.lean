/-! ===== the reference: needed boxes, ways, few, the tape ===== -/
def m_nI (ρ : Nat → Int) (s b o : Nat) (so : Int) : Int := if so = 1 ∨ (¬ o = b ∧ (wh s).testBit o = true ∧ ¬ m_comes ρ o (wh s &&& (wh s ^^^ 2 ^ b)) = (m_comes ρ o (wh s) &&& (m_comes ρ o (wh s) ^^^ 2 ^ b))) then 1 else 0
def m_nO (ρ : Nat → Int) (s b its : Nat) : Nat := if am_it (fun o so => m_nI ρ s b o so) 6 0 0 = 1 ∧ (wh s).testBit b = true then its ||| 2 ^ b else its
def m_needed (ρ : Nat → Int) (s : Nat) : Nat := am_it (fun b its => m_nO ρ s b its) 6 0 0
theorem m_nI_01 {ρ : Nat → Int} {s b o : Nat} {so : Int} : m_nI ρ s b o so = 0 ∨ m_nI ρ s b o so = 1 := by
  unfold m_nI; split
  · exact Or.inr rfl
  · exact Or.inl rfl
theorem m_nO_lt {ρ : Nat → Int} {s b its : Nat} (hb : b < 6) (h : its < 64) : m_nO ρ s b its < 64 := by
  unfold m_nO; split
  · exact Nat.or_lt_two_pow (n := 6) h (Nat.pow_lt_pow_right (by decide) hb)
  · exact h
theorem m_needed_c {d : Nat} {G : am_G} {I : Nat → Nat → Int} {P : Nat → Nat → Option Nat} (hS : ST G P) {s : Nat} (h8 : I 210 8 = (s : Int)) (hs : s < 64) : am_call am_B am_M (d + 3) 271 [(.inr (.inr (some 208)))] (G, I, P) = some (some (.inl ((m_needed ((am_u2 I 208 0 0) 210) s : Nat) : Int)), (G, (am_u2 I 208 0 0), P)) := by
  refine am_doL (L := [some (.inr (.inr (some 208))), none, none, none, none, none]) (Nat.le_of_ble_eq_true rfl) rfl ?_
  refine (ex_6_0 (ex_0 (ix_42i (sh_208 hS) (ex_0 (ex_7_1 rfl (ex_0 (ex_7_2 rfl (ex_58 ?_))))))))
  refine ex_forH (b := 1) (σ := Nat) (6) (fun b its => m_nO ((am_u2 I 208 0 0) 210) s b its) (fun b its => its < 64) (fun b its e_b => [some (.inr (.inr (some 208))), some (.inl (its : Int)), some (.inl (b : Int)), (e_b 3), (e_b 4), (e_b 5)]) (fun b its => (G, (am_u2 I 208 0 0), P)) ?_ ?_ (6) (0) (0) (fun k => ([some (.inr (.inr (some 208))), some (.inl 0), some (.inl 0), none, none, none] : am_L).getD k none) (by omega) (by decide) rfl (rfl) ?_
  · intro b its hib hvb
    exact m_nO_lt hib hvb
  · intro b its e_b hib hvb its' hsb hkb
    have hvb : its < 64 := hvb
    refine (ex_4_2 (ex_0 ?_))
    refine ex_ic3 (fun hc12 => by exfalso; omega) (fun hc12 => ?_)
    refine (ex_0 (ex_7_3 rfl (ex_0 (ex_7_4 rfl (ex_58 ?_)))))
    refine ex_forH (b := 3) (σ := Int) (6) (fun o so => m_nI ((am_u2 I 208 0 0) 210) s b o so) (fun o so => so = 0 ∨ so = 1) (fun o so e_o => [some (.inr (.inr (some 208))), some (.inl (its : Int)), some (.inl (b : Int)), some (.inl so), some (.inl (o : Int)), (e_o 5)]) (fun o so => (G, (am_u2 I 208 0 0), P)) ?_ ?_ (6) (0) (0) (fun k => ([some (.inr (.inr (some 208))), some (.inl (its : Int)), some (.inl (b : Int)), some (.inl 0), some (.inl 0), (e_b 5)] : am_L).getD k none) (by omega) (Or.inl rfl) rfl (rfl) ?_
    · intro o so hio hvo
      exact m_nI_01
    · intro o so e_o hio hvo so' hso hko
      have hvo : so = 0 ∨ so = 1 := hvo
      have hso1 : ¬ so = 0 → so = 1 := by omega
      refine (ex_4_4 (ex_0 ?_))
      refine ex_ic3 (fun hc24 => by exfalso; omega) (fun hc24 => ?_)
      refine (ex_6_0 (ex_4_4 (ex_6_0 (ix_46 (S' := [(.inl (((wh s) : Nat) : Int)), (.inl (o : Int)), (.inr (.inr (some 208)))]) rfl (sh_208 hS) (c_whole_e hS ((u2_q (by decide)).trans h8) (by omega)) rfl rfl (ix_46 (S' := [(.inl ((m_comes ((am_u2 I 208 0 0) 210) o (wh s) : Nat) : Int))]) rfl (sh_208 hS) (c_comesTo hS (from_ := o) (over := (wh s)) (by omega) wh_lt) rfl rfl (ex_0 (ex_4_2 (ex_11e (am_shl1 (k := b) (by omega)) (ex_0 (ex_11e (am_not (a := (2 ^ b)) (Nat.pow_lt_pow_right (by decide) (by omega))) (ex_11e (am_andn (a := (m_comes ((am_u2 I 208 0 0) 210) o (wh s))) (b := (2 ^ b)) (Nat.lt_trans (m_comes_lt (by omega)) (by decide)) (Nat.pow_lt_pow_right (by decide) (by omega))) (ex_7_5 rfl (ex_4_3 ?_)))))))))))))
      refine ex_if1 (fun hc46 => ?_) (fun hc46 => ?_)
      · refine (ex_0 (ex_28 (ex_7_3 rfl (ex_10_4 ⟨by omega, by omega⟩ rfl (ex_28 ?_)))))
        rw [hso.trans (if_pos (by first | exact Or.inl (hso1 hc46) | exact Or.inr ⟨by omega, hb61, by omega⟩))] at hko
        exact hko (fun k => ([some (.inr (.inr (some 208))), some (.inl (its : Int)), some (.inl (b : Int)), some (.inl 1), some (.inl ((o : Int) + 1)), some (.inl ((((m_comes ((am_u2 I 208 0 0) 210) o (wh s)) &&& ((m_comes ((am_u2 I 208 0 0) 210) o (wh s)) ^^^ (2 ^ b))) : Nat) : Int))] : am_L).getD k none)
      · refine (ex_4_4 (ex_4_2 ?_))
        refine ex_ic0 (fun hc52 => ?_) (fun hc52 => ?_)
        · refine (ex_0 (ex_58 (ex_7_3 rfl (ex_10_4 ⟨by omega, by omega⟩ rfl (ex_28 ?_)))))
          rw [hso.trans (if_neg (by rintro (z | ⟨z1, z2, z3⟩); (· omega); first | omega | exact hb61 z2))] at hko
          exact hko (fun k => ([some (.inr (.inr (some 208))), some (.inl (its : Int)), some (.inl (b : Int)), some (.inl 0), some (.inl ((o : Int) + 1)), some (.inl ((((m_comes ((am_u2 I 208 0 0) 210) o (wh s)) &&& ((m_comes ((am_u2 I 208 0 0) 210) o (wh s)) ^^^ (2 ^ b))) : Nat) : Int))] : am_L).getD k none)
        · refine (ex_6_0 (ix_46 (S' := [(.inl (((wh s) : Nat) : Int))]) rfl (sh_208 hS) (c_whole_e hS ((u2_q (by decide)).trans h8) (by omega)) rfl rfl (ex_4_4 ?_)))
          by_cases hb61 : (Nat.testBit (wh s) o = true)
          · refine (ix_45 (S' := [(.inl 1)]) rfl (c_is_t (Nat.lt_trans wh_lt (by decide)) (by omega) hb61) rfl rfl (ex_if0 (fun hc => by exfalso; revert hc; decide) (fun _ => ?_)))
            refine (ex_6_0 (ex_4_4 (ex_6_0 (ix_46 (S' := [(.inl (((wh s) : Nat) : Int)), (.inl (o : Int)), (.inr (.inr (some 208)))]) rfl (sh_208 hS) (c_whole_e hS ((u2_q (by decide)).trans h8) (by omega)) rfl rfl (ex_0 (ex_4_2 (ex_11e (am_shl1 (k := b) (by omega)) (ex_0 (ex_11e (am_not (a := (2 ^ b)) (Nat.pow_lt_pow_right (by decide) (by omega))) (ex_11e (am_andn (a := (wh s)) (b := (2 ^ b)) (Nat.lt_trans wh_lt (by decide)) (Nat.pow_lt_pow_right (by decide) (by omega))) (ix_46 (S' := [(.inl ((m_comes ((am_u2 I 208 0 0) 210) o ((wh s) &&& ((wh s) ^^^ (2 ^ b))) : Nat) : Int))]) rfl (sh_208 hS) (c_comesTo hS (from_ := o) (over := ((wh s) &&& ((wh s) ^^^ (2 ^ b)))) (by omega) (Nat.lt_of_le_of_lt Nat.and_le_left wh_lt)) rfl rfl (ex_4_5 ?_))))))))))))
            refine ex_ic0 (fun hc85 => ?_) (fun hc85 => ?_)
            · refine (ex_0 (ex_58 (ex_7_3 rfl (ex_10_4 ⟨by omega, by omega⟩ rfl (ex_28 ?_)))))
              rw [hso.trans (if_neg (by rintro (z | ⟨z1, z2, z3⟩); (· omega); first | omega | exact hb61 z2))] at hko
              exact hko (fun k => ([some (.inr (.inr (some 208))), some (.inl (its : Int)), some (.inl (b : Int)), some (.inl 0), some (.inl ((o : Int) + 1)), some (.inl ((((m_comes ((am_u2 I 208 0 0) 210) o (wh s)) &&& ((m_comes ((am_u2 I 208 0 0) 210) o (wh s)) ^^^ (2 ^ b))) : Nat) : Int))] : am_L).getD k none)
            · refine (ex_0 (ex_28 (ex_7_3 rfl (ex_10_4 ⟨by omega, by omega⟩ rfl (ex_28 ?_)))))
              rw [hso.trans (if_pos (by first | exact Or.inl (hso1 hc46) | exact Or.inr ⟨by omega, hb61, by omega⟩))] at hko
              exact hko (fun k => ([some (.inr (.inr (some 208))), some (.inl (its : Int)), some (.inl (b : Int)), some (.inl 1), some (.inl ((o : Int) + 1)), some (.inl ((((m_comes ((am_u2 I 208 0 0) 210) o (wh s)) &&& ((m_comes ((am_u2 I 208 0 0) 210) o (wh s)) ^^^ (2 ^ b))) : Nat) : Int))] : am_L).getD k none)
          · refine (ix_45 (S' := [(.inl 0)]) rfl (c_is_f (Nat.lt_trans wh_lt (by decide)) (by omega) hb61) rfl rfl (ex_if0 (fun _ => ?_) (fun hc => by exfalso; revert hc; decide)))
            refine (ex_0 (ex_58 (ex_7_3 rfl (ex_10_4 ⟨by omega, by omega⟩ rfl (ex_28 ?_)))))
            rw [hso.trans (if_neg (by rintro (z | ⟨z1, z2, z3⟩); (· omega); first | omega | exact hb61 z2))] at hko
            exact hko (fun k => ([some (.inr (.inr (some 208))), some (.inl (its : Int)), some (.inl (b : Int)), some (.inl 0), some (.inl ((o : Int) + 1)), some (.inl ((((m_comes ((am_u2 I 208 0 0) 210) o (wh s)) &&& ((m_comes ((am_u2 I 208 0 0) 210) o (wh s)) ^^^ (2 ^ b))) : Nat) : Int))] : am_L).getD k none)
    · intro so e_o hso hvo
      have hvo : so = 0 ∨ so = 1 := hvo
      refine (ex_4_4 (ex_0 ?_))
      refine ex_ic3 (fun hc24 => ?_) (fun hc24 => by exfalso; omega)
      refine (ex_4_1 (ex_4_3 ?_))
      refine ex_if0 (fun hc102 => ?_) (fun hc102 => ?_)
      · refine (ex_0 (ex_58 (ex_11e (am_or (a := its) (b := 0) (by omega) (by decide)) (ex_7_1 rfl (ex_10_2 ⟨by omega, by omega⟩ rfl (ex_28 ?_))))))
        have es : am_it (fun o so => m_nI ((am_u2 I 208 0 0) 210) s b o so) 6 0 0 = so := hso.symm
        rw [Nat.or_zero]
        rw [hsb.trans (if_neg (by rw [es]; rintro ⟨z1, z2⟩; first | omega | exact hb110 z2))] at hkb
        exact hkb (fun k => ([some (.inr (.inr (some 208))), some (.inl (((its ||| 0) : Nat) : Int)), some (.inl ((b : Int) + 1)), some (.inl so), some (.inl (6 : Int)), (e_o 5)] : am_L).getD k none)
      · refine (ex_6_0 (ix_46 (S' := [(.inl (((wh s) : Nat) : Int)), (.inl (its : Int))]) rfl (sh_208 hS) (c_whole_e hS ((u2_q (by decide)).trans h8) (by omega)) rfl rfl (ex_4_2 ?_)))
        by_cases hb110 : (Nat.testBit (wh s) b = true)
        · refine (ix_45 (S' := [(.inl 1), (.inl (its : Int))]) rfl (c_is_t (Nat.lt_trans wh_lt (by decide)) (by omega) hb110) rfl rfl (ex_if0 (fun hc => by exfalso; revert hc; decide) (fun _ => ?_)))
          refine (ex_0 (ex_4_2 (ex_11e (am_shl1 (k := b) (by omega)) (ex_28 (ex_11e (am_or (a := its) (b := (2 ^ b)) (by omega) (Nat.pow_lt_pow_right (by decide) (by omega))) (ex_7_1 rfl (ex_10_2 ⟨by omega, by omega⟩ rfl (ex_28 ?_))))))))
          have es : am_it (fun o so => m_nI ((am_u2 I 208 0 0) 210) s b o so) 6 0 0 = so := hso.symm
          rw [hsb.trans (if_pos (by rw [es]; exact ⟨by omega, hb110⟩))] at hkb
          exact hkb (fun k => ([some (.inr (.inr (some 208))), some (.inl (((its ||| (2 ^ b)) : Nat) : Int)), some (.inl ((b : Int) + 1)), some (.inl so), some (.inl (6 : Int)), (e_o 5)] : am_L).getD k none)
        · refine (ix_45 (S' := [(.inl 0), (.inl (its : Int))]) rfl (c_is_f (Nat.lt_trans wh_lt (by decide)) (by omega) hb110) rfl rfl (ex_if0 (fun _ => ?_) (fun hc => by exfalso; revert hc; decide)))
          refine (ex_0 (ex_58 (ex_11e (am_or (a := its) (b := 0) (by omega) (by decide)) (ex_7_1 rfl (ex_10_2 ⟨by omega, by omega⟩ rfl (ex_28 ?_))))))
          have es : am_it (fun o so => m_nI ((am_u2 I 208 0 0) 210) s b o so) 6 0 0 = so := hso.symm
          rw [Nat.or_zero]
          rw [hsb.trans (if_neg (by rw [es]; rintro ⟨z1, z2⟩; first | omega | exact hb110 z2))] at hkb
          exact hkb (fun k => ([some (.inr (.inr (some 208))), some (.inl (((its ||| 0) : Nat) : Int)), some (.inl ((b : Int) + 1)), some (.inl so), some (.inl (6 : Int)), (e_o 5)] : am_L).getD k none)
  · intro its e_b hsb hvb
    refine (ex_4_2 (ex_0 ?_))
    refine ex_ic3 (fun hc12 => ?_) (fun hc12 => by exfalso; omega)
    refine (ex_4_1 ?_)
    exact ex_53 (by rw [hsb]; rfl)
theorem am_d8p {a b : Int} (ha : 0 ≤ a) (hb : 0 < b) (ha2 : a ≤ 9223372036854775807) (hb2 : b ≤ 9223372036854775807) : (Int64.ofInt a / Int64.ofInt b).toInt = a / b := by
  have ea : (Int64.ofInt a).toInt = a := Int64.toInt_ofInt_of_le (by omega) (by omega)
  have eb : (Int64.ofInt b).toInt = b := Int64.toInt_ofInt_of_le (by omega) (by omega)
  rw [Int64.toInt_div_of_ne_right, ea, eb, Int.tdiv_eq_ediv_of_nonneg ha]
  intro h
  rw [h] at eb
  have : (-1 : Int64).toInt = -1 := by decide
  omega
theorem am_d8q {a b : Int} (ha : 0 ≤ a) (hb : 0 < b) (ha2 : a ≤ 9223372036854775807) (hb2 : b ≤ 9223372036854775807) : am_d8 0 a b = a / b := am_d8p ha hb ha2 hb2
theorem am_d8r {a b : Int} (ha : 0 ≤ a) (hb : 0 < b) (ha2 : a ≤ 9223372036854775807) (hb2 : b ≤ 9223372036854775807) : am_d8 1 a b = a % b := by
  have e : am_d8 1 a b = (Int64.ofInt a - Int64.ofInt a / Int64.ofInt b * Int64.ofInt b).toInt := rfl
  have ha' : 0 ≤ a / b := Int.ediv_nonneg ha (by omega)
  have hm := Int.mul_ediv_add_emod a b
  have hm0 := Int.emod_nonneg a (by omega : b ≠ 0)
  have hm2 := Int.emod_lt_of_pos a hb
  have hm1 : b * (a / b) = a / b * b := Int.mul_comm _ _
  have hq : Int64.ofInt a / Int64.ofInt b = Int64.ofInt (a / b) := by
    rw [← am_d8p ha hb ha2 hb2, Int64.ofInt_toInt]
  rw [e, hq, ← Int64.ofInt_mul, ← Int64.ofInt_sub, Int64.toInt_ofInt_of_le (by omega) (by omega)]
  omega
theorem c_draw {d : Nat} {G : am_G} {I : Nat → Nat → Int} {P : Nat → Nat → Option Nat} (hS : ST G P) {n st : Int} (h0 : I 208 55 = st) (h1 : 0 ≤ st ∧ st ≤ 1000003) (hn : 0 < n ∧ n ≤ 100) : am_call am_B am_M (d + 1) 282 [(.inr (.inr (some 208))), (.inl n)] (G, I, P) = some (some (.inl ((st * 1103 + 12345) % 1000003 % n)), (G, am_u2 I 208 55 ((st * 1103 + 12345) % 1000003), P)) := by
  refine am_doL (L := [some (.inr (.inr (some 208))), some (.inl n)]) (Nat.le_of_ble_eq_true rfl) rfl ?_
  refine (ex_6_0 (ex_6_0 (ix_41l (sh_208 hS) h0 (ex_1 (ex_lmul ⟨by omega, by omega⟩ (ex_1 (ex_ladd ⟨by omega, by omega⟩ (ex_1 (ex_16 (by decide) (am_d8r (by omega) (by decide) (by omega) (by decide)) (ix_42l (sh_208 hS) (ex_6_0 (ix_41l (sh_208 hS) u2_e (ex_4_1 (ex_19 (ex_16 (by omega) (am_d8r (by omega) (by omega) (by omega) (by omega)) (ex_20 (by have h5 := Int.emod_lt_of_pos ((st * 1103 + 12345) % 1000003) hn.1; have h6 := Int.emod_nonneg ((st * 1103 + 12345) % 1000003) (by omega : n ≠ 0); exact ⟨by omega, by omega⟩) ?_))))))))))))))))
  exact ex_53 rfl
theorem c_adds_n {d : Nat} {G : am_G} {I : Nat → Nat → Int} {P : Nat → Nat → Option Nat} (hS : ST G P) {c t : Nat} (hc : c < 6) (ht : t < 32) : am_call am_B am_M (d + 2) 253 [(.inr (.inr (some 208))), (.inl (c : Int)), (.inl 5), (.inl (t : Int))] (G, I, P) = some (some (.inl 0), (G, I, P)) := by
  refine am_doL (L := [some (.inr (.inr (some 208))), some (.inl (c : Int)), some (.inl 5), some (.inl (t : Int))]) (Nat.le_of_ble_eq_true rfl) rfl ?_
  refine (ex_4_2 (ex_0 (ex_ic1 (fun hc => by exfalso; revert hc; decide) (fun _ => ?_))))
  refine (ex_0 (ex_28 ?_))
  exact ex_53 rfl
theorem c_adds_t {d : Nat} {G : am_G} {I : Nat → Nat → Int} {P : Nat → Nat → Option Nat} (hS : ST G P) {c f t : Nat} (hc : c < 6) (hf : f < 5) (ht : t < 32) (hb : t.testBit f = true) : am_call am_B am_M (d + 2) 253 [(.inr (.inr (some 208))), (.inl (c : Int)), (.inl (f : Int)), (.inl (t : Int))] (G, I, P) = some (some (.inl (-1)), (G, I, P)) := by
  refine am_doL (L := [some (.inr (.inr (some 208))), some (.inl (c : Int)), some (.inl (f : Int)), some (.inl (t : Int))]) (Nat.le_of_ble_eq_true rfl) rfl ?_
  refine (ex_4_2 (ex_0 ?_))
  refine ex_ic1 (fun hc2 => ?_) (fun hc2 => by exfalso; omega)
  refine (ex_4_3 (ex_4_2 ?_))
  have hb11 : (Nat.testBit t f = true) := by exact hb
  refine (ix_45 (S' := [(.inl 1)]) rfl (c_is_t (by omega) (by omega) hb11) rfl rfl (ex_if0 (fun hc => by exfalso; revert hc; decide) (fun _ => ?_)))
  refine (ex_0 (ex_28 ?_))
  exact ex_53 rfl
theorem c_adds_f {d : Nat} {G : am_G} {I : Nat → Nat → Int} {P : Nat → Nat → Option Nat} (hS : ST G P) {c f t : Nat} (hc : c < 6) (hf : f < 5) (ht : t < 32) (hb : ¬ t.testBit f = true) : am_call am_B am_M (d + 2) 253 [(.inr (.inr (some 208))), (.inl (c : Int)), (.inl (f : Int)), (.inl (t : Int))] (G, I, P) = some (some (.inl (I 232 (6 * c + f))), (G, I, P)) := by
  refine am_doL (L := [some (.inr (.inr (some 208))), some (.inl (c : Int)), some (.inl (f : Int)), some (.inl (t : Int))]) (Nat.le_of_ble_eq_true rfl) rfl ?_
  refine (ex_4_2 (ex_0 ?_))
  refine ex_ic1 (fun hc2 => ?_) (fun hc2 => by exfalso; omega)
  refine (ex_4_3 (ex_4_2 ?_))
  have hb11 : ¬ ((Nat.testBit t f = true)) := by exact hb
  refine (ix_45 (S' := [(.inl 0)]) rfl (c_is_f (by omega) (by omega) hb11) rfl rfl (ex_if0 (fun _ => ?_) (fun hc => by exfalso; revert hc; decide)))
  refine (ex_6_0 (ix_41r (sh_208 hS) (pt_208_44 hS) (ex_0 (ex_4_1 (ex_mul ⟨by omega, by omega⟩ (ex_4_2 (ex_add ⟨by omega, by omega⟩ (ix_30 (j := ((6 * c) + f)) (sh_232 hS) (by omega) (by omega) (by omega) rfl (ex_58 ?_)))))))))
  exact ex_53 rfl
theorem c_behindOf_n {d : Nat} {G : am_G} {I : Nat → Nat → Int} {P : Nat → Nat → Option Nat} (hS : ST G P) {c t : Nat} (hc : c < 6) (ht : t < 32) : am_call am_B am_M (d + 1) 255 [(.inr (.inr (some 208))), (.inl (c : Int)), (.inl 5), (.inl (t : Int))] (G, I, P) = some (some (.inl (I 231 (32 * (c + 1) + t))), (G, I, P)) := by
  refine am_doL (L := [some (.inr (.inr (some 208))), some (.inl (c : Int)), some (.inl 5), some (.inl (t : Int))]) (Nat.le_of_ble_eq_true rfl) rfl ?_
  refine (ex_6_0 (ix_41r (sh_208 hS) (pt_208_43 hS) (ex_0 (ex_4_1 (ex_0 (ex_add ⟨by omega, by omega⟩ (ex_mul ⟨by omega, by omega⟩ (ex_4_2 (ex_0 (ex_ic1 (fun hc => by exfalso; revert hc; decide) (fun _ => ?_)))))))))))
  refine (ex_4_3 (ex_28 (ex_add ⟨by omega, by omega⟩ (ix_30 (j := ((32 * (c + 1)) + t)) (sh_231 hS) (by omega) (by omega) (by omega) rfl ?_))))
  exact ex_53 rfl
theorem c_behindOf_f {d : Nat} {G : am_G} {I : Nat → Nat → Int} {P : Nat → Nat → Option Nat} (hS : ST G P) {c f t : Nat} (hc : c < 6) (hf : f < 5) (ht : t < 32) : am_call am_B am_M (d + 1) 255 [(.inr (.inr (some 208))), (.inl (c : Int)), (.inl (f : Int)), (.inl (t : Int))] (G, I, P) = some (some (.inl (I 231 (32 * (c + 1) + (t ||| 2 ^ f)))), (G, I, P)) := by
  have hor : t ||| 2 ^ f < 32 := Nat.or_lt_two_pow (n := 5) ht (Nat.pow_lt_pow_right (by decide) hf)
  refine am_doL (L := [some (.inr (.inr (some 208))), some (.inl (c : Int)), some (.inl (f : Int)), some (.inl (t : Int))]) (Nat.le_of_ble_eq_true rfl) rfl ?_
  refine (ex_6_0 (ix_41r (sh_208 hS) (pt_208_43 hS) (ex_0 (ex_4_1 (ex_0 (ex_add ⟨by omega, by omega⟩ (ex_mul ⟨by omega, by omega⟩ (ex_4_2 (ex_0 ?_)))))))))
  refine ex_ic1 (fun hc12 => ?_) (fun hc12 => by exfalso; omega)
  refine (ex_4_3 (ex_0 (ex_4_2 (ex_11e (am_shl1 (k := f) (by omega)) (ex_11e (am_or (a := t) (b := (2 ^ f)) (by omega) (Nat.pow_lt_pow_right (by decide) (by omega))) (ex_58 (ex_add ⟨by omega, by omega⟩ (ix_30 (j := ((32 * (c + 1)) + (t ||| (2 ^ f)))) (sh_231 hS) (by omega) (by omega) (by omega) rfl ?_))))))))
  exact ex_53 rfl
def m_cin (ρ : Nat → Int) (n : Nat) (b : Int) (i : Nat) (z : Int) : Int := if ρ (9 + (n - 1 - i)) = b then (n : Int) - 1 - (i : Int) else z
def m_cloudIn (ρ : Nat → Int) (n : Nat) (b : Int) : Int := am_it (fun i z => m_cin ρ n b i z) n 0 (-1)
theorem c_cloudIn {d : Nat} {G : am_G} {I : Nat → Nat → Int} {P : Nat → Nat → Option Nat} (hS : ST G P) {n : Nat} {b : Int} (h0 : I 210 0 = (n : Int)) (hn : n ≤ 6) : am_call am_B am_M (d + 1) 248 [(.inr (.inr (some 208))), (.inl b)] (G, I, P) = some (some (.inl (m_cloudIn (I 210) n b)), (G, I, P)) := by
  refine am_doL (L := [some (.inr (.inr (some 208))), some (.inl b), none, none]) (Nat.le_of_ble_eq_true rfl) rfl ?_
  refine (ex_0 (ex_7_2 rfl (ex_6_0 (ix_41r (sh_208 hS) (pt_208_3 hS) (ex_0 (ix_30 (j := 0) (sh_210 hS) (by decide) (by decide) rfl h0 (ex_0 (ex_11e (v := ((n : Int) - 1 - ((0 : Nat) : Int))) ((am_sub ⟨by omega, by omega⟩).trans (by omega)) (ex_7_3 rfl (ex_58 ?_))))))))))
  refine ex_forH (b := 1) (σ := Int) (n) (fun i z => m_cin (I 210) n b i z) (fun i z => True) (fun i z e_i => [some (.inr (.inr (some 208))), some (.inl b), some (.inl z), some (.inl ((n : Int) - 1 - (i : Int)))]) (fun i z => (G, I, P)) ?_ ?_ (n) (0) (-1) (fun k => ([some (.inr (.inr (some 208))), some (.inl b), some (.inl (-1)), some (.inl ((n : Int) - 1 - ((0 : Nat) : Int)))] : am_L).getD k none) (by omega) (trivial) rfl (rfl) ?_
  · intro i z hii hvi
    exact trivial
  · intro i z e_i hii hvi z' hsi hki
    refine (ex_4_3 ?_)
    refine ex_if2 (fun hc12 => by exfalso; omega) (fun hc12 => ?_)
    refine (ex_6_0 (ix_41r (sh_208 hS) (pt_208_3 hS) (ex_0 (ex_4_3 (ex_add ⟨by omega, by omega⟩ (ix_30 (j := (9 + (n - 1 - i))) (sh_210 hS) (by omega) (by omega) (by omega) rfl (ex_4_1 ?_)))))))
    refine ex_ic1 (fun hc25 => ?_) (fun hc25 => ?_)
    · refine (ex_4_2 (ex_58 (ex_7_2 rfl (ex_10_3 ⟨by omega, by omega⟩ rfl ?_))))
      rw [show (((n : Int) - 1 - (i : Int)) + (-1)) = ((n : Int) - 1 - ((i + 1 : Nat) : Int)) from by omega]
      refine (ex_28 ?_)
      rw [hsi.trans (if_neg hc25)] at hki
      exact hki (fun k => ([some (.inr (.inr (some 208))), some (.inl b), some (.inl z), some (.inl ((n : Int) - 1 - ((i + 1 : Nat) : Int)))] : am_L).getD k none)
    · refine (ex_4_3 (ex_28 (ex_7_2 rfl (ex_10_3 ⟨by omega, by omega⟩ rfl ?_))))
      rw [show (((n : Int) - 1 - (i : Int)) + (-1)) = ((n : Int) - 1 - ((i + 1 : Nat) : Int)) from by omega]
      refine (ex_28 ?_)
      rw [hsi.trans (if_pos (by omega))] at hki
      exact hki (fun k => ([some (.inr (.inr (some 208))), some (.inl b), some (.inl ((n : Int) - 1 - (i : Int))), some (.inl ((n : Int) - 1 - ((i + 1 : Nat) : Int)))] : am_L).getD k none)
  · intro z e_i hsi hvi
    refine (ex_4_3 ?_)
    refine ex_if2 (fun hc12 => ?_) (fun hc12 => by exfalso; omega)
    refine (ex_4_2 ?_)
    exact ex_53 (by rw [hsi]; rfl)
def m_cost (ρ : Nat → Int) (l : Nat → Int) (b o : Nat) : Int := if ρ (52 + 6 * b + o) = 0 ∨ l o = 100000000 then 100000000 else ρ (52 + 6 * b + o) + l o
def m_l1 (ρ : Nat → Int) (b o : Nat) (l : Nat → Int) : Nat → Int := am_u1 l b (if m_cost ρ l b o < l b then m_cost ρ l b o else l b)
def m_l0 (to_ : Nat) (b : Nat) (l : Nat → Int) : Nat → Int := am_u1 l b (if b = to_ then 0 else 100000000)
def m_lr (ρ : Nat → Int) (l : Nat → Int) : Nat → Int := am_it (fun b l => am_it (fun o l => m_l1 ρ b o l) 6 0 l) 6 0 l
def m_left (ρ : Nat → Int) (to_ : Nat) (l : Nat → Int) : Nat → Int := am_it (fun _ l => m_lr ρ l) 6 0 (am_it (fun b l => m_l0 to_ b l) 6 0 l)
theorem u2_u1 {I : Nat → Nat → Int} {l : Nat → Int} {q k : Nat} {v : Int} : am_u2 (am_u1 I q l) q k v = am_u1 I q (am_u1 l k v) := by
  funext q' j
  by_cases h : q' = q
  · subst h; rw [u2_at, u1_e, u1_e]; rfl
  · rw [u2_q h, u1_q h, u1_q h]
theorem u1_self {I : Nat → Nat → Int} {q : Nat} : am_u1 I q (I q) = I := by
  funext q'
  unfold am_u1
  split
  · rename_i h; rw [h]
  · rfl
def m_lw (l : Nat → Int) : Prop := ∀ b, b < 6 → 0 ≤ l b ∧ l b ≤ 100000000
theorem c_costTo_f {d : Nat} {G : am_G} {I : Nat → Nat → Int} {P : Nat → Nat → Option Nat} (hS : ST G P) {b o : Nat} (hb : b < 6) (ho : o < 6) (hc : I 210 (52 + 6 * b + o) = 0 ∨ I 234 o = 100000000) : am_call am_B am_M (d + 2) 264 [(.inr (.inr (some 208))), (.inl (b : Int)), (.inl (o : Int))] (G, I, P) = some (some (.inl 100000000), (G, I, P)) := by
  refine am_doL (L := [some (.inr (.inr (some 208))), some (.inl (b : Int)), some (.inl (o : Int))]) (Nat.le_of_ble_eq_true rfl) rfl ?_
  refine (ex_6_0 (ex_4_1 (ex_4_2 (ix_46 (S' := [(.inl (I 210 (52 + 6 * b + o)))]) rfl (sh_208 hS) (c_roadOf hS (b := b) (o := o) (by omega) (by omega)) rfl rfl ?_))))
  refine ex_if0 (fun hc6 => ?_) (fun hc6 => ?_)
  · refine (ex_0 (ex_28 ?_))
    exact ex_53 rfl
  · refine (ex_6_0 (ix_41r (sh_208 hS) (pt_208_46 hS) (ex_4_2 (ix_30 (j := o) (sh_234 hS) (by omega) (by omega) (by omega) rfl (ex_0 ?_)))))
    refine ex_ic1 (fun hc18 => by exfalso; omega) (fun hc18 => ?_)
    refine (ex_0 (ex_28 ?_))
    exact ex_53 rfl
theorem c_costTo_s {d : Nat} {G : am_G} {I : Nat → Nat → Int} {P : Nat → Nat → Option Nat} (hS : ST G P) {b o : Nat} (hb : b < 6) (ho : o < 6) (hc : ¬ (I 210 (52 + 6 * b + o) = 0 ∨ I 234 o = 100000000)) (h1 : 0 ≤ I 210 (52 + 6 * b + o) ∧ I 210 (52 + 6 * b + o) ≤ 9) (h2 : 0 ≤ I 234 o ∧ I 234 o ≤ 100000000) : am_call am_B am_M (d + 2) 264 [(.inr (.inr (some 208))), (.inl (b : Int)), (.inl (o : Int))] (G, I, P) = some (some (.inl (I 210 (52 + 6 * b + o) + I 234 o)), (G, I, P)) := by
  refine am_doL (L := [some (.inr (.inr (some 208))), some (.inl (b : Int)), some (.inl (o : Int))]) (Nat.le_of_ble_eq_true rfl) rfl ?_
  refine (ex_6_0 (ex_4_1 (ex_4_2 (ix_46 (S' := [(.inl (I 210 (52 + 6 * b + o)))]) rfl (sh_208 hS) (c_roadOf hS (b := b) (o := o) (by omega) (by omega)) rfl rfl ?_))))
  refine ex_if0 (fun hc6 => by exfalso; omega) (fun hc6 => ?_)
  refine (ex_6_0 (ix_41r (sh_208 hS) (pt_208_46 hS) (ex_4_2 (ix_30 (j := o) (sh_234 hS) (by omega) (by omega) (by omega) rfl (ex_0 ?_)))))
  refine ex_ic1 (fun hc18 => ?_) (fun hc18 => by exfalso; omega)
  refine (ex_6_0 (ex_4_1 (ex_4_2 (ix_46 (S' := [(.inl (I 210 (52 + 6 * b + o)))]) rfl (sh_208 hS) (c_roadOf hS (b := b) (o := o) (by omega) (by omega)) rfl rfl (ex_6_0 (ix_41r (sh_208 hS) (pt_208_46 hS) (ex_4_2 (ix_30 (j := o) (sh_234 hS) (by omega) (by omega) (by omega) rfl (ex_add ⟨by omega, by omega⟩ (ex_58 ?_))))))))))
  exact ex_53 rfl
theorem c_costTo {d : Nat} {G : am_G} {I : Nat → Nat → Int} {P : Nat → Nat → Option Nat} (hS : ST G P) {ρ l : Nat → Int} {b o : Nat} (hb : b < 6) (ho : o < 6) (hρ : I 210 = ρ) (hl : I 234 = l) (h1 : ∀ j, j < 36 → 0 ≤ ρ (52 + j) ∧ ρ (52 + j) ≤ 9) (h2 : m_lw l) : am_call am_B am_M (d + 2) 264 [.inr (.inr (some 208)), .inl (b : Int), .inl (o : Int)] (G, I, P) = some (some (.inl (m_cost ρ l b o)), (G, I, P)) := by
  subst hρ; subst hl
  have h1 := h1 (6 * b + o) (by omega)
  rw [show 52 + (6 * b + o) = 52 + 6 * b + o by omega] at h1
  unfold m_cost
  by_cases hc : I 210 (52 + 6 * b + o) = 0 ∨ I 234 o = 100000000
  · rw [if_pos hc]; exact c_costTo_f hS hb ho hc
  · rw [if_neg hc]; exact c_costTo_s hS hb ho hc h1 (h2 o ho)
theorem m_cost_b {ρ l : Nat → Int} {b o : Nat} (hb : b < 6) (ho : o < 6) (h1 : ∀ j, j < 36 → 0 ≤ ρ (52 + j) ∧ ρ (52 + j) ≤ 9) (h2 : m_lw l) : 0 ≤ m_cost ρ l b o ∧ m_cost ρ l b o ≤ 100000009 := by
  have h1 := h1 (6 * b + o) (by omega)
  rw [show 52 + (6 * b + o) = 52 + 6 * b + o by omega] at h1
  have := h2 o ho
  unfold m_cost
  split <;> omega
theorem m_l1_w {ρ l : Nat → Int} {b o : Nat} (hb : b < 6) (ho : o < 6) (h1 : ∀ j, j < 36 → 0 ≤ ρ (52 + j) ∧ ρ (52 + j) ≤ 9) (h2 : m_lw l) : m_lw (m_l1 ρ b o l) := by
  intro k hk
  have h3 := m_cost_b hb ho h1 h2
  have h4 := h2 b hb
  have h5 := h2 k hk
  unfold m_l1 am_u1
  (repeat' split) <;> omega
theorem m_lb_w {ρ l : Nat → Int} {b : Nat} (hb : b < 6) (h1 : ∀ j, j < 36 → 0 ≤ ρ (52 + j) ∧ ρ (52 + j) ≤ 9) (h2 : m_lw l) : m_lw (am_it (fun o l => m_l1 ρ b o l) 6 0 l) := am_it_inv (inv := fun _ l => m_lw l) (N := 6) (fun _ _ hi h => m_l1_w hb hi h1 h) 6 0 l rfl h2
theorem m_lr_w {ρ l : Nat → Int} (h1 : ∀ j, j < 36 → 0 ≤ ρ (52 + j) ∧ ρ (52 + j) ≤ 9) (h2 : m_lw l) : m_lw (m_lr ρ l) := am_it_inv (inv := fun _ l => m_lw l) (N := 6) (fun _ _ hi h => m_lb_w hi h1 h) 6 0 l rfl h2
theorem c_layLeft {d : Nat} {G : am_G} {I : Nat → Nat → Int} {P : Nat → Nat → Option Nat} (hS : ST G P) {to_ : Nat} (ht : to_ < 6) (h1 : ∀ j, j < 36 → 0 ≤ I 210 (52 + j) ∧ I 210 (52 + j) ≤ 9) : am_call am_B am_M (d + 3) 265 [(.inr (.inr (some 208))), (.inl (to_ : Int))] (G, I, P) = some (none, (G, am_u1 I 234 (m_left (I 210) to_ (I 234)), P)) := by
  refine am_doL (L := [some (.inr (.inr (some 208))), some (.inl (to_ : Int)), none, none, none]) (Nat.le_of_ble_eq_true rfl) rfl ?_
  refine (ex_0 (ex_7_2 rfl (ex_58 ?_)))
  refine ex_forH (b := 1) (σ := Nat → Int) (6) (fun b l_0 => m_l0 to_ b l_0) (fun b l_0 => ∀ j, j < b → 0 ≤ l_0 j ∧ l_0 j ≤ 100000000) (fun b l_0 e_b => [some (.inr (.inr (some 208))), some (.inl (to_ : Int)), some (.inl (b : Int)), none, none]) (fun b l_0 => (G, (am_u1 I 234 l_0), P)) ?_ ?_ (6) (0) (I 234) (fun k => ([some (.inr (.inr (some 208))), some (.inl (to_ : Int)), some (.inl 0), none, none] : am_L).getD k none) (by omega) (fun j hj => absurd hj (by omega)) rfl (congrArg (fun J => (G, J, P)) u1_self.symm) ?_
  · intro b l_0 hib hvb
    intro j hj
    have hv := hvb j
    show 0 ≤ m_l0 to_ b l_0 j ∧ m_l0 to_ b l_0 j ≤ 100000000
    unfold m_l0 am_u1
    (repeat' split) <;> omega
  · intro b l_0 e_b hib hvb l_0' hsb hkb
    refine (ex_4_2 (ex_0 ?_))
    refine ex_ic3 (fun hc5 => by exfalso; omega) (fun hc5 => ?_)
    refine (ex_6_0 (ix_41r (sh_208 hS) (pt_208_46 hS) (ex_4_2 (ex_4_2 (ex_4_1 ?_)))))
    refine ex_ic1 (fun hc15 => ?_) (fun hc15 => ?_)
    · refine (ex_0 (ex_58 (ix_34 (j := b) (sh_234 hS) (by omega) (by omega) (by omega) (ex_10_2 ⟨by omega, by omega⟩ rfl (ex_28 ?_)))))
      rw [u2_u1]
      rw [hsb.trans (congrArg (am_u1 l_0 b) (if_neg (by omega)))] at hkb
      exact hkb (fun k => ([some (.inr (.inr (some 208))), some (.inl (to_ : Int)), some (.inl ((b : Int) + 1)), none, none] : am_L).getD k none)
    · refine (ex_0 (ex_28 (ix_34 (j := b) (sh_234 hS) (by omega) (by omega) (by omega) (ex_10_2 ⟨by omega, by omega⟩ rfl (ex_28 ?_)))))
      rw [u2_u1]
      rw [hsb.trans (congrArg (am_u1 l_0 b) (if_pos (by omega)))] at hkb
      exact hkb (fun k => ([some (.inr (.inr (some 208))), some (.inl (to_ : Int)), some (.inl ((b : Int) + 1)), none, none] : am_L).getD k none)
  · intro l_0 e_b hsb hvb
    refine (ex_4_2 (ex_0 ?_))
    refine ex_ic3 (fun hc5 => ?_) (fun hc5 => by exfalso; omega)
    refine (ex_0 (ex_7_2 rfl (ex_58 ?_)))
    refine ex_forH (b := 7) (σ := Nat → Int) (6) (fun r l_r => m_lr (I 210) l_r) (fun r l_r => m_lw l_r) (fun r l_r e_r => [some (.inr (.inr (some 208))), some (.inl (to_ : Int)), some (.inl (r : Int)), (e_r 3), (e_r 4)]) (fun r l_r => (G, (am_u1 I 234 l_r), P)) ?_ ?_ (6) (0) (l_0) (fun k => ([some (.inr (.inr (some 208))), some (.inl (to_ : Int)), some (.inl 0), none, none] : am_L).getD k none) (by omega) (fun j hj => hvb j hj) rfl (rfl) ?_
    · intro r l_r hir hvr
      exact m_lr_w h1 hvr
    · intro r l_r e_r hir hvr l_r' hsr hkr
      refine (ex_4_2 (ex_0 ?_))
      refine ex_ic3 (fun hc37 => by exfalso; omega) (fun hc37 => ?_)
      refine (ex_0 (ex_7_3 rfl (ex_58 ?_)))
      refine ex_forH (b := 9) (σ := Nat → Int) (6) (fun b l_b => am_it (fun o l => m_l1 (I 210) b o l) 6 0 l_b) (fun b l_b => m_lw l_b) (fun b l_b e_b => [some (.inr (.inr (some 208))), some (.inl (to_ : Int)), some (.inl (r : Int)), some (.inl (b : Int)), (e_b 4)]) (fun b l_b => (G, (am_u1 I 234 l_b), P)) ?_ ?_ (6) (0) (l_r) (fun k => ([some (.inr (.inr (some 208))), some (.inl (to_ : Int)), some (.inl (r : Int)), some (.inl 0), (e_r 4)] : am_L).getD k none) (by omega) (hvr) rfl (rfl) ?_
      · intro b l_b hib hvb
        exact m_lb_w hib h1 hvb
      · intro b l_b e_b hib hvb l_b' hsb hkb
        refine (ex_4_3 (ex_0 ?_))
        refine ex_ic3 (fun hc45 => by exfalso; omega) (fun hc45 => ?_)
        refine (ex_0 (ex_7_4 rfl (ex_58 ?_)))
        refine ex_forH (b := 11) (σ := Nat → Int) (6) (fun o l_o => m_l1 (I 210) b o l_o) (fun o l_o => m_lw l_o) (fun o l_o e_o => [some (.inr (.inr (some 208))), some (.inl (to_ : Int)), some (.inl (r : Int)), some (.inl (b : Int)), some (.inl (o : Int))]) (fun o l_o => (G, (am_u1 I 234 l_o), P)) ?_ ?_ (6) (0) (l_b) (fun k => ([some (.inr (.inr (some 208))), some (.inl (to_ : Int)), some (.inl (r : Int)), some (.inl (b : Int)), some (.inl 0)] : am_L).getD k none) (by omega) (hvb) rfl (rfl) ?_
        · intro o l_o hio hvo
          exact m_l1_w hib hio h1 hvo
        · intro o l_o e_o hio hvo l_o' hso hko
          have hvo : m_lw l_o := hvo
          refine (ex_4_4 (ex_0 ?_))
          refine ex_ic3 (fun hc55 => by exfalso; omega) (fun hc55 => ?_)
          refine (ex_6_0 (ix_41r (sh_208 hS) (pt_208_46 hS) (ex_4_3 (ex_6_0 (ex_4_3 (ex_4_4 (ix_46 (S' := [(.inl (m_cost (I 210) l_o b o)), (.inl (b : Int)), (.inr (.inr (some 234)))]) rfl (sh_208 hS) (c_costTo hS (b := b) (o := o) (by omega) (by omega) (u1_q (by decide)) u1_e h1 hvo) rfl rfl (ex_6_0 (ix_41r (sh_208 hS) (pt_208_46 hS) (ex_4_3 (ix_30 (j := b) (sh_234 hS) (by omega) (by omega) (by omega) (congrFun u1_e _) ?_)))))))))))
          refine ex_ic3 (fun hc76 => ?_) (fun hc76 => ?_)
          · refine (ex_6_0 (ix_41r (sh_208 hS) (pt_208_46 hS) (ex_4_3 (ix_30 (j := b) (sh_234 hS) (by omega) (by omega) (by omega) (congrFun u1_e _) (ex_58 (ix_34 (j := b) (sh_234 hS) (by omega) (by omega) (by omega) (ex_10_4 ⟨by omega, by omega⟩ rfl (ex_28 ?_))))))))
            rw [u2_u1]
            rw [hso.trans (congrArg (am_u1 l_o b) (if_neg (by omega)))] at hko
            exact hko (fun k => ([some (.inr (.inr (some 208))), some (.inl (to_ : Int)), some (.inl (r : Int)), some (.inl (b : Int)), some (.inl ((o : Int) + 1))] : am_L).getD k none)
          · refine (ex_6_0 (ex_4_3 (ex_4_4 (ix_46 (S' := [(.inl (m_cost (I 210) l_o b o)), (.inl (b : Int)), (.inr (.inr (some 234)))]) rfl (sh_208 hS) (c_costTo hS (b := b) (o := o) (by omega) (by omega) (u1_q (by decide)) u1_e h1 hvo) rfl rfl (ex_28 (ix_34 (j := b) (sh_234 hS) (by omega) (by omega) (by omega) (ex_10_4 ⟨by omega, by omega⟩ rfl (ex_28 ?_))))))))
            rw [u2_u1]
            rw [hso.trans (congrArg (am_u1 l_o b) (if_pos (by omega)))] at hko
            exact hko (fun k => ([some (.inr (.inr (some 208))), some (.inl (to_ : Int)), some (.inl (r : Int)), some (.inl (b : Int)), some (.inl ((o : Int) + 1))] : am_L).getD k none)
        · intro l_o e_o hso hvo
          refine (ex_4_4 (ex_0 ?_))
          refine ex_ic3 (fun hc55 => ?_) (fun hc55 => by exfalso; omega)
          refine (ex_10_3 ⟨by omega, by omega⟩ rfl (ex_28 ?_))
          rw [hsb.trans hso.symm] at hkb
          exact hkb (fun k => ([some (.inr (.inr (some 208))), some (.inl (to_ : Int)), some (.inl (r : Int)), some (.inl ((b : Int) + 1)), some (.inl (6 : Int))] : am_L).getD k none)
      · intro l_b e_b hsb hvb
        refine (ex_4_3 (ex_0 ?_))
        refine ex_ic3 (fun hc45 => ?_) (fun hc45 => by exfalso; omega)
        refine (ex_10_2 ⟨by omega, by omega⟩ rfl (ex_28 ?_))
        rw [hsr.trans hsb.symm] at hkr
        exact hkr (fun k => ([some (.inr (.inr (some 208))), some (.inl (to_ : Int)), some (.inl ((r : Int) + 1)), some (.inl (6 : Int)), (e_b 4)] : am_L).getD k none)
    · intro l_r e_r hsr hvr
      refine (ex_4_2 (ex_0 ?_))
      refine ex_ic3 (fun hc37 => ?_) (fun hc37 => by exfalso; omega)
      exact ex_56 (by rw [hsr, hsb]; rfl)
