/-! ===== the class: a circuit holds a row (CC); its small methods ===== -/
def nr (ρ : Nat → Int) (b : Nat) : Nat := am_it (fun o s => if 0 < ρ (52 + 6 * b + o) then s ||| 2 ^ o else s) 6 0 0
theorem or_bit_lt {s o : Nat} (hs : s < 64) (ho : o < 6) : s ||| 2 ^ o < 64 := Nat.or_lt_two_pow (n := 6) hs (Nat.pow_lt_pow_right (by decide) ho)
theorem nr_lt {ρ : Nat → Int} {b : Nat} : nr ρ b < 64 := am_it_inv (f := fun o s => if 0 < ρ (52 + 6 * b + o) then s ||| 2 ^ o else s) (inv := fun _ s => s < 64) (N := 6) (fun i s hi h => by
  show (if 0 < ρ (52 + 6 * b + i) then s ||| 2 ^ i else s) < 64
  split
  · exact or_bit_lt h hi
  · exact h) 6 0 0 rfl (by decide)
def CC (I : Nat → Nat → Int) (c : Nat) (ρ : Nat → Int) : Prop := (I c 4 = ρ 0) ∧ (I c 10 = ρ 1) ∧ (I c 13 = ρ 2) ∧ (I c 16 = ρ 3) ∧ (I c 17 = ρ 4) ∧ (I (c + 1) 3 = ρ 8) ∧ (∀ j, j < 6 → I (c + 5) j = ρ (30 + j)) ∧ (∀ j, j < 6 → I (c + 6) j = ρ (36 + j)) ∧ (∀ j, j < 6 → I (c + 7) j = ρ (9 + j)) ∧ (∀ j, j < 5 → I (c + 8) j = ρ (42 + j)) ∧ (∀ j, j < 5 → I (c + 9) j = ρ (47 + j)) ∧ (∀ j, j < 5 → I (c + 10) j = ρ (15 + j)) ∧ (∀ j, j < 5 → I (c + 11) j = ρ (20 + j)) ∧ (∀ j, j < 5 → I (c + 12) j = ρ (25 + j)) ∧ (∀ j, j < 3 → I (c + 15) j = ρ (5 + j)) ∧ (∀ j, j < 36 → I (c + 2) j = ρ (52 + j)) ∧ (∀ b, b < 6 → I (c + 3) b = ((nr ρ b : Nat) : Int)) ∧ (∀ k, k < 6 → I (c + 13) k = ρ (88 + 2 * k)) ∧ (∀ k, k < 6 → I (c + 14) k = ρ (88 + 2 * k + 1))
theorem CC_n0 {I : Nat → Nat → Int} {c : Nat} {ρ : Nat → Int} (h : CC I c ρ) : I c 4 = ρ 0 := h.1
theorem CC_n1 {I : Nat → Nat → Int} {c : Nat} {ρ : Nat → Int} (h : CC I c ρ) : I c 10 = ρ 1 := h.2.1
theorem CC_n2 {I : Nat → Nat → Int} {c : Nat} {ρ : Nat → Int} (h : CC I c ρ) : I c 13 = ρ 2 := h.2.2.1
theorem CC_n3 {I : Nat → Nat → Int} {c : Nat} {ρ : Nat → Int} (h : CC I c ρ) : I c 16 = ρ 3 := h.2.2.2.1
theorem CC_fo {I : Nat → Nat → Int} {c : Nat} {ρ : Nat → Int} (h : CC I c ρ) : I c 17 = ρ 4 := h.2.2.2.2.1
theorem CC_sm {I : Nat → Nat → Int} {c : Nat} {ρ : Nat → Int} (h : CC I c ρ) : I (c + 1) 3 = ρ 8 := h.2.2.2.2.2.1
theorem CC_ki {I : Nat → Nat → Int} {c : Nat} {ρ : Nat → Int} (h : CC I c ρ) : ∀ j, j < 6 → I (c + 5) j = ρ (30 + j) := h.2.2.2.2.2.2.1
theorem CC_ra {I : Nat → Nat → Int} {c : Nat} {ρ : Nat → Int} (h : CC I c ρ) : ∀ j, j < 6 → I (c + 6) j = ρ (36 + j) := h.2.2.2.2.2.2.2.1
theorem CC_at {I : Nat → Nat → Int} {c : Nat} {ρ : Nat → Int} (h : CC I c ρ) : ∀ j, j < 6 → I (c + 7) j = ρ (9 + j) := h.2.2.2.2.2.2.2.2.1
theorem CC_by {I : Nat → Nat → Int} {c : Nat} {ρ : Nat → Int} (h : CC I c ρ) : ∀ j, j < 5 → I (c + 8) j = ρ (42 + j) := h.2.2.2.2.2.2.2.2.2.1
theorem CC_ea {I : Nat → Nat → Int} {c : Nat} {ρ : Nat → Int} (h : CC I c ρ) : ∀ j, j < 5 → I (c + 9) j = ρ (47 + j) := h.2.2.2.2.2.2.2.2.2.2.1
theorem CC_en {I : Nat → Nat → Int} {c : Nat} {ρ : Nat → Int} (h : CC I c ρ) : ∀ j, j < 5 → I (c + 10) j = ρ (15 + j) := h.2.2.2.2.2.2.2.2.2.2.2.1
theorem CC_we {I : Nat → Nat → Int} {c : Nat} {ρ : Nat → Int} (h : CC I c ρ) : ∀ j, j < 5 → I (c + 11) j = ρ (20 + j) := h.2.2.2.2.2.2.2.2.2.2.2.2.1
theorem CC_kn {I : Nat → Nat → Int} {c : Nat} {ρ : Nat → Int} (h : CC I c ρ) : ∀ j, j < 5 → I (c + 12) j = ρ (25 + j) := h.2.2.2.2.2.2.2.2.2.2.2.2.2.1
theorem CC_te {I : Nat → Nat → Int} {c : Nat} {ρ : Nat → Int} (h : CC I c ρ) : ∀ j, j < 3 → I (c + 15) j = ρ (5 + j) := h.2.2.2.2.2.2.2.2.2.2.2.2.2.2.1
theorem CC_ro {I : Nat → Nat → Int} {c : Nat} {ρ : Nat → Int} (h : CC I c ρ) : ∀ j, j < 36 → I (c + 2) j = ρ (52 + j) := h.2.2.2.2.2.2.2.2.2.2.2.2.2.2.2.1
theorem CC_nr {I : Nat → Nat → Int} {c : Nat} {ρ : Nat → Int} (h : CC I c ρ) : ∀ b, b < 6 → I (c + 3) b = ((nr ρ b : Nat) : Int) := h.2.2.2.2.2.2.2.2.2.2.2.2.2.2.2.2.1
theorem CC_h1 {I : Nat → Nat → Int} {c : Nat} {ρ : Nat → Int} (h : CC I c ρ) : ∀ k, k < 6 → I (c + 13) k = ρ (88 + 2 * k) := h.2.2.2.2.2.2.2.2.2.2.2.2.2.2.2.2.2.1
theorem CC_h2 {I : Nat → Nat → Int} {c : Nat} {ρ : Nat → Int} (h : CC I c ρ) : ∀ k, k < 6 → I (c + 14) k = ρ (88 + 2 * k + 1) := h.2.2.2.2.2.2.2.2.2.2.2.2.2.2.2.2.2.2
theorem k_isWithin_t {d : Nat} {G : am_G} {I : Nat → Nat → Int} {P : Nat → Nat → Option Nat} {n m : Int} (hb : 0 ≤ n ∧ n ≤ m) : am_call am_B am_M (d + 1) 157 [(.inl n), (.inl m)] (G, I, P) = some (some (.inl 1), (G, I, P)) := by
  refine am_doL (L := [some (.inl n), some (.inl m)]) (Nat.le_of_ble_eq_true rfl) rfl ?_
  refine (ex_4_0 ?_)
  refine ex_if2 (fun hc1 => by exfalso; omega) (fun hc1 => ?_)
  refine (ex_4_0 (ex_4_1 ?_))
  refine ex_ic4 (fun hc6 => by exfalso; omega) (fun hc6 => ?_)
  refine (ex_0 (ex_28 ?_))
  exact ex_57 (by decide) rfl
theorem k_isWithin_f {d : Nat} {G : am_G} {I : Nat → Nat → Int} {P : Nat → Nat → Option Nat} {n m : Int} (hb : ¬ (0 ≤ n ∧ n ≤ m)) : am_call am_B am_M (d + 1) 157 [(.inl n), (.inl m)] (G, I, P) = some (some (.inl 0), (G, I, P)) := by
  refine am_doL (L := [some (.inl n), some (.inl m)]) (Nat.le_of_ble_eq_true rfl) rfl ?_
  refine (ex_4_0 ?_)
  refine ex_if2 (fun hc1 => ?_) (fun hc1 => ?_)
  · refine (ex_0 (ex_58 ?_))
    exact ex_57 (by decide) rfl
  · refine (ex_4_0 (ex_4_1 ?_))
    refine ex_ic4 (fun hc6 => ?_) (fun hc6 => by exfalso; omega)
    refine (ex_0 (ex_58 ?_))
    exact ex_57 (by decide) rfl
theorem k_isBox_t {d : Nat} {G : am_G} {I : Nat → Nat → Int} {P : Nat → Nat → Option Nat} {b : Int} (hb : 0 ≤ b ∧ b < 6) : am_call am_B am_M (d + 2) 158 [(.inl b)] (G, I, P) = some (some (.inl 1), (G, I, P)) := by
  refine am_doL (L := [some (.inl b)]) (Nat.le_of_ble_eq_true rfl) rfl ?_
  refine (ex_4_0 (ex_0 ?_))
  have hb2 : ((0 : Int) ≤ b ∧ (b : Int) ≤ 5) := by omega
  refine (ix_45 (S' := [(.inl 1)]) rfl (k_isWithin_t hb2) rfl rfl ?_)
  exact ex_57 (by decide) rfl
theorem k_isBox_f {d : Nat} {G : am_G} {I : Nat → Nat → Int} {P : Nat → Nat → Option Nat} {b : Int} (hb : ¬ (0 ≤ b ∧ b < 6)) : am_call am_B am_M (d + 2) 158 [(.inl b)] (G, I, P) = some (some (.inl 0), (G, I, P)) := by
  refine am_doL (L := [some (.inl b)]) (Nat.le_of_ble_eq_true rfl) rfl ?_
  refine (ex_4_0 (ex_0 ?_))
  have hb2 : ¬ (((0 : Int) ≤ b ∧ (b : Int) ≤ 5)) := by omega
  refine (ix_45 (S' := [(.inl 0)]) rfl (k_isWithin_f hb2) rfl rfl ?_)
  exact ex_57 (by decide) rfl
theorem k_isRoad_t {d : Nat} {G : am_G} {I : Nat → Nat → Int} {P : Nat → Nat → Option Nat} {one other len : Int} (hb : (0 ≤ one ∧ one < 6) ∧ (0 ≤ other ∧ other < 6) ∧ ¬ one = other ∧ (0 ≤ len ∧ len ≤ 9)) : am_call am_B am_M (d + 3) 159 [(.inl one), (.inl other), (.inl len)] (G, I, P) = some (some (.inl 1), (G, I, P)) := by
  refine am_doL (L := [some (.inl one), some (.inl other), some (.inl len)]) (Nat.le_of_ble_eq_true rfl) rfl ?_
  refine (ex_4_0 ?_)
  have hb1 : ((0 : Int) ≤ one ∧ (one : Int) < 6) := by omega
  refine (ix_45 (S' := [(.inl 1)]) rfl (k_isBox_t hb1) rfl rfl (ex_if0 (fun hc => by exfalso; revert hc; decide) (fun _ => ?_)))
  refine (ex_4_1 ?_)
  have hb8 : ((0 : Int) ≤ other ∧ (other : Int) < 6) := by omega
  refine (ix_45 (S' := [(.inl 1)]) rfl (k_isBox_t hb8) rfl rfl (ex_if0 (fun hc => by exfalso; revert hc; decide) (fun _ => ?_)))
  refine (ex_4_0 (ex_4_1 ?_))
  refine ex_ic0 (fun hc16 => by exfalso; omega) (fun hc16 => ?_)
  refine (ex_4_2 (ex_0 ?_))
  have hb22 : ((0 : Int) ≤ len ∧ (len : Int) ≤ 9) := by omega
  refine (ix_45 (S' := [(.inl 1)]) rfl (k_isWithin_t hb22) rfl rfl (ex_if0 (fun hc => by exfalso; revert hc; decide) (fun _ => ?_)))
  refine (ex_0 (ex_28 ?_))
  exact ex_57 (by decide) rfl
theorem k_isRoad_f {d : Nat} {G : am_G} {I : Nat → Nat → Int} {P : Nat → Nat → Option Nat} {one other len : Int} (hb : ¬ ((0 ≤ one ∧ one < 6) ∧ (0 ≤ other ∧ other < 6) ∧ ¬ one = other ∧ (0 ≤ len ∧ len ≤ 9))) : am_call am_B am_M (d + 3) 159 [(.inl one), (.inl other), (.inl len)] (G, I, P) = some (some (.inl 0), (G, I, P)) := by
  refine am_doL (L := [some (.inl one), some (.inl other), some (.inl len)]) (Nat.le_of_ble_eq_true rfl) rfl ?_
  refine (ex_4_0 ?_)
  by_cases hb1 : ((0 : Int) ≤ one ∧ (one : Int) < 6)
  · refine (ix_45 (S' := [(.inl 1)]) rfl (k_isBox_t hb1) rfl rfl (ex_if0 (fun hc => by exfalso; revert hc; decide) (fun _ => ?_)))
    refine (ex_4_1 ?_)
    by_cases hb8 : ((0 : Int) ≤ other ∧ (other : Int) < 6)
    · refine (ix_45 (S' := [(.inl 1)]) rfl (k_isBox_t hb8) rfl rfl (ex_if0 (fun hc => by exfalso; revert hc; decide) (fun _ => ?_)))
      refine (ex_4_0 (ex_4_1 ?_))
      refine ex_ic0 (fun hc16 => ?_) (fun hc16 => ?_)
      · refine (ex_0 (ex_58 ?_))
        exact ex_57 (by decide) rfl
      · refine (ex_4_2 (ex_0 ?_))
        have hb22 : ¬ (((0 : Int) ≤ len ∧ (len : Int) ≤ 9)) := by omega
        refine (ix_45 (S' := [(.inl 0)]) rfl (k_isWithin_f hb22) rfl rfl (ex_if0 (fun _ => ?_) (fun hc => by exfalso; revert hc; decide)))
        refine (ex_0 (ex_58 ?_))
        exact ex_57 (by decide) rfl
    · refine (ix_45 (S' := [(.inl 0)]) rfl (k_isBox_f hb8) rfl rfl (ex_if0 (fun _ => ?_) (fun hc => by exfalso; revert hc; decide)))
      refine (ex_0 (ex_58 ?_))
      exact ex_57 (by decide) rfl
  · refine (ix_45 (S' := [(.inl 0)]) rfl (k_isBox_f hb1) rfl rfl (ex_if0 (fun _ => ?_) (fun hc => by exfalso; revert hc; decide)))
    refine (ex_0 (ex_58 ?_))
    exact ex_57 (by decide) rfl
theorem k_refuse_n {d : Nat} {G : am_G} {I : Nat → Nat → Int} {P : Nat → Nat → Option Nat} (hS : ST G P) {k : Nat} {x : Int} (h1 : 0 < k) (h2 : k < 7) (hx : I 173 k = x) (h3 : 0 ≤ x ∧ x ≤ 1000000) : am_call am_B am_M (d + 1) 152 [(.inr (.inr (some 64))), (.inl (-(k : Int)))] (G, I, P) = some (some (.inl (-(k : Int))), (G, am_u2 (am_u2 I 173 k (x + 1)) 64 16 (-(k : Int)), P)) := by
  refine am_doL (L := [some (.inr (.inr (some 64))), some (.inl (-(k : Int)))]) (Nat.le_of_ble_eq_true rfl) rfl ?_
  refine (ex_6_0 (ix_41r (sh_64 hS) (pt_64_12 hS) (ex_4_1 (ex_14 ⟨by omega, by omega⟩ ?_))))
  rw [show (0 - (-(k : Int))) = (k : Int) from by omega]
  refine (ex_23 rfl (ix_30 (j := k) (sh_173 hS) (by omega) (by omega) (by omega) hx (ex_0 (ex_add ⟨by omega, by omega⟩ (ix_34 (j := k) (sh_173 hS) (by omega) (by omega) (by omega) (ex_6_0 (ex_4_1 (ix_42i (sh_64 hS) (ex_4_1 ?_)))))))))
  exact ex_53 rfl
theorem k_grant {d : Nat} {G : am_G} {I : Nat → Nat → Int} {P : Nat → Nat → Option Nat} (hS : ST G P) {v : Int} : am_call am_B am_M (d + 1) 153 [(.inr (.inr (some 64))), (.inl v)] (G, I, P) = some (some (.inl v), (G, am_u2 I 64 16 0, P)) := by
  refine am_doL (L := [some (.inr (.inr (some 64))), some (.inl v)]) (Nat.le_of_ble_eq_true rfl) rfl ?_
  refine (ex_6_0 (ex_0 (ix_42i (sh_64 hS) (ex_4_1 ?_))))
  exact ex_53 rfl
theorem k_settle_n {d : Nat} {G : am_G} {I : Nat → Nat → Int} {P : Nat → Nat → Option Nat} (hS : ST G P) {k : Nat} {x : Int} (h1 : 0 < k) (h2 : k < 7) (hx : I 173 k = x) (h3 : 0 ≤ x ∧ x ≤ 1000000) : am_call am_B am_M (d + 2) 154 [(.inr (.inr (some 64))), (.inl (-(k : Int)))] (G, I, P) = some (some (.inl (-(k : Int))), (G, am_u2 (am_u2 I 173 k (x + 1)) 64 16 (-(k : Int)), P)) := by
  refine am_doL (L := [some (.inr (.inr (some 64))), some (.inl (-(k : Int)))]) (Nat.le_of_ble_eq_true rfl) rfl ?_
  refine (ex_4_1 ?_)
  refine ex_if3 (fun hc1 => by exfalso; omega) (fun hc1 => ?_)
  refine (ex_6_0 (ex_4_1 (ix_46 (S' := [(.inl (-(k : Int)))]) rfl (sh_64 hS) (k_refuse_n hS h1 h2 hx h3) rfl rfl (ex_28 ?_))))
  exact ex_53 rfl
theorem k_settle_p {d : Nat} {G : am_G} {I : Nat → Nat → Int} {P : Nat → Nat → Option Nat} (hS : ST G P) {v : Int} (h1 : 0 ≤ v) : am_call am_B am_M (d + 2) 154 [(.inr (.inr (some 64))), (.inl v)] (G, I, P) = some (some (.inl v), (G, am_u2 I 64 16 0, P)) := by
  refine am_doL (L := [some (.inr (.inr (some 64))), some (.inl v)]) (Nat.le_of_ble_eq_true rfl) rfl ?_
  refine (ex_4_1 ?_)
  refine ex_if3 (fun hc1 => ?_) (fun hc1 => by exfalso; omega)
  refine (ex_6_0 (ex_4_1 (ix_46 (S' := [(.inl v)]) rfl (sh_64 hS) (k_grant hS) rfl rfl (ex_58 ?_))))
  exact ex_53 rfl
def bc1 (s : Int) : Int := am_b2 1 s (am_b2 3 (am_b2 8 s 1) 1431655765)
def bc2 (s : Int) : Int := am_b2 0 (am_b2 3 s 858993459) (am_b2 3 (am_b2 8 s 2) 858993459)
def bc3 (s : Int) : Int := am_b2 3 (am_b2 0 s (am_b2 8 s 4)) 252645135
def bc4 (s : Int) : Int := am_b2 0 s (am_b2 8 s 8)
def bc5 (s : Int) : Int := am_b2 0 s (am_b2 8 s 16)
def bitc (s : Int) : Int := am_b2 3 (bc5 (bc4 (bc3 (bc2 (bc1 s))))) 63
theorem k_bitCount {d : Nat} {G : am_G} {I : Nat → Nat → Int} {P : Nat → Nat → Option Nat} {s : Int} : am_call am_B am_M (d + 1) 287 [(.inl s)] (G, I, P) = some (some (.inl (bitc s)), (G, I, P)) := by
  refine am_doL (L := [some (.inl s)]) (Nat.le_of_ble_eq_true rfl) rfl ?_
  refine (ex_4_0 (ex_4_0 (ex_0 (ex_11e (v := (am_b2 8 s 1)) rfl (ex_0 (ex_11e (v := (am_b2 3 (am_b2 8 s 1) 1431655765)) rfl (ex_11e (v := (bc1 s)) rfl (ex_7_0 (ex_4_0 (ex_0 (ex_11e (v := (am_b2 3 (bc1 s) 858993459)) rfl (ex_4_0 (ex_0 (ex_11e (v := (am_b2 8 (bc1 s) 2)) rfl (ex_0 (ex_11e (v := (am_b2 3 (am_b2 8 (bc1 s) 2) 858993459)) rfl (ex_11e (v := (bc2 (bc1 s))) rfl (ex_7_0 (ex_4_0 (ex_4_0 (ex_0 (ex_11e (v := (am_b2 8 (bc2 (bc1 s)) 4)) rfl (ex_11e (v := (am_b2 0 (bc2 (bc1 s)) (am_b2 8 (bc2 (bc1 s)) 4))) rfl (ex_0 (ex_11e (v := (bc3 (bc2 (bc1 s)))) rfl (ex_7_0 (ex_4_0 (ex_4_0 (ex_0 (ex_11e (v := (am_b2 8 (bc3 (bc2 (bc1 s))) 8)) rfl (ex_11e (v := (bc4 (bc3 (bc2 (bc1 s))))) rfl (ex_7_0 (ex_4_0 (ex_4_0 (ex_0 (ex_11e (v := (am_b2 8 (bc4 (bc3 (bc2 (bc1 s)))) 16)) rfl (ex_11e (v := (bc5 (bc4 (bc3 (bc2 (bc1 s)))))) rfl (ex_7_0 (ex_4_0 (ex_0 (ex_11e (v := (bitc s)) rfl ?_)))))))))))))))))))))))))))))))))))))))))
  exact ex_53 rfl
theorem bitc_lt : ∀ s : Nat, s < 64 → bitc (s : Int) = am_it (fun i (n : Int) => n + ((s >>> i &&& 1 : Nat) : Int)) 6 0 0 := by decide +kernel
theorem bitc_m1 : bitc (-1) = 32 := by decide +kernel
theorem bitc_b : ∀ s : Nat, s < 64 → 0 ≤ bitc (s : Int) ∧ bitc (s : Int) ≤ 6 := by decide +kernel
theorem k_hasCloud_t {d : Nat} {G : am_G} {I : Nat → Nat → Int} {P : Nat → Nat → Option Nat} (hS : ST G P) {c : Nat} (hCc : CQ c) {ρ : Nat → Int} (hcc : CC I c ρ) {v : Int} (hb : 0 ≤ v ∧ v < ρ 0) : am_call am_B am_M (d + 1) 15 [(.inr (.inr (some c))), (.inl v)] (G, I, P) = some (some (.inl 1), (G, I, P)) := by
  refine am_doL (L := [some (.inr (.inr (some c))), some (.inl v)]) (Nat.le_of_ble_eq_true rfl) rfl ?_
  refine (ex_4_1 ?_)
  refine ex_if2 (fun hc1 => by exfalso; omega) (fun hc1 => ?_)
  refine (ex_4_1 (ex_6_0 (ix_41i (cs_0 hS hCc) (CC_n0 hcc) ?_)))
  refine ex_ic3 (fun hc9 => by exfalso; omega) (fun hc9 => ?_)
  refine (ex_0 (ex_28 ?_))
  exact ex_57 (by decide) rfl
theorem k_hasCloud_f {d : Nat} {G : am_G} {I : Nat → Nat → Int} {P : Nat → Nat → Option Nat} (hS : ST G P) {c : Nat} (hCc : CQ c) {ρ : Nat → Int} (hcc : CC I c ρ) {v : Int} (hb : ¬ (0 ≤ v ∧ v < ρ 0)) : am_call am_B am_M (d + 1) 15 [(.inr (.inr (some c))), (.inl v)] (G, I, P) = some (some (.inl 0), (G, I, P)) := by
  refine am_doL (L := [some (.inr (.inr (some c))), some (.inl v)]) (Nat.le_of_ble_eq_true rfl) rfl ?_
  refine (ex_4_1 ?_)
  refine ex_if2 (fun hc1 => ?_) (fun hc1 => ?_)
  · refine (ex_0 (ex_58 ?_))
    exact ex_57 (by decide) rfl
  · refine (ex_4_1 (ex_6_0 (ix_41i (cs_0 hS hCc) (CC_n0 hcc) ?_)))
    refine ex_ic3 (fun hc9 => ?_) (fun hc9 => by exfalso; omega)
    refine (ex_0 (ex_58 ?_))
    exact ex_57 (by decide) rfl
theorem k_hasFolk_t {d : Nat} {G : am_G} {I : Nat → Nat → Int} {P : Nat → Nat → Option Nat} (hS : ST G P) {c : Nat} (hCc : CQ c) {ρ : Nat → Int} (hcc : CC I c ρ) {v : Int} (hb : 0 ≤ v ∧ v < ρ 1) : am_call am_B am_M (d + 1) 16 [(.inr (.inr (some c))), (.inl v)] (G, I, P) = some (some (.inl 1), (G, I, P)) := by
  refine am_doL (L := [some (.inr (.inr (some c))), some (.inl v)]) (Nat.le_of_ble_eq_true rfl) rfl ?_
  refine (ex_4_1 ?_)
  refine ex_if2 (fun hc1 => by exfalso; omega) (fun hc1 => ?_)
  refine (ex_4_1 (ex_6_0 (ix_41i (cs_0 hS hCc) (CC_n1 hcc) ?_)))
  refine ex_ic3 (fun hc9 => by exfalso; omega) (fun hc9 => ?_)
  refine (ex_0 (ex_28 ?_))
  exact ex_57 (by decide) rfl
theorem k_hasFolk_f {d : Nat} {G : am_G} {I : Nat → Nat → Int} {P : Nat → Nat → Option Nat} (hS : ST G P) {c : Nat} (hCc : CQ c) {ρ : Nat → Int} (hcc : CC I c ρ) {v : Int} (hb : ¬ (0 ≤ v ∧ v < ρ 1)) : am_call am_B am_M (d + 1) 16 [(.inr (.inr (some c))), (.inl v)] (G, I, P) = some (some (.inl 0), (G, I, P)) := by
  refine am_doL (L := [some (.inr (.inr (some c))), some (.inl v)]) (Nat.le_of_ble_eq_true rfl) rfl ?_
  refine (ex_4_1 ?_)
  refine ex_if2 (fun hc1 => ?_) (fun hc1 => ?_)
  · refine (ex_0 (ex_58 ?_))
    exact ex_57 (by decide) rfl
  · refine (ex_4_1 (ex_6_0 (ix_41i (cs_0 hS hCc) (CC_n1 hcc) ?_)))
    refine ex_ic3 (fun hc9 => ?_) (fun hc9 => by exfalso; omega)
    refine (ex_0 (ex_58 ?_))
    exact ex_57 (by decide) rfl
theorem k_hasLaw_t {d : Nat} {G : am_G} {I : Nat → Nat → Int} {P : Nat → Nat → Option Nat} (hS : ST G P) {c : Nat} (hCc : CQ c) {ρ : Nat → Int} (hcc : CC I c ρ) {v : Int} (hb : 0 ≤ v ∧ v < ρ 3) : am_call am_B am_M (d + 1) 17 [(.inr (.inr (some c))), (.inl v)] (G, I, P) = some (some (.inl 1), (G, I, P)) := by
  refine am_doL (L := [some (.inr (.inr (some c))), some (.inl v)]) (Nat.le_of_ble_eq_true rfl) rfl ?_
  refine (ex_4_1 ?_)
  refine ex_if2 (fun hc1 => by exfalso; omega) (fun hc1 => ?_)
  refine (ex_4_1 (ex_6_0 (ix_41i (cs_0 hS hCc) (CC_n3 hcc) ?_)))
  refine ex_ic3 (fun hc9 => by exfalso; omega) (fun hc9 => ?_)
  refine (ex_0 (ex_28 ?_))
  exact ex_57 (by decide) rfl
theorem k_hasLaw_f {d : Nat} {G : am_G} {I : Nat → Nat → Int} {P : Nat → Nat → Option Nat} (hS : ST G P) {c : Nat} (hCc : CQ c) {ρ : Nat → Int} (hcc : CC I c ρ) {v : Int} (hb : ¬ (0 ≤ v ∧ v < ρ 3)) : am_call am_B am_M (d + 1) 17 [(.inr (.inr (some c))), (.inl v)] (G, I, P) = some (some (.inl 0), (G, I, P)) := by
  refine am_doL (L := [some (.inr (.inr (some c))), some (.inl v)]) (Nat.le_of_ble_eq_true rfl) rfl ?_
  refine (ex_4_1 ?_)
  refine ex_if2 (fun hc1 => ?_) (fun hc1 => ?_)
  · refine (ex_0 (ex_58 ?_))
    exact ex_57 (by decide) rfl
  · refine (ex_4_1 (ex_6_0 (ix_41i (cs_0 hS hCc) (CC_n3 hcc) ?_)))
    refine ex_ic3 (fun hc9 => ?_) (fun hc9 => by exfalso; omega)
    refine (ex_0 (ex_58 ?_))
    exact ex_57 (by decide) rfl
theorem k_hears_t {d : Nat} {G : am_G} {I : Nat → Nat → Int} {P : Nat → Nat → Option Nat} (hS : ST G P) {c : Nat} (hCc : CQ c) {ρ : Nat → Int} (hcc : CC I c ρ) {f cl_ : Nat} (hf : f < 5) (hc : cl_ < 6) (hea : 0 ≤ ρ (47 + f) ∧ ρ (47 + f) < 32) (hki : 0 ≤ ρ (30 + cl_) ∧ ρ (30 + cl_) < 5) (hk : m_knows ρ cl_ f = 1) : am_call am_B am_M (d + 1) 18 [(.inr (.inr (some c))), (.inl (f : Int)), (.inl (cl_ : Int))] (G, I, P) = some (some (.inl 1), (G, I, P)) := by
  refine am_doL (L := [some (.inr (.inr (some c))), some (.inl (f : Int)), some (.inl (cl_ : Int))]) (Nat.le_of_ble_eq_true rfl) rfl ?_
  refine (ex_6_0 (ix_41r (cs_0 hS hCc) (cp_0_6 hS hCc) (ex_4_1 (ix_30 (j := f) (cs_9 hS hCc) (by omega) (by omega) (by omega) ((CC_ea hcc f hf).trans (Int.toNat_of_nonneg hea.1).symm) (ex_6_0 (ix_41r (cs_0 hS hCc) (cp_0_1 hS hCc) (ex_4_2 (ix_30 (j := cl_) (cs_5 hS hCc) (by omega) (by omega) (by omega) ((CC_ki hcc cl_ hc).trans (Int.toNat_of_nonneg hki.1).symm) (ex_11e (am_shr (a := (ρ (47 + f)).toNat) (k := (ρ (30 + cl_)).toNat) (by omega) (by omega)) (ex_0 (ex_11e (am_and (a := ((ρ (47 + f)).toNat >>> (ρ (30 + cl_)).toNat)) (b := 1) (Nat.lt_of_le_of_lt (Nat.shiftRight_le _ _) (by omega)) (by decide)) ?_)))))))))))
  refine ex_if0 (fun hc15 => by exfalso; unfold m_knows at hk; rw [hk] at hc15; exact absurd hc15 (by decide)) (fun hc15 => ?_)
  refine (ex_0 (ex_28 ?_))
  exact ex_57 (by decide) rfl
theorem k_hears_f {d : Nat} {G : am_G} {I : Nat → Nat → Int} {P : Nat → Nat → Option Nat} (hS : ST G P) {c : Nat} (hCc : CQ c) {ρ : Nat → Int} (hcc : CC I c ρ) {f cl_ : Nat} (hf : f < 5) (hc : cl_ < 6) (hea : 0 ≤ ρ (47 + f) ∧ ρ (47 + f) < 32) (hki : 0 ≤ ρ (30 + cl_) ∧ ρ (30 + cl_) < 5) (hk : m_knows ρ cl_ f = 0) : am_call am_B am_M (d + 1) 18 [(.inr (.inr (some c))), (.inl (f : Int)), (.inl (cl_ : Int))] (G, I, P) = some (some (.inl 0), (G, I, P)) := by
  refine am_doL (L := [some (.inr (.inr (some c))), some (.inl (f : Int)), some (.inl (cl_ : Int))]) (Nat.le_of_ble_eq_true rfl) rfl ?_
  refine (ex_6_0 (ix_41r (cs_0 hS hCc) (cp_0_6 hS hCc) (ex_4_1 (ix_30 (j := f) (cs_9 hS hCc) (by omega) (by omega) (by omega) ((CC_ea hcc f hf).trans (Int.toNat_of_nonneg hea.1).symm) (ex_6_0 (ix_41r (cs_0 hS hCc) (cp_0_1 hS hCc) (ex_4_2 (ix_30 (j := cl_) (cs_5 hS hCc) (by omega) (by omega) (by omega) ((CC_ki hcc cl_ hc).trans (Int.toNat_of_nonneg hki.1).symm) (ex_11e (am_shr (a := (ρ (47 + f)).toNat) (k := (ρ (30 + cl_)).toNat) (by omega) (by omega)) (ex_0 (ex_11e (am_and (a := ((ρ (47 + f)).toNat >>> (ρ (30 + cl_)).toNat)) (b := 1) (Nat.lt_of_le_of_lt (Nat.shiftRight_le _ _) (by omega)) (by decide)) ?_)))))))))))
  refine ex_if0 (fun hc15 => ?_) (fun hc15 => by exfalso; unfold m_knows at hk; rw [hk] at hc15; exact absurd rfl hc15)
  refine (ex_0 (ex_58 ?_))
  exact ex_57 (by decide) rfl
theorem k_sumOf_kn {d : Nat} {G : am_G} {I : Nat → Nat → Int} {P : Nat → Nat → Option Nat} (hS : ST G P) {c : Nat} (hCc : CQ c) {ρ : Nat → Int} (hcc : CC I c ρ) {F : Nat} (h1 : ρ 1 = (F : Int)) (hF : F ≤ 5) (hb : ∀ i, i < F → 0 ≤ ρ (25 + i) ∧ ρ (25 + i) ≤ 999) : am_call am_B am_M (d + 1) 20 [(.inr (.inr (some c))), (.inr (.inr (some (c + 12))))] (G, I, P) = some (some (.inl (m_sum ρ 25 F)), (G, I, P)) := by
  refine am_doL (L := [some (.inr (.inr (some c))), some (.inr (.inr (some (c + 12)))), none, none]) (Nat.le_of_ble_eq_true rfl) rfl ?_
  refine (ex_0 (ex_7_2 rfl (ex_0 (ex_7_3 rfl (ex_58 ?_)))))
  refine ex_forH (b := 1) (σ := Int) (F) (fun i s => s + ρ (25 + i)) (fun i s => 0 ≤ s ∧ s ≤ 999 * (i : Int)) (fun i s e_i => [some (.inr (.inr (some c))), some (.inr (.inr (some (c + 12)))), some (.inl s), some (.inl (i : Int))]) (fun i s => (G, I, P)) ?_ ?_ (F) (0) (0) (fun k_ => ([some (.inr (.inr (some c))), some (.inr (.inr (some (c + 12)))), some (.inl 0), some (.inl 0)] : am_L).getD k_ none) (by omega) (⟨by decide, by decide⟩) rfl (rfl) ?_
  · intro i s hii hvi
    have h2 := hb i hii
    show 0 ≤ s + ρ (25 + i) ∧ s + ρ (25 + i) ≤ 999 * ((i + 1 : Nat) : Int)
    have hvi : 0 ≤ s ∧ s ≤ 999 * (i : Int) := hvi
    omega
  · intro i s e_i hii hvi s' hsi hki
    have h2 := hb i hii
    have hvi : 0 ≤ s ∧ s ≤ 999 * (i : Int) := hvi
    refine (ex_4_3 (ex_6_0 (ix_41i (cs_0 hS hCc) ((CC_n1 hcc).trans h1) ?_)))
    refine ex_ic3 (fun hc9 => by exfalso; omega) (fun hc9 => ?_)
    refine (ex_4_2 (ex_6_1 (ex_4_3 (ix_30 (j := i) (cs_12 hS hCc) (by omega) (by omega) (by omega) (CC_kn hcc i (by omega)) (ex_add ⟨by omega, by omega⟩ (ex_7_2 rfl (ex_10_3 ⟨by omega, by omega⟩ rfl (ex_28 ?_))))))))
    rw [hsi] at hki
    exact hki (fun k_ => ([some (.inr (.inr (some c))), some (.inr (.inr (some (c + 12)))), some (.inl (s + (ρ (25 + i)))), some (.inl ((i : Int) + 1))] : am_L).getD k_ none)
  · intro s e_i hsi hvi
    refine (ex_4_3 (ex_6_0 (ix_41i (cs_0 hS hCc) ((CC_n1 hcc).trans h1) ?_)))
    refine ex_ic3 (fun hc9 => ?_) (fun hc9 => by exfalso; omega)
    refine (ex_4_2 ?_)
    exact ex_53 (by rw [hsi]; rfl)
theorem k_sumOf_we {d : Nat} {G : am_G} {I : Nat → Nat → Int} {P : Nat → Nat → Option Nat} (hS : ST G P) {c : Nat} (hCc : CQ c) {ρ : Nat → Int} (hcc : CC I c ρ) {F : Nat} (h1 : ρ 1 = (F : Int)) (hF : F ≤ 5) (hb : ∀ i, i < F → 0 ≤ ρ (20 + i) ∧ ρ (20 + i) ≤ 999) : am_call am_B am_M (d + 1) 20 [(.inr (.inr (some c))), (.inr (.inr (some (c + 11))))] (G, I, P) = some (some (.inl (m_sum ρ 20 F)), (G, I, P)) := by
  refine am_doL (L := [some (.inr (.inr (some c))), some (.inr (.inr (some (c + 11)))), none, none]) (Nat.le_of_ble_eq_true rfl) rfl ?_
  refine (ex_0 (ex_7_2 rfl (ex_0 (ex_7_3 rfl (ex_58 ?_)))))
  refine ex_forH (b := 1) (σ := Int) (F) (fun i s => s + ρ (20 + i)) (fun i s => 0 ≤ s ∧ s ≤ 999 * (i : Int)) (fun i s e_i => [some (.inr (.inr (some c))), some (.inr (.inr (some (c + 11)))), some (.inl s), some (.inl (i : Int))]) (fun i s => (G, I, P)) ?_ ?_ (F) (0) (0) (fun k_ => ([some (.inr (.inr (some c))), some (.inr (.inr (some (c + 11)))), some (.inl 0), some (.inl 0)] : am_L).getD k_ none) (by omega) (⟨by decide, by decide⟩) rfl (rfl) ?_
  · intro i s hii hvi
    have h2 := hb i hii
    show 0 ≤ s + ρ (20 + i) ∧ s + ρ (20 + i) ≤ 999 * ((i + 1 : Nat) : Int)
    have hvi : 0 ≤ s ∧ s ≤ 999 * (i : Int) := hvi
    omega
  · intro i s e_i hii hvi s' hsi hki
    have h2 := hb i hii
    have hvi : 0 ≤ s ∧ s ≤ 999 * (i : Int) := hvi
    refine (ex_4_3 (ex_6_0 (ix_41i (cs_0 hS hCc) ((CC_n1 hcc).trans h1) ?_)))
    refine ex_ic3 (fun hc9 => by exfalso; omega) (fun hc9 => ?_)
    refine (ex_4_2 (ex_6_1 (ex_4_3 (ix_30 (j := i) (cs_11 hS hCc) (by omega) (by omega) (by omega) (CC_we hcc i (by omega)) (ex_add ⟨by omega, by omega⟩ (ex_7_2 rfl (ex_10_3 ⟨by omega, by omega⟩ rfl (ex_28 ?_))))))))
    rw [hsi] at hki
    exact hki (fun k_ => ([some (.inr (.inr (some c))), some (.inr (.inr (some (c + 11)))), some (.inl (s + (ρ (20 + i)))), some (.inl ((i : Int) + 1))] : am_L).getD k_ none)
  · intro s e_i hsi hvi
    refine (ex_4_3 (ex_6_0 (ix_41i (cs_0 hS hCc) ((CC_n1 hcc).trans h1) ?_)))
    refine ex_ic3 (fun hc9 => ?_) (fun hc9 => by exfalso; omega)
    refine (ex_4_2 ?_)
    exact ex_53 (by rw [hsi]; rfl)
def m_homes (ρ : Nat → Int) : Nat := am_it (fun i s => s ||| 2 ^ (ρ (42 + i)).toNat) (ρ 1).toNat 0 0
theorem m_homes_lt {ρ : Nat → Int} (h1 : ρ 1 ≤ 5) (hh : ∀ f, f < 5 → 0 ≤ ρ (42 + f) ∧ ρ (42 + f) < 6) : m_homes ρ < 64 := am_it_inv (f := fun i s => s ||| 2 ^ (ρ (42 + i)).toNat) (inv := fun _ s => s < 64) (N := (ρ 1).toNat) (fun i s hi h => or_bit_lt h (by have := hh i (by omega); omega)) _ 0 0 (by omega) (by decide)
theorem k_homes {d : Nat} {G : am_G} {I : Nat → Nat → Int} {P : Nat → Nat → Option Nat} (hS : ST G P) {c : Nat} (hCc : CQ c) {ρ : Nat → Int} (hcc : CC I c ρ) (h1 : 0 ≤ ρ 1 ∧ ρ 1 ≤ 5) (hh : ∀ f, f < 5 → 0 ≤ ρ (42 + f) ∧ ρ (42 + f) < 6) : am_call am_B am_M (d + 1) 19 [(.inr (.inr (some c)))] (G, I, P) = some (some (.inl ((m_homes ρ : Nat) : Int)), (G, I, P)) := by
  refine am_doL (L := [some (.inr (.inr (some c))), none, none]) (Nat.le_of_ble_eq_true rfl) rfl ?_
  refine (ex_0 (ex_7_1 rfl (ex_0 (ex_7_2 rfl (ex_58 ?_)))))
  refine ex_forH (b := 1) (σ := Nat) ((ρ 1).toNat) (fun i s => s ||| 2 ^ (ρ (42 + i)).toNat) (fun i s => s < 64) (fun i s e_i => [some (.inr (.inr (some c))), some (.inl (s : Int)), some (.inl (i : Int))]) (fun i s => (G, I, P)) ?_ ?_ ((ρ 1).toNat) (0) (0) (fun k_ => ([some (.inr (.inr (some c))), some (.inl 0), some (.inl 0)] : am_L).getD k_ none) (by omega) (by decide) rfl (rfl) ?_
  · intro i s hii hvi
    have hbi := hh i (by omega)
    exact or_bit_lt hvi (by omega)
  · intro i s e_i hii hvi s' hsi hki
    have hvi : s < 64 := hvi
    have hbi := hh i (by omega)
    refine (ex_4_2 (ex_6_0 (ix_41i (cs_0 hS hCc) ((CC_n1 hcc).trans (Int.toNat_of_nonneg h1.1).symm) ?_)))
    refine ex_ic3 (fun hc9 => by exfalso; omega) (fun hc9 => ?_)
    refine (ex_4_1 (ex_0 (ex_6_0 (ix_41r (cs_0 hS hCc) (cp_0_5 hS hCc) (ex_4_2 (ix_30 (j := i) (cs_8 hS hCc) (by omega) (by omega) (by omega) ((CC_by hcc i (by omega)).trans (Int.toNat_of_nonneg hbi.1).symm) (ex_11e (am_shl1 (k := (ρ (42 + i)).toNat) (by omega)) (ex_11e (am_or (a := s) (b := (2 ^ (ρ (42 + i)).toNat)) (Nat.lt_trans hvi (by decide)) (Nat.pow_lt_pow_right (by decide) (by omega))) (ex_7_1 rfl (ex_10_2 ⟨by omega, by omega⟩ rfl (ex_28 ?_)))))))))))
    rw [hsi] at hki
    exact hki (fun k_ => ([some (.inr (.inr (some c))), some (.inl (((s ||| (2 ^ (ρ (42 + i)).toNat)) : Nat) : Int)), some (.inl ((i : Int) + 1))] : am_L).getD k_ none)
  · intro s e_i hsi hvi
    refine (ex_4_2 (ex_6_0 (ix_41i (cs_0 hS hCc) ((CC_n1 hcc).trans (Int.toNat_of_nonneg h1.1).symm) ?_)))
    refine ex_ic3 (fun hc9 => ?_) (fun hc9 => by exfalso; omega)
    refine (ex_4_1 ?_)
    exact ex_53 (by rw [hsi]; rfl)
theorem k_addCloud {d : Nat} {G : am_G} {I : Nat → Nat → Int} {P : Nat → Nat → Option Nat} (hS : ST G P) {ρ : Nat → Int} (hcc : CC I 65 ρ) {n : Nat} {a b e : Int} (hn : ρ 0 = (n : Int)) (hl : n < 6) : am_call am_B am_M (d + 1) 12 [(.inr (.inr (some 65))), (.inl a), (.inl b), (.inl e)] (G, I, P) = some (some (.inl (n : Int)), (G, (am_u2 (am_u2 (am_u2 (am_u2 I 70 n a) 71 n b) 72 n e) 65 4 ((n : Int) + 1)), P)) := by
  refine am_doL (L := [some (.inr (.inr (some 65))), some (.inl a), some (.inl b), some (.inl e)]) (Nat.le_of_ble_eq_true rfl) rfl ?_
  refine (ex_6_0 (ix_41r (sh_65 hS) (pt_65_1 hS) (ex_6_0 (ix_41i (sh_65 hS) ((CC_n0 hcc).trans hn) (ex_4_1 (ix_34 (j := n) (sh_70 hS) (by omega) (by omega) (by omega) (ex_6_0 (ix_41r (sh_65 hS) (pt_65_2 hS) (ex_6_0 (ix_41i (sh_65 hS) ((u2_q (by decide)).trans ((CC_n0 hcc).trans hn)) (ex_4_2 (ix_34 (j := n) (sh_71 hS) (by omega) (by omega) (by omega) (ex_6_0 (ix_41r (sh_65 hS) (pt_65_3 hS) (ex_6_0 (ix_41i (sh_65 hS) ((u2_q (by decide)).trans ((u2_q (by decide)).trans ((CC_n0 hcc).trans hn))) (ex_4_3 (ix_34 (j := n) (sh_72 hS) (by omega) (by omega) (by omega) (ex_6_0 (ex_22 rfl (ix_41i (sh_65 hS) ((u2_q (by decide)).trans ((u2_q (by decide)).trans ((u2_q (by decide)).trans ((CC_n0 hcc).trans hn)))) (ex_0 (ex_add ⟨by omega, by omega⟩ (ix_42i (sh_65 hS) (ex_6_0 (ix_41i (sh_65 hS) u2_e (ex_0 (ex_11e (v := (n : Int)) ((am_sub ⟨by omega, by omega⟩).trans (by omega)) ?_))))))))))))))))))))))))))))
  exact ex_53 rfl
theorem k_addFolk {d : Nat} {G : am_G} {I : Nat → Nat → Int} {P : Nat → Nat → Option Nat} (hS : ST G P) {ρ : Nat → Int} (hcc : CC I 65 ρ) {n : Nat} {a b : Int} (hn : ρ 1 = (n : Int)) (hl : n < 5) : am_call am_B am_M (d + 1) 13 [(.inr (.inr (some 65))), (.inl a), (.inl b)] (G, I, P) = some (some (.inl (n : Int)), (G, (am_u2 (am_u2 (am_u2 (am_u2 (am_u2 (am_u2 I 73 n a) 74 n b) 75 n 0) 76 n 0) 77 n 0) 65 10 ((n : Int) + 1)), P)) := by
  refine am_doL (L := [some (.inr (.inr (some 65))), some (.inl a), some (.inl b)]) (Nat.le_of_ble_eq_true rfl) rfl ?_
  refine (ex_6_0 (ix_41r (sh_65 hS) (pt_65_5 hS) (ex_6_0 (ix_41i (sh_65 hS) ((CC_n1 hcc).trans hn) (ex_4_1 (ix_34 (j := n) (sh_73 hS) (by omega) (by omega) (by omega) (ex_6_0 (ix_41r (sh_65 hS) (pt_65_6 hS) (ex_6_0 (ix_41i (sh_65 hS) ((u2_q (by decide)).trans ((CC_n1 hcc).trans hn)) (ex_4_2 (ix_34 (j := n) (sh_74 hS) (by omega) (by omega) (by omega) (ex_6_0 (ix_41r (sh_65 hS) (pt_65_7 hS) (ex_6_0 (ix_41i (sh_65 hS) ((u2_q (by decide)).trans ((u2_q (by decide)).trans ((CC_n1 hcc).trans hn))) (ex_0 (ix_34 (j := n) (sh_75 hS) (by omega) (by omega) (by omega) (ex_6_0 (ix_41r (sh_65 hS) (pt_65_8 hS) (ex_6_0 (ix_41i (sh_65 hS) ((u2_q (by decide)).trans ((u2_q (by decide)).trans ((u2_q (by decide)).trans ((CC_n1 hcc).trans hn)))) (ex_0 (ix_34 (j := n) (sh_76 hS) (by omega) (by omega) (by omega) (ex_6_0 (ix_41r (sh_65 hS) (pt_65_9 hS) (ex_6_0 (ix_41i (sh_65 hS) ((u2_q (by decide)).trans ((u2_q (by decide)).trans ((u2_q (by decide)).trans ((u2_q (by decide)).trans ((CC_n1 hcc).trans hn))))) (ex_0 (ix_34 (j := n) (sh_77 hS) (by omega) (by omega) (by omega) (ex_6_0 (ex_22 rfl (ix_41i (sh_65 hS) ((u2_q (by decide)).trans ((u2_q (by decide)).trans ((u2_q (by decide)).trans ((u2_q (by decide)).trans ((u2_q (by decide)).trans ((CC_n1 hcc).trans hn)))))) (ex_0 (ex_add ⟨by omega, by omega⟩ (ix_42i (sh_65 hS) (ex_6_0 (ix_41i (sh_65 hS) u2_e (ex_0 (ex_11e (v := (n : Int)) ((am_sub ⟨by omega, by omega⟩).trans (by omega)) ?_))))))))))))))))))))))))))))))))))))))))
  exact ex_53 rfl
theorem k_addHeard {d : Nat} {G : am_G} {I : Nat → Nat → Int} {P : Nat → Nat → Option Nat} (hS : ST G P) {ρ : Nat → Int} (hcc : CC I 65 ρ) {n : Nat} {a b : Int} (hn : ρ 2 = (n : Int)) (hl : n < 6) : am_call am_B am_M (d + 1) 14 [(.inr (.inr (some 65))), (.inl a), (.inl b)] (G, I, P) = some (none, (G, (am_u2 (am_u2 (am_u2 I 78 n a) 79 n b) 65 13 ((n : Int) + 1)), P)) := by
  refine am_doL (L := [some (.inr (.inr (some 65))), some (.inl a), some (.inl b)]) (Nat.le_of_ble_eq_true rfl) rfl ?_
  refine (ex_6_0 (ix_41r (sh_65 hS) (pt_65_11 hS) (ex_6_0 (ix_41i (sh_65 hS) ((CC_n2 hcc).trans hn) (ex_4_1 (ix_34 (j := n) (sh_78 hS) (by omega) (by omega) (by omega) (ex_6_0 (ix_41r (sh_65 hS) (pt_65_12 hS) (ex_6_0 (ix_41i (sh_65 hS) ((u2_q (by decide)).trans ((CC_n2 hcc).trans hn)) (ex_4_2 (ix_34 (j := n) (sh_79 hS) (by omega) (by omega) (by omega) (ex_6_0 (ex_22 rfl (ix_41i (sh_65 hS) ((u2_q (by decide)).trans ((u2_q (by decide)).trans ((CC_n2 hcc).trans hn))) (ex_0 (ex_add ⟨by omega, by omega⟩ (ix_42i (sh_65 hS) ?_))))))))))))))))))
  exact ex_56 rfl
theorem CC_rd {I : Nat → Nat → Int} {c : Nat} {ρ : Nat → Int} (h : CC I c ρ) {b o : Nat} (hb : b < 6) (ho : o < 6) : I (c + 2) (b * 6 + o) = ρ (52 + 6 * b + o) := by
  rw [CC_ro h _ (by omega)]; exact congrArg ρ (by omega)
theorem k_long {d : Nat} {G : am_G} {I : Nat → Nat → Int} {P : Nat → Nat → Option Nat} (hS : ST G P) {c : Nat} (hCc : CQ c) {ρ : Nat → Int} (hcc : CC I c ρ) {b o : Nat} (hb : b < 6) (ho : o < 6) : am_call am_B am_M (d + 1) 75 [(.inr (.inr (some (c + 1)))), (.inl (b : Int)), (.inl (o : Int))] (G, I, P) = some (some (.inl (ρ (52 + 6 * b + o))), (G, I, P)) := by
  refine am_doL (L := [some (.inr (.inr (some (c + 1)))), some (.inl (b : Int)), some (.inl (o : Int))]) (Nat.le_of_ble_eq_true rfl) rfl ?_
  refine (ex_6_0 (ix_41r (cs_1 hS hCc) (cp_1_0 hS hCc) (ex_4_1 (ex_0 (ex_mul ⟨by omega, by omega⟩ (ex_4_2 (ex_add ⟨by omega, by omega⟩ (ix_30 (j := ((b * 6) + o)) (cs_2 hS hCc) (by omega) (by omega) (by omega) (CC_rd hcc hb ho) ?_))))))))
  exact ex_53 rfl
theorem k_standing {d : Nat} {G : am_G} {I : Nat → Nat → Int} {P : Nat → Nat → Option Nat} (hS : ST G P) {c : Nat} (hCc : CQ c) {ρ : Nat → Int} (hcc : CC I c ρ) (h8 : 0 ≤ ρ 8 ∧ ρ 8 < 64) : am_call am_B am_M (d + 1) 78 [(.inr (.inr (some (c + 1))))] (G, I, P) = some (some (.inl ((wh (ρ 8).toNat : Nat) : Int)), (G, I, P)) := by
  refine am_doL (L := [some (.inr (.inr (some (c + 1))))]) (Nat.le_of_ble_eq_true rfl) rfl ?_
  refine (ex_0 (ex_6_0 (ix_41i (cs_1 hS hCc) ((CC_sm hcc).trans (Int.toNat_of_nonneg h8.1).symm) (ex_0 (ex_11e (am_not (a := (ρ 8).toNat) (by omega)) (ex_11e (am_andn (a := 63) (b := (ρ 8).toNat) (by decide) (by omega)) ?_))))))
  exact ex_53 rfl
def k_r1 (ρ : Nat → Int) (al b s : Nat) : Nat := if s.testBit b = true then s ||| (nr ρ b &&& al) else s
def k_rr (ρ : Nat → Int) (al s : Nat) : Nat := am_it (fun b s => k_r1 ρ al b s) 6 0 s
def k_reach (ρ : Nat → Int) (fr al : Nat) : Nat := am_it (fun _ s => k_rr ρ al s) 5 1 (al &&& 2 ^ fr)
theorem k_r1_lt {ρ : Nat → Int} {al b s : Nat} (hs : s < 64) : k_r1 ρ al b s < 64 := by
  unfold k_r1
  split
  · exact Nat.or_lt_two_pow (n := 6) hs (Nat.lt_of_le_of_lt Nat.and_le_left nr_lt)
  · exact hs
theorem k_rr_lt {ρ : Nat → Int} {al s : Nat} (hs : s < 64) : k_rr ρ al s < 64 := am_it_inv (inv := fun _ s => s < 64) (N := 6) (fun _ _ _ h => k_r1_lt h) 6 0 s rfl hs
theorem k_reach_lt {ρ : Nat → Int} {fr al : Nat} (ha : al < 64) : k_reach ρ fr al < 64 := am_it_inv (inv := fun _ s => s < 64) (N := 6) (fun _ _ _ h => k_rr_lt h) 5 1 _ rfl (Nat.lt_of_le_of_lt Nat.and_le_left ha)
theorem k_reach_c {d : Nat} {G : am_G} {I : Nat → Nat → Int} {P : Nat → Nat → Option Nat} (hS : ST G P) {c : Nat} (hCc : CQ c) {ρ : Nat → Int} (hcc : CC I c ρ) {fr al : Nat} (hf : fr < 6) (ha : al < 64) : am_call am_B am_M (d + 1) 79 [(.inr (.inr (some (c + 1)))), (.inl (fr : Int)), (.inl (al : Int))] (G, I, P) = some (some (.inl ((k_reach ρ fr al : Nat) : Int)), (G, I, P)) := by
  refine am_doL (L := [some (.inr (.inr (some (c + 1)))), some (.inl (fr : Int)), some (.inl (al : Int)), none, none, none]) (Nat.le_of_ble_eq_true rfl) rfl ?_
  refine (ex_4_2 (ex_0 (ex_4_1 (ex_11e (am_shl1 (k := fr) (by omega)) (ex_11e (am_and (a := al) (b := (2 ^ fr)) (Nat.lt_trans ha (by decide)) (Nat.pow_lt_pow_right (by decide) (by omega))) (ex_7_3 rfl (ex_0 (ex_7_4 rfl (ex_58 ?_)))))))))
  refine ex_forH (b := 1) (σ := Nat) (6) (fun r s_r => k_rr ρ al s_r) (fun r s_r => s_r < 64) (fun r s_r e_r => [some (.inr (.inr (some (c + 1)))), some (.inl (fr : Int)), some (.inl (al : Int)), some (.inl (s_r : Int)), some (.inl (r : Int)), (e_r 5)]) (fun r s_r => (G, I, P)) ?_ ?_ (5) (1) (al &&& 2 ^ fr) (fun k_ => ([some (.inr (.inr (some (c + 1)))), some (.inl (fr : Int)), some (.inl (al : Int)), some (.inl (((al &&& (2 ^ fr)) : Nat) : Int)), some (.inl 1), none] : am_L).getD k_ none) (rfl) (Nat.lt_of_le_of_lt Nat.and_le_left ha) rfl (rfl) ?_
  · intro r s_r hir hvr
    exact k_rr_lt hvr
  · intro r s_r e_r hir hvr s_r' hsr hkr
    have hvr : s_r < 64 := hvr
    refine (ex_4_4 (ex_0 ?_))
    refine ex_ic3 (fun hc13 => by exfalso; omega) (fun hc13 => ?_)
    refine (ex_0 (ex_7_5 rfl (ex_58 ?_)))
    refine ex_forH (b := 3) (σ := Nat) (6) (fun b s_b => k_r1 ρ al b s_b) (fun b s_b => s_b < 64) (fun b s_b e_b => [some (.inr (.inr (some (c + 1)))), some (.inl (fr : Int)), some (.inl (al : Int)), some (.inl (s_b : Int)), some (.inl (r : Int)), some (.inl (b : Int))]) (fun b s_b => (G, I, P)) ?_ ?_ (6) (0) (s_r) (fun k_ => ([some (.inr (.inr (some (c + 1)))), some (.inl (fr : Int)), some (.inl (al : Int)), some (.inl (s_r : Int)), some (.inl (r : Int)), some (.inl 0)] : am_L).getD k_ none) (by omega) (hvr) rfl (rfl) ?_
    · intro b s_b hib hvb
      exact k_r1_lt hvb
    · intro b s_b e_b hib hvb s_b' hsb hkb
      have hvb : s_b < 64 := hvb
      refine (ex_4_5 (ex_0 ?_))
      refine ex_ic3 (fun hc23 => by exfalso; omega) (fun hc23 => ?_)
      refine (ex_4_3 (ex_4_5 (ex_11e (am_shr (a := s_b) (k := b) (by omega) (Nat.lt_trans hvb (by decide))) (ex_0 (ex_11e (am_and (a := (s_b >>> b)) (b := 1) (Nat.lt_of_le_of_lt (Nat.shiftRight_le _ _) (Nat.lt_trans hvb (by decide))) (by decide)) ?_)))))
      refine ex_if0 (fun hc32 => ?_) (fun hc32 => ?_)
      · refine (ex_10_5 ⟨by omega, by omega⟩ rfl (ex_28 ?_))
        have e : s_b' = s_b := hsb.trans (if_neg (fun z => by rw [tb_1 z] at hc32; exact absurd hc32 (by decide)))
        rw [e] at hkb
        exact hkb (fun k_ => ([some (.inr (.inr (some (c + 1)))), some (.inl (fr : Int)), some (.inl (al : Int)), some (.inl (s_b : Int)), some (.inl (r : Int)), some (.inl ((b : Int) + 1))] : am_L).getD k_ none)
      · refine (ex_4_3 (ex_6_0 (ix_41r (cs_1 hS hCc) (cp_1_1 hS hCc) (ex_4_5 (ix_30 (j := b) (cs_3 hS hCc) (by omega) (by omega) (by omega) (CC_nr hcc b (by omega)) (ex_4_2 (ex_11e (am_and (a := (nr ρ b)) (b := al) (Nat.lt_trans nr_lt (by decide)) (Nat.lt_trans ha (by decide))) (ex_11e (am_or (a := s_b) (b := ((nr ρ b) &&& al)) (Nat.lt_trans hvb (by decide)) (Nat.lt_of_le_of_lt Nat.and_le_left (Nat.lt_trans nr_lt (by decide)))) (ex_7_3 rfl (ex_58 (ex_10_5 ⟨by omega, by omega⟩ rfl (ex_28 ?_))))))))))))
        have e : s_b' = (s_b ||| (nr ρ b &&& al)) := hsb.trans (if_pos (by apply Classical.byContradiction; intro z; exact hc32 (tb_0 z)))
        rw [e] at hkb
        exact hkb (fun k_ => ([some (.inr (.inr (some (c + 1)))), some (.inl (fr : Int)), some (.inl (al : Int)), some (.inl (((s_b ||| ((nr ρ b) &&& al)) : Nat) : Int)), some (.inl (r : Int)), some (.inl ((b : Int) + 1))] : am_L).getD k_ none)
    · intro s_b e_b hsb hvb
      have hvb : s_b < 64 := hvb
      refine (ex_4_5 (ex_0 ?_))
      refine ex_ic3 (fun hc23 => ?_) (fun hc23 => by exfalso; omega)
      refine (ex_10_4 ⟨by omega, by omega⟩ rfl (ex_28 ?_))
      rw [hsr.trans (show k_rr ρ al s_r = s_b from hsb.symm)] at hkr
      exact hkr (fun k_ => ([some (.inr (.inr (some (c + 1)))), some (.inl (fr : Int)), some (.inl (al : Int)), some (.inl (s_b : Int)), some (.inl ((r : Int) + 1)), some (.inl (6 : Int))] : am_L).getD k_ none)
  · intro s_r e_r hsr hvr
    have hvr : s_r < 64 := hvr
    refine (ex_4_4 (ex_0 ?_))
    refine ex_ic3 (fun hc13 => ?_) (fun hc13 => by exfalso; omega)
    refine (ex_4_3 ?_)
    exact ex_53 (by rw [hsr]; rfl)
