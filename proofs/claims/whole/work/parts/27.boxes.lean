/-! ===== the reference's counts and sets of boxes ===== -/
def wh (s : Nat) : Nat := 63 &&& (63 ^^^ s)
theorem wh_lt {s : Nat} : wh s < 64 := Nat.lt_of_le_of_lt Nat.and_le_left (by decide)
def m_ones (s : Nat) : Int := am_it (fun i (n : Int) => n + ((s >>> i &&& 1 : Nat) : Int)) 6 0 0
theorem m_ones_b (s : Nat) : 0 ≤ m_ones s ∧ m_ones s ≤ 6 := by
  refine am_it_inv (f := fun i (n : Int) => n + ((s >>> i &&& 1 : Nat) : Int)) (inv := fun i n => 0 ≤ n ∧ n ≤ (i : Int)) (N := 6) (fun i n _ h => ?_) 6 0 0 rfl ⟨by decide, by decide⟩
  have h1 : s >>> i &&& 1 ≤ 1 := Nat.and_le_right
  show 0 ≤ n + ((s >>> i &&& 1 : Nat) : Int) ∧ n + ((s >>> i &&& 1 : Nat) : Int) ≤ ((i + 1 : Nat) : Int)
  omega
theorem c_ones_e {d : Nat} {G : am_G} {I : Nat → Nat → Int} {P : Nat → Nat → Option Nat} {s : Nat} (hs : s < 2 ^ 31) : am_call am_B am_M (d + 1) 163 [.inl (s : Int)] (G, I, P) = some (some (.inl (m_ones s)), (G, I, P)) := c_ones hs
theorem c_whole_e {d : Nat} {G : am_G} {I : Nat → Nat → Int} {P : Nat → Nat → Option Nat} (hS : ST G P) {s : Nat} (h8 : I 210 8 = (s : Int)) (hs : s < 64) : am_call am_B am_M (d + 1) 179 [.inr (.inr (some 208))] (G, I, P) = some (some (.inl ((wh s : Nat) : Int)), (G, I, P)) := c_whole hS h8 hs
theorem m_box_b {d : Nat} {G : am_G} {I : Nat → Nat → Int} {P : Nat → Nat → Option Nat} (hS : ST G P) {b w : Int} (hb : ¬ ((0 ≤ b ∧ b < 6) ∧ (0 ≤ w ∧ w ≤ 7))) : am_call am_B am_M (d + 3) 190 [(.inr (.inr (some 208))), (.inl b), (.inl w)] (G, I, P) = some (some (.inl (-1)), (G, (am_u2 I 208 0 0), P)) := by
  refine am_doL (L := [some (.inr (.inr (some 208))), some (.inl b), some (.inl w)]) (Nat.le_of_ble_eq_true rfl) rfl ?_
  refine (ex_6_0 (ex_0 (ix_42i (sh_208 hS) (ex_4_1 ?_))))
  by_cases hb6 : ((0 : Int) ≤ b ∧ (b : Int) < 6)
  · refine (ix_45 (S' := [(.inl 1)]) rfl (c_isBox_t hb6) rfl rfl (ex_if0 (fun hc => by exfalso; revert hc; decide) (fun _ => ?_)))
    refine (ex_4_2 (ex_19 (ex_1 (ex_1 ?_))))
    have hb18 : ¬ (((0 : Int) ≤ w ∧ (w : Int) ≤ 7)) := by omega
    refine (ix_45 (S' := [(.inl 0)]) rfl (c_in_f hb18) rfl rfl (ex_if1 (fun hc => by exfalso; revert hc; decide) (fun _ => ?_)))
    refine (ex_0 ?_)
    exact ex_53 rfl
  · refine (ix_45 (S' := [(.inl 0)]) rfl (c_isBox_f hb6) rfl rfl (ex_if0 (fun _ => ?_) (fun hc => by exfalso; revert hc; decide)))
    refine (ex_0 ?_)
    exact ex_53 rfl
theorem m_box_0 {d : Nat} {G : am_G} {I : Nat → Nat → Int} {P : Nat → Nat → Option Nat} (hS : ST G P) {b : Nat} (hb : b < 6) {s : Nat} (h8 : I 210 8 = (s : Int)) (hs : s < 64) : am_call am_B am_M (d + 3) 190 [(.inr (.inr (some 208))), (.inl (b : Int)), (.inl 0)] (G, I, P) = some (some (.inl ((s >>> b &&& 1 : Nat) : Int)), (G, (am_u2 I 208 0 0), P)) := by
  refine am_doL (L := [some (.inr (.inr (some 208))), some (.inl (b : Int)), some (.inl 0)]) (Nat.le_of_ble_eq_true rfl) rfl ?_
  refine (ex_6_0 (ex_0 (ix_42i (sh_208 hS) (ex_4_1 ?_))))
  have hb6 : ((0 : Int) ≤ (b : Int) ∧ ((b : Int) : Int) < 6) := by omega
  refine (ix_45 (S' := [(.inl 1)]) rfl (c_isBox_t hb6) rfl rfl (ex_if0 (fun hc => by exfalso; revert hc; decide) (fun _ => ?_)))
  refine (ex_4_2 (ex_19 (ex_1 (ex_1 ?_))))
  have hb18 : ((0 : Int) ≤ 0 ∧ (0 : Int) ≤ 7) := by omega
  refine (ix_45 (S' := [(.inl 1)]) rfl (c_in_t hb18) rfl rfl (ex_if1 (fun _ => ?_) (fun hc => by exfalso; revert hc; decide)))
  refine (ex_4_2 (ex_if1 (fun hc => by exfalso; revert hc; decide) (fun _ => ?_)))
  refine (ex_6_0 (ix_41r (sh_208 hS) (pt_208_3 hS) (ex_0 (ix_30 (j := 8) (sh_210 hS) (by decide) (by decide) rfl ((u2_q (by decide)).trans h8) (ex_4_1 (ex_11e (am_shr (a := s) (k := b) (by omega) (by omega)) (ex_0 (ex_11e (am_and (a := (s >>> b)) (b := 1) (Nat.lt_of_le_of_lt (Nat.shiftRight_le _ _) (by omega)) (by decide)) (ex_28 ?_)))))))))
  exact ex_53 rfl
theorem m_box_1 {d : Nat} {G : am_G} {I : Nat → Nat → Int} {P : Nat → Nat → Option Nat} (hS : ST G P) {b : Nat} (hb : b < 6) {s : Nat} (h8 : I 210 8 = (s : Int)) (hs : s < 64) : am_call am_B am_M (d + 3) 190 [(.inr (.inr (some 208))), (.inl (b : Int)), (.inl 1)] (G, I, P) = some (some (.inl ((m_comes ((am_u2 I 208 0 0) 210) b (wh s) &&& (m_comes ((am_u2 I 208 0 0) 210) b (wh s) ^^^ 2 ^ b) : Nat) : Int)), (G, (am_u2 I 208 0 0), P)) := by
  refine am_doL (L := [some (.inr (.inr (some 208))), some (.inl (b : Int)), some (.inl 1)]) (Nat.le_of_ble_eq_true rfl) rfl ?_
  refine (ex_6_0 (ex_0 (ix_42i (sh_208 hS) (ex_4_1 ?_))))
  have hb6 : ((0 : Int) ≤ (b : Int) ∧ ((b : Int) : Int) < 6) := by omega
  refine (ix_45 (S' := [(.inl 1)]) rfl (c_isBox_t hb6) rfl rfl (ex_if0 (fun hc => by exfalso; revert hc; decide) (fun _ => ?_)))
  refine (ex_4_2 (ex_19 (ex_1 (ex_1 ?_))))
  have hb18 : ((0 : Int) ≤ 1 ∧ (1 : Int) ≤ 7) := by omega
  refine (ix_45 (S' := [(.inl 1)]) rfl (c_in_t hb18) rfl rfl (ex_if1 (fun _ => ?_) (fun hc => by exfalso; revert hc; decide)))
  refine (ex_4_2 (ex_if1 (fun _ => ?_) (fun hc => by exfalso; revert hc; decide)))
  refine (ex_4_2 (ex_0 (ex_ic1 (fun hc => by exfalso; revert hc; decide) (fun _ => ?_))))
  refine (ex_6_0 (ex_4_1 (ex_6_0 (ix_46 (S' := [(.inl (((wh s) : Nat) : Int)), (.inl (b : Int)), (.inr (.inr (some 208)))]) rfl (sh_208 hS) (c_whole_e hS ((u2_q (by decide)).trans h8) (by omega)) rfl rfl (ix_46 (S' := [(.inl ((m_comes ((am_u2 I 208 0 0) 210) b (wh s) : Nat) : Int))]) rfl (sh_208 hS) (c_comesTo hS (from_ := b) (over := (wh s)) (by omega) wh_lt) rfl rfl (ex_0 (ex_4_1 (ex_11e (am_shl1 (k := b) (by omega)) (ex_0 (ex_11e (am_not (a := (2 ^ b)) (Nat.pow_lt_pow_right (by decide) (by omega))) (ex_11e (am_andn (a := (m_comes ((am_u2 I 208 0 0) 210) b (wh s))) (b := (2 ^ b)) (Nat.lt_trans (m_comes_lt (by omega)) (by decide)) (Nat.pow_lt_pow_right (by decide) (by omega))) (ex_28 ?_))))))))))))
  exact ex_53 rfl
theorem m_box_r {d : Nat} {G : am_G} {I : Nat → Nat → Int} {P : Nat → Nat → Option Nat} (hS : ST G P) {b o : Nat} (hb : b < 6) (ho : o < 6) : am_call am_B am_M (d + 3) 190 [(.inr (.inr (some 208))), (.inl (b : Int)), (.inl ((o : Int) + 2))] (G, I, P) = some (some (.inl (I 210 (52 + 6 * b + o))), (G, (am_u2 I 208 0 0), P)) := by
  refine am_doL (L := [some (.inr (.inr (some 208))), some (.inl (b : Int)), some (.inl ((o : Int) + 2))]) (Nat.le_of_ble_eq_true rfl) rfl ?_
  refine (ex_6_0 (ex_0 (ix_42i (sh_208 hS) (ex_4_1 ?_))))
  have hb6 : ((0 : Int) ≤ (b : Int) ∧ ((b : Int) : Int) < 6) := by omega
  refine (ix_45 (S' := [(.inl 1)]) rfl (c_isBox_t hb6) rfl rfl (ex_if0 (fun hc => by exfalso; revert hc; decide) (fun _ => ?_)))
  refine (ex_4_2 (ex_19 (ex_1 (ex_1 ?_))))
  have hb18 : ((0 : Int) ≤ ((o : Int) + 2) ∧ (((o : Int) + 2) : Int) ≤ 7) := by omega
  refine (ix_45 (S' := [(.inl 1)]) rfl (c_in_t hb18) rfl rfl (ex_if1 (fun _ => ?_) (fun hc => by exfalso; revert hc; decide)))
  refine (ex_4_2 ?_)
  refine ex_if1 (fun hc27 => ?_) (fun hc27 => by exfalso; omega)
  refine (ex_4_2 (ex_0 ?_))
  refine ex_ic1 (fun hc46 => ?_) (fun hc46 => by exfalso; omega)
  refine (ex_6_0 (ex_4_1 (ex_4_2 (ex_0 (ex_11e ((am_sub ⟨by omega, by omega⟩).trans (by omega)) (ix_46 (S' := [(.inl (I 210 (52 + 6 * b + o)))]) rfl (sh_208 hS) (c_roadOf hS (b := b) (o := o) (by omega) (by omega)) rfl rfl (ex_58 ?_)))))))
  exact ex_53 rfl
theorem c_homes {d : Nat} {G : am_G} {I : Nat → Nat → Int} {P : Nat → Nat → Option Nat} (hS : ST G P) {F : Nat} {hm : Nat → Nat} (h1 : I 210 1 = (F : Int)) (hF : F ≤ 5) (hh : ∀ i, i < F → I 210 (42 + i) = (hm i : Int)) (hh6 : ∀ i, i < F → hm i < 6) : am_call am_B am_M (d + 1) 268 [(.inr (.inr (some 208)))] (G, I, P) = some (some (.inl ((am_it (fun i s => s ||| 2 ^ hm i) F 0 0 : Nat) : Int)), (G, I, P)) := by
  refine am_doL (L := [some (.inr (.inr (some 208))), none, none]) (Nat.le_of_ble_eq_true rfl) rfl ?_
  refine (ex_0 (ex_7_1 rfl (ex_0 (ex_7_2 rfl (ex_58 ?_)))))
  refine ex_forH (b := 1) (σ := Nat) (F) (fun i s => s ||| 2 ^ hm i) (fun i s => s < 64) (fun i s e_i => [some (.inr (.inr (some 208))), some (.inl (s : Int)), some (.inl (i : Int))]) (fun i s => (G, I, P)) ?_ ?_ (F) (0) (0) (fun k => ([some (.inr (.inr (some 208))), some (.inl 0), some (.inl 0)] : am_L).getD k none) (by omega) (by decide) rfl (rfl) ?_
  · intro i s hii hvi
    exact Nat.or_lt_two_pow (n := 6) hvi (Nat.pow_lt_pow_right (by decide) (hh6 i hii))
  · intro i s e_i hii hvi s' hsi hki
    have h2 := hh i hii
    have h3 := hh6 i hii
    have hvi : s < 64 := hvi
    refine (ex_4_2 (ex_6_0 (ix_41r (sh_208 hS) (pt_208_3 hS) (ex_0 (ix_30 (j := 1) (sh_210 hS) (by decide) (by decide) rfl h1 ?_)))))
    refine ex_ic3 (fun hc11 => by exfalso; omega) (fun hc11 => ?_)
    refine (ex_4_1 (ex_0 (ex_6_0 (ix_41r (sh_208 hS) (pt_208_3 hS) (ex_0 (ex_4_2 (ex_add ⟨by omega, by omega⟩ (ix_30 (j := (42 + i)) (sh_210 hS) (by omega) (by omega) (by omega) h2 (ex_11e (am_shl1 (k := (hm i)) (by omega)) (ex_11e (am_or (a := s) (b := (2 ^ (hm i))) (by omega) (Nat.pow_lt_pow_right (by decide) (by omega))) (ex_7_1 rfl (ex_10_2 ⟨by omega, by omega⟩ rfl (ex_28 ?_)))))))))))))
    rw [hsi] at hki
    exact hki (fun k => ([some (.inr (.inr (some 208))), some (.inl (((s ||| (2 ^ (hm i))) : Nat) : Int)), some (.inl ((i : Int) + 1))] : am_L).getD k none)
  · intro s e_i hsi hvi
    refine (ex_4_2 (ex_6_0 (ix_41r (sh_208 hS) (pt_208_3 hS) (ex_0 (ix_30 (j := 1) (sh_210 hS) (by decide) (by decide) rfl h1 ?_)))))
    refine ex_ic3 (fun hc11 => ?_) (fun hc11 => by exfalso; omega)
    refine (ex_4_1 ?_)
    exact ex_53 (by rw [hsi])
theorem l_lowest {d : Nat} {G : am_G} {I : Nat → Nat → Int} {P : Nat → Nat → Option Nat} {s b : Nat} (hs : s < 2 ^ 31) (hb6 : b ≤ 6) (hb : b = 6 ∨ s.testBit b = true) : ∀ (k i : Nat), i + k = b → (∀ j, i ≤ j → j < b → ¬ s.testBit j = true) → am_ex (am_call am_B am_M (d + 1)) (am_B 269) (am_B 269 1) [some (.inl (s : Int)), some (.inl (i : Int))] [] (G, I, P) (fun z => z = (some (.inl (b : Int)), (G, I, P)))
  | 0, i, e, hj => by
    have e : i = b := by omega
    subst e
    by_cases h6 : i = 6
    · refine (ex_4_1 (ex_0 ?_))
      refine ex_ic3 (fun hc5 => ?_) (fun hc5 => by exfalso; omega)
      refine (ex_4_1 ?_)
      exact ex_53 rfl
    · have hn : s.testBit i = true := by rcases hb with h | h <;> first | exact absurd h h6 | exact h
      refine (ex_4_1 (ex_0 ?_))
      refine ex_ic3 (fun hc5 => by exfalso; omega) (fun hc5 => ?_)
      refine (ex_4_0 (ex_4_1 ?_))
      have hb10 : (Nat.testBit s i = true) := by exact hn
      refine (ix_45 (S' := [(.inl 1)]) rfl (c_is_t (by omega) (by omega) hb10) rfl rfl (ex_if1 (fun _ => ?_) (fun hc => by exfalso; revert hc; decide)))
      refine (ex_4_1 ?_)
      exact ex_53 rfl
  | k + 1, i, e, hj => by
    have hn : ¬ s.testBit i = true := hj i (Nat.le_refl _) (by omega)
    refine (ex_4_1 (ex_0 ?_))
    refine ex_ic3 (fun hc5 => by exfalso; omega) (fun hc5 => ?_)
    refine (ex_4_0 (ex_4_1 ?_))
    have hb10 : ¬ ((Nat.testBit s i = true)) := by exact hn
    refine (ix_45 (S' := [(.inl 0)]) rfl (c_is_f (by omega) (by omega) hb10) rfl rfl (ex_if1 (fun hc => by exfalso; revert hc; decide) (fun _ => ?_)))
    refine (ex_10_1 ⟨by omega, by omega⟩ rfl (ex_28 ?_))
    exact l_lowest hs hb6 hb k (i + 1) (by omega) (fun j h1 h2 => hj j (by omega) h2)
theorem c_lowest {d : Nat} {G : am_G} {I : Nat → Nat → Int} {P : Nat → Nat → Option Nat} {s b : Nat} (hs : s < 2 ^ 31) (hb6 : b ≤ 6) (hb : b = 6 ∨ s.testBit b = true) (hj : ∀ j, j < b → ¬ s.testBit j = true) : am_call am_B am_M (d + 2) 269 [(.inl (s : Int))] (G, I, P) = some (some (.inl (b : Int)), (G, I, P)) := by
  refine am_doL (L := [some (.inl (s : Int)), none]) (Nat.le_of_ble_eq_true rfl) rfl ?_
  refine (ex_0 (ex_7_1 rfl (ex_58 ?_)))
  exact l_lowest hs hb6 hb b 0 (by omega) (fun j _ h2 => hj j h2)
def m_low (s : Nat) : Nat := if s.testBit 0 = true then 0 else if s.testBit 1 = true then 1 else if s.testBit 2 = true then 2 else if s.testBit 3 = true then 3 else if s.testBit 4 = true then 4 else if s.testBit 5 = true then 5 else 6
theorem m_low_le (s : Nat) : m_low s ≤ 6 := by unfold m_low; (repeat' split) <;> decide
theorem m_low_t (s : Nat) : m_low s = 6 ∨ s.testBit (m_low s) = true := by
  unfold m_low
  (repeat' split) <;> first | (right; assumption) | (left; rfl)
theorem m_low_f (s : Nat) : ∀ j, j < m_low s → ¬ s.testBit j = true := by
  intro j hj
  have h6 := m_low_le s
  have : j = 0 ∨ j = 1 ∨ j = 2 ∨ j = 3 ∨ j = 4 ∨ j = 5 := by omega
  unfold m_low at hj
  rcases this with rfl | rfl | rfl | rfl | rfl | rfl <;> (repeat' split at hj) <;> first | assumption | omega
theorem m_low_lt {s : Nat} (h : s < 64) (h0 : ¬ s = 0) : m_low s < 6 := by
  have : ∀ s, s < 64 → ¬ s = 0 → m_low s < 6 := by decide +kernel
  exact this s h h0
theorem c_low {d : Nat} {h : am_H} {s : Nat} (hs : s < 2 ^ 31) : am_call am_B am_M (d + 2) 269 [.inl (s : Int)] h = some (some (.inl (m_low s : Int)), h) := by
  obtain ⟨G, I, P⟩ := h
  exact c_lowest hs (m_low_le s) (m_low_t s) (m_low_f s)

def m_pF (ρ : Nat → Int) (s one other set : Nat) (z : Int × Int) : Int × Int := if set &&& (set ^^^ wh s) = 0 ∧ ¬ set.testBit one = true ∧ ¬ set.testBit other = true ∧ m_ones set < z.2 ∧ ¬ (m_comes ρ one (wh s &&& (wh s ^^^ set))).testBit other = true then ((set : Int), m_ones set) else z
def m_part (ρ : Nat → Int) (s one other : Nat) : Int × Int := am_it (fun set z => m_pF ρ s one other set z) 64 0 (-1, 100000000)
theorem m_part_b {d : Nat} {G : am_G} {I : Nat → Nat → Int} {P : Nat → Nat → Option Nat} (hS : ST G P) {one other w : Int} (hb : ¬ ((0 ≤ one ∧ one < 6) ∧ (0 ≤ other ∧ other < 6) ∧ ¬ one = other ∧ (0 ≤ w ∧ w ≤ 1))) : am_call am_B am_M (d + 4) 267 [(.inr (.inr (some 208))), (.inl one), (.inl other), (.inl w)] (G, I, P) = some (some (.inl (-1)), (G, (am_u2 I 208 0 0), P)) := by
  refine am_doL (L := [some (.inr (.inr (some 208))), some (.inl one), some (.inl other), some (.inl w), none, none, none, none]) (Nat.le_of_ble_eq_true rfl) rfl ?_
  refine (ex_6_0 (ex_0 (ix_42i (sh_208 hS) (ex_4_1 ?_))))
  by_cases hb6 : ((0 : Int) ≤ one ∧ (one : Int) < 6)
  · refine (ix_45 (S' := [(.inl 1)]) rfl (c_isBox_t hb6) rfl rfl (ex_if0 (fun hc => by exfalso; revert hc; decide) (fun _ => ?_)))
    refine (ex_4_2 ?_)
    by_cases hb13 : ((0 : Int) ≤ other ∧ (other : Int) < 6)
    · refine (ix_45 (S' := [(.inl 1)]) rfl (c_isBox_t hb13) rfl rfl (ex_if0 (fun hc => by exfalso; revert hc; decide) (fun _ => ?_)))
      refine (ex_4_1 (ex_4_2 ?_))
      refine ex_ic0 (fun hc21 => ?_) (fun hc21 => ?_)
      · refine (ex_0 ?_)
        exact ex_53 rfl
      · refine (ex_4_3 (ex_19 (ex_1 (ex_1 ?_))))
        have hb28 : ¬ (((0 : Int) ≤ w ∧ (w : Int) ≤ 1)) := by omega
        refine (ix_45 (S' := [(.inl 0)]) rfl (c_in_f hb28) rfl rfl (ex_if1 (fun hc => by exfalso; revert hc; decide) (fun _ => ?_)))
        refine (ex_0 ?_)
        exact ex_53 rfl
    · refine (ix_45 (S' := [(.inl 0)]) rfl (c_isBox_f hb13) rfl rfl (ex_if0 (fun _ => ?_) (fun hc => by exfalso; revert hc; decide)))
      refine (ex_0 ?_)
      exact ex_53 rfl
  · refine (ix_45 (S' := [(.inl 0)]) rfl (c_isBox_f hb6) rfl rfl (ex_if0 (fun _ => ?_) (fun hc => by exfalso; revert hc; decide)))
    refine (ex_0 ?_)
    exact ex_53 rfl
theorem m_part_1 {d : Nat} {G : am_G} {I : Nat → Nat → Int} {P : Nat → Nat → Option Nat} (hS : ST G P) {one other : Nat} (h1 : one < 6) (h2 : other < 6) (hne : ¬ one = other) {s : Nat} (h8 : I 210 8 = (s : Int)) (hs : s < 64) : am_call am_B am_M (d + 4) 267 [(.inr (.inr (some 208))), (.inl (one : Int)), (.inl (other : Int)), (.inl 1)] (G, I, P) = some (some (.inl (m_part ((am_u2 I 208 0 0) 210) s one other).1), (G, (am_u2 I 208 0 0), P)) := by
  refine am_doL (L := [some (.inr (.inr (some 208))), some (.inl (one : Int)), some (.inl (other : Int)), some (.inl 1), none, none, none, none]) (Nat.le_of_ble_eq_true rfl) rfl ?_
  refine (ex_6_0 (ex_0 (ix_42i (sh_208 hS) (ex_4_1 ?_))))
  have hb6 : ((0 : Int) ≤ (one : Int) ∧ ((one : Int) : Int) < 6) := by omega
  refine (ix_45 (S' := [(.inl 1)]) rfl (c_isBox_t hb6) rfl rfl (ex_if0 (fun hc => by exfalso; revert hc; decide) (fun _ => ?_)))
  refine (ex_4_2 ?_)
  have hb13 : ((0 : Int) ≤ (other : Int) ∧ ((other : Int) : Int) < 6) := by omega
  refine (ix_45 (S' := [(.inl 1)]) rfl (c_isBox_t hb13) rfl rfl (ex_if0 (fun hc => by exfalso; revert hc; decide) (fun _ => ?_)))
  refine (ex_4_1 (ex_4_2 ?_))
  refine ex_ic0 (fun hc21 => by exfalso; omega) (fun hc21 => ?_)
  refine (ex_4_3 (ex_19 (ex_1 (ex_1 ?_))))
  have hb28 : ((0 : Int) ≤ 1 ∧ (1 : Int) ≤ 1) := by omega
  refine (ix_45 (S' := [(.inl 1)]) rfl (c_in_t hb28) rfl rfl (ex_if1 (fun _ => ?_) (fun hc => by exfalso; revert hc; decide)))
  refine (ex_0 (ex_7_4 rfl (ex_0 (ex_7_5 rfl (ex_0 (ex_7_6 rfl (ex_58 ?_)))))))
  refine ex_forH (b := 6) (σ := Int × Int) (64) (fun i z => m_pF ((am_u2 I 208 0 0) 210) s one other i z) (fun i z => -1 ≤ z.1 ∧ z.1 < 64 ∧ (z.1 = -1 → z.2 = 100000000)) (fun i z e_i => [some (.inr (.inr (some 208))), some (.inl (one : Int)), some (.inl (other : Int)), some (.inl 1), some (.inl z.2), some (.inl z.1), some (.inl (i : Int)), (e_i 7)]) (fun i z => (G, (am_u2 I 208 0 0), P)) ?_ ?_ (64) (0) ((-1, 100000000)) (fun k => ([some (.inr (.inr (some 208))), some (.inl (one : Int)), some (.inl (other : Int)), some (.inl 1), some (.inl 100000000), some (.inl (-1)), some (.inl 0), none] : am_L).getD k none) (by omega) (⟨by decide, by decide, fun _ => rfl⟩) rfl (rfl) ?_
  · intro i z hii hvi
    show -1 ≤ (m_pF ((am_u2 I 208 0 0) 210) s one other i z).1 ∧ (m_pF ((am_u2 I 208 0 0) 210) s one other i z).1 < 64 ∧ ((m_pF ((am_u2 I 208 0 0) 210) s one other i z).1 = -1 → (m_pF ((am_u2 I 208 0 0) 210) s one other i z).2 = 100000000)
    unfold m_pF
    split
    · refine ⟨?_, ?_, ?_⟩
      · show (-1 : Int) ≤ (i : Int); omega
      · show (i : Int) < 64; omega
      · intro h; have h : (i : Int) = -1 := h; omega
    · exact hvi
  · intro i z e_i hii hvi z' hsi hki
    have hm := m_ones_b i
    refine (ex_4_6 (ex_0 ?_))
    refine ex_ic3 (fun hc51 => by exfalso; omega) (fun hc51 => ?_)
    refine (ex_4_6 (ex_6_0 (ix_46 (S' := [(.inl (((wh s) : Nat) : Int)), (.inl (i : Int))]) rfl (sh_208 hS) (c_whole_e hS ((u2_q (by decide)).trans h8) (by omega)) rfl rfl (ex_0 (ex_11e (am_not (a := (wh s)) (Nat.lt_trans wh_lt (by decide))) (ex_11e (am_andn (a := i) (b := (wh s)) (by omega) (Nat.lt_trans wh_lt (by decide))) ?_))))))
    refine ex_if1 (fun hc63 => ?_) (fun hc63 => ?_)
    · refine (ex_0 (ex_58 (ex_7_7 rfl (ex_4_7 (ex_if0 (fun _ => ?_) (fun hc => by exfalso; revert hc; decide))))))
      refine (ex_4_5 (ex_58 (ex_7_5 rfl (ex_4_7 (ex_if0 (fun _ => ?_) (fun hc => by exfalso; revert hc; decide))))))
      refine (ex_4_4 (ex_58 (ex_7_4 rfl (ex_10_6 ⟨by omega, by omega⟩ rfl (ex_28 ?_)))))
      rw [hsi.trans (if_neg (by rintro ⟨z1, z2, z3, z4, z5⟩; first | exact absurd z1 (by omega) | exact z2 hb69 | exact z3 hb78 | exact absurd z4 (by omega) | exact z5 hb109))] at hki
      exact hki (fun k => ([some (.inr (.inr (some 208))), some (.inl (one : Int)), some (.inl (other : Int)), some (.inl 1), some (.inl z.2), some (.inl z.1), some (.inl ((i : Int) + 1)), some (.inl 0)] : am_L).getD k none)
    · refine (ex_4_6 (ex_4_1 ?_))
      by_cases hb69 : (Nat.testBit i one = true)
      · refine (ix_45 (S' := [(.inl 1)]) rfl (c_is_t (by omega) (by omega) hb69) rfl rfl (ex_if1 (fun _ => ?_) (fun hc => by exfalso; revert hc; decide)))
        refine (ex_0 (ex_58 (ex_7_7 rfl (ex_4_7 (ex_if0 (fun _ => ?_) (fun hc => by exfalso; revert hc; decide))))))
        refine (ex_4_5 (ex_58 (ex_7_5 rfl (ex_4_7 (ex_if0 (fun _ => ?_) (fun hc => by exfalso; revert hc; decide))))))
        refine (ex_4_4 (ex_58 (ex_7_4 rfl (ex_10_6 ⟨by omega, by omega⟩ rfl (ex_28 ?_)))))
        rw [hsi.trans (if_neg (by rintro ⟨z1, z2, z3, z4, z5⟩; first | exact absurd z1 (by omega) | exact z2 hb69 | exact z3 hb78 | exact absurd z4 (by omega) | exact z5 hb109))] at hki
        exact hki (fun k => ([some (.inr (.inr (some 208))), some (.inl (one : Int)), some (.inl (other : Int)), some (.inl 1), some (.inl z.2), some (.inl z.1), some (.inl ((i : Int) + 1)), some (.inl 0)] : am_L).getD k none)
      · refine (ix_45 (S' := [(.inl 0)]) rfl (c_is_f (by omega) (by omega) hb69) rfl rfl (ex_if1 (fun hc => by exfalso; revert hc; decide) (fun _ => ?_)))
        refine (ex_4_6 (ex_4_2 ?_))
        by_cases hb78 : (Nat.testBit i other = true)
        · refine (ix_45 (S' := [(.inl 1)]) rfl (c_is_t (by omega) (by omega) hb78) rfl rfl (ex_if1 (fun _ => ?_) (fun hc => by exfalso; revert hc; decide)))
          refine (ex_0 (ex_58 (ex_7_7 rfl (ex_4_7 (ex_if0 (fun _ => ?_) (fun hc => by exfalso; revert hc; decide))))))
          refine (ex_4_5 (ex_58 (ex_7_5 rfl (ex_4_7 (ex_if0 (fun _ => ?_) (fun hc => by exfalso; revert hc; decide))))))
          refine (ex_4_4 (ex_58 (ex_7_4 rfl (ex_10_6 ⟨by omega, by omega⟩ rfl (ex_28 ?_)))))
          rw [hsi.trans (if_neg (by rintro ⟨z1, z2, z3, z4, z5⟩; first | exact absurd z1 (by omega) | exact z2 hb69 | exact z3 hb78 | exact absurd z4 (by omega) | exact z5 hb109))] at hki
          exact hki (fun k => ([some (.inr (.inr (some 208))), some (.inl (one : Int)), some (.inl (other : Int)), some (.inl 1), some (.inl z.2), some (.inl z.1), some (.inl ((i : Int) + 1)), some (.inl 0)] : am_L).getD k none)
        · refine (ix_45 (S' := [(.inl 0)]) rfl (c_is_f (by omega) (by omega) hb78) rfl rfl (ex_if1 (fun hc => by exfalso; revert hc; decide) (fun _ => ?_)))
          refine (ex_4_6 (ix_45 (S' := [(.inl (m_ones i))]) rfl (c_ones_e (s := i) (by omega)) rfl rfl (ex_4_4 ?_)))
          refine ex_ic3 (fun hc91 => ?_) (fun hc91 => ?_)
          · refine (ex_0 (ex_58 (ex_7_7 rfl (ex_4_7 (ex_if0 (fun _ => ?_) (fun hc => by exfalso; revert hc; decide))))))
            refine (ex_4_5 (ex_58 (ex_7_5 rfl (ex_4_7 (ex_if0 (fun _ => ?_) (fun hc => by exfalso; revert hc; decide))))))
            refine (ex_4_4 (ex_58 (ex_7_4 rfl (ex_10_6 ⟨by omega, by omega⟩ rfl (ex_28 ?_)))))
            rw [hsi.trans (if_neg (by rintro ⟨z1, z2, z3, z4, z5⟩; first | exact absurd z1 (by omega) | exact z2 hb69 | exact z3 hb78 | exact absurd z4 (by omega) | exact z5 hb109))] at hki
            exact hki (fun k => ([some (.inr (.inr (some 208))), some (.inl (one : Int)), some (.inl (other : Int)), some (.inl 1), some (.inl z.2), some (.inl z.1), some (.inl ((i : Int) + 1)), some (.inl 0)] : am_L).getD k none)
          · refine (ex_6_0 (ex_4_1 (ex_6_0 (ix_46 (S' := [(.inl (((wh s) : Nat) : Int)), (.inl (one : Int)), (.inr (.inr (some 208)))]) rfl (sh_208 hS) (c_whole_e hS ((u2_q (by decide)).trans h8) (by omega)) rfl rfl (ex_4_6 (ex_0 (ex_11e (am_not (a := i) (by omega)) (ex_11e (am_andn (a := (wh s)) (b := i) (Nat.lt_trans wh_lt (by decide)) (by omega)) (ix_46 (S' := [(.inl ((m_comes ((am_u2 I 208 0 0) 210) one ((wh s) &&& ((wh s) ^^^ i)) : Nat) : Int))]) rfl (sh_208 hS) (c_comesTo hS (from_ := one) (over := ((wh s) &&& ((wh s) ^^^ i))) (by omega) (Nat.lt_of_le_of_lt Nat.and_le_left wh_lt)) rfl rfl (ex_4_2 ?_))))))))))
            by_cases hb109 : (Nat.testBit (m_comes ((am_u2 I 208 0 0) 210) one ((wh s) &&& ((wh s) ^^^ i))) other = true)
            · refine (ix_45 (S' := [(.inl 1)]) rfl (c_is_t (Nat.lt_trans (m_comes_lt (by omega)) (by decide)) (by omega) hb109) rfl rfl (ex_if1 (fun _ => ?_) (fun hc => by exfalso; revert hc; decide)))
              refine (ex_0 (ex_58 (ex_7_7 rfl (ex_4_7 (ex_if0 (fun _ => ?_) (fun hc => by exfalso; revert hc; decide))))))
              refine (ex_4_5 (ex_58 (ex_7_5 rfl (ex_4_7 (ex_if0 (fun _ => ?_) (fun hc => by exfalso; revert hc; decide))))))
              refine (ex_4_4 (ex_58 (ex_7_4 rfl (ex_10_6 ⟨by omega, by omega⟩ rfl (ex_28 ?_)))))
              rw [hsi.trans (if_neg (by rintro ⟨z1, z2, z3, z4, z5⟩; first | exact absurd z1 (by omega) | exact z2 hb69 | exact z3 hb78 | exact absurd z4 (by omega) | exact z5 hb109))] at hki
              exact hki (fun k => ([some (.inr (.inr (some 208))), some (.inl (one : Int)), some (.inl (other : Int)), some (.inl 1), some (.inl z.2), some (.inl z.1), some (.inl ((i : Int) + 1)), some (.inl 0)] : am_L).getD k none)
            · refine (ix_45 (S' := [(.inl 0)]) rfl (c_is_f (Nat.lt_trans (m_comes_lt (by omega)) (by decide)) (by omega) hb109) rfl rfl (ex_if1 (fun hc => by exfalso; revert hc; decide) (fun _ => ?_)))
              refine (ex_0 (ex_28 (ex_7_7 rfl (ex_4_7 (ex_if0 (fun hc => by exfalso; revert hc; decide) (fun _ => ?_))))))
              refine (ex_4_6 (ex_28 (ex_7_5 rfl (ex_4_7 (ex_if0 (fun hc => by exfalso; revert hc; decide) (fun _ => ?_))))))
              refine (ex_4_6 (ix_45 (S' := [(.inl (m_ones i))]) rfl (c_ones_e (s := i) (by omega)) rfl rfl (ex_28 (ex_7_4 rfl (ex_10_6 ⟨by omega, by omega⟩ rfl (ex_28 ?_))))))
              rw [hsi.trans (if_pos ⟨by omega, hb69, hb78, by omega, hb109⟩)] at hki
              exact hki (fun k => ([some (.inr (.inr (some 208))), some (.inl (one : Int)), some (.inl (other : Int)), some (.inl 1), some (.inl (m_ones i)), some (.inl (i : Int)), some (.inl ((i : Int) + 1)), some (.inl 1)] : am_L).getD k none)
  · intro z e_i hsi hvi
    refine (ex_4_6 (ex_0 ?_))
    refine ex_ic3 (fun hc51 => ?_) (fun hc51 => by exfalso; omega)
    refine (ex_4_5 (ex_0 ?_))
    refine ex_ic0 (fun hc162 => ?_) (fun hc162 => ?_)
    · refine (ex_4_5 (ex_28 ?_))
      exact ex_53 (by rw [hsi]; rfl)
    · refine (ex_4_3 (ex_0 (ex_ic1 (fun hc => by exfalso; revert hc; decide) (fun _ => ?_))))
      refine (ex_4_5 (ex_28 ?_))
      exact ex_53 (by rw [hsi]; rfl)
theorem m_part_0 {d : Nat} {G : am_G} {I : Nat → Nat → Int} {P : Nat → Nat → Option Nat} (hS : ST G P) {one other : Nat} (h1 : one < 6) (h2 : other < 6) (hne : ¬ one = other) {s : Nat} (h8 : I 210 8 = (s : Int)) (hs : s < 64) : am_call am_B am_M (d + 4) 267 [(.inr (.inr (some 208))), (.inl (one : Int)), (.inl (other : Int)), (.inl 0)] (G, I, P) = some (some (.inl (if (m_part ((am_u2 I 208 0 0) 210) s one other).1 = -1 then -1 else (m_part ((am_u2 I 208 0 0) 210) s one other).2)), (G, (am_u2 I 208 0 0), P)) := by
  refine am_doL (L := [some (.inr (.inr (some 208))), some (.inl (one : Int)), some (.inl (other : Int)), some (.inl 0), none, none, none, none]) (Nat.le_of_ble_eq_true rfl) rfl ?_
  refine (ex_6_0 (ex_0 (ix_42i (sh_208 hS) (ex_4_1 ?_))))
  have hb6 : ((0 : Int) ≤ (one : Int) ∧ ((one : Int) : Int) < 6) := by omega
  refine (ix_45 (S' := [(.inl 1)]) rfl (c_isBox_t hb6) rfl rfl (ex_if0 (fun hc => by exfalso; revert hc; decide) (fun _ => ?_)))
  refine (ex_4_2 ?_)
  have hb13 : ((0 : Int) ≤ (other : Int) ∧ ((other : Int) : Int) < 6) := by omega
  refine (ix_45 (S' := [(.inl 1)]) rfl (c_isBox_t hb13) rfl rfl (ex_if0 (fun hc => by exfalso; revert hc; decide) (fun _ => ?_)))
  refine (ex_4_1 (ex_4_2 ?_))
  refine ex_ic0 (fun hc21 => by exfalso; omega) (fun hc21 => ?_)
  refine (ex_4_3 (ex_19 (ex_1 (ex_1 ?_))))
  have hb28 : ((0 : Int) ≤ 0 ∧ (0 : Int) ≤ 1) := by omega
  refine (ix_45 (S' := [(.inl 1)]) rfl (c_in_t hb28) rfl rfl (ex_if1 (fun _ => ?_) (fun hc => by exfalso; revert hc; decide)))
  refine (ex_0 (ex_7_4 rfl (ex_0 (ex_7_5 rfl (ex_0 (ex_7_6 rfl (ex_58 ?_)))))))
  refine ex_forH (b := 6) (σ := Int × Int) (64) (fun i z => m_pF ((am_u2 I 208 0 0) 210) s one other i z) (fun i z => -1 ≤ z.1 ∧ z.1 < 64 ∧ (z.1 = -1 → z.2 = 100000000)) (fun i z e_i => [some (.inr (.inr (some 208))), some (.inl (one : Int)), some (.inl (other : Int)), some (.inl 0), some (.inl z.2), some (.inl z.1), some (.inl (i : Int)), (e_i 7)]) (fun i z => (G, (am_u2 I 208 0 0), P)) ?_ ?_ (64) (0) ((-1, 100000000)) (fun k => ([some (.inr (.inr (some 208))), some (.inl (one : Int)), some (.inl (other : Int)), some (.inl 0), some (.inl 100000000), some (.inl (-1)), some (.inl 0), none] : am_L).getD k none) (by omega) (⟨by decide, by decide, fun _ => rfl⟩) rfl (rfl) ?_
  · intro i z hii hvi
    show -1 ≤ (m_pF ((am_u2 I 208 0 0) 210) s one other i z).1 ∧ (m_pF ((am_u2 I 208 0 0) 210) s one other i z).1 < 64 ∧ ((m_pF ((am_u2 I 208 0 0) 210) s one other i z).1 = -1 → (m_pF ((am_u2 I 208 0 0) 210) s one other i z).2 = 100000000)
    unfold m_pF
    split
    · refine ⟨?_, ?_, ?_⟩
      · show (-1 : Int) ≤ (i : Int); omega
      · show (i : Int) < 64; omega
      · intro h; have h : (i : Int) = -1 := h; omega
    · exact hvi
  · intro i z e_i hii hvi z' hsi hki
    have hm := m_ones_b i
    refine (ex_4_6 (ex_0 ?_))
    refine ex_ic3 (fun hc51 => by exfalso; omega) (fun hc51 => ?_)
    refine (ex_4_6 (ex_6_0 (ix_46 (S' := [(.inl (((wh s) : Nat) : Int)), (.inl (i : Int))]) rfl (sh_208 hS) (c_whole_e hS ((u2_q (by decide)).trans h8) (by omega)) rfl rfl (ex_0 (ex_11e (am_not (a := (wh s)) (Nat.lt_trans wh_lt (by decide))) (ex_11e (am_andn (a := i) (b := (wh s)) (by omega) (Nat.lt_trans wh_lt (by decide))) ?_))))))
    refine ex_if1 (fun hc63 => ?_) (fun hc63 => ?_)
    · refine (ex_0 (ex_58 (ex_7_7 rfl (ex_4_7 (ex_if0 (fun _ => ?_) (fun hc => by exfalso; revert hc; decide))))))
      refine (ex_4_5 (ex_58 (ex_7_5 rfl (ex_4_7 (ex_if0 (fun _ => ?_) (fun hc => by exfalso; revert hc; decide))))))
      refine (ex_4_4 (ex_58 (ex_7_4 rfl (ex_10_6 ⟨by omega, by omega⟩ rfl (ex_28 ?_)))))
      rw [hsi.trans (if_neg (by rintro ⟨z1, z2, z3, z4, z5⟩; first | exact absurd z1 (by omega) | exact z2 hb69 | exact z3 hb78 | exact absurd z4 (by omega) | exact z5 hb109))] at hki
      exact hki (fun k => ([some (.inr (.inr (some 208))), some (.inl (one : Int)), some (.inl (other : Int)), some (.inl 0), some (.inl z.2), some (.inl z.1), some (.inl ((i : Int) + 1)), some (.inl 0)] : am_L).getD k none)
    · refine (ex_4_6 (ex_4_1 ?_))
      by_cases hb69 : (Nat.testBit i one = true)
      · refine (ix_45 (S' := [(.inl 1)]) rfl (c_is_t (by omega) (by omega) hb69) rfl rfl (ex_if1 (fun _ => ?_) (fun hc => by exfalso; revert hc; decide)))
        refine (ex_0 (ex_58 (ex_7_7 rfl (ex_4_7 (ex_if0 (fun _ => ?_) (fun hc => by exfalso; revert hc; decide))))))
        refine (ex_4_5 (ex_58 (ex_7_5 rfl (ex_4_7 (ex_if0 (fun _ => ?_) (fun hc => by exfalso; revert hc; decide))))))
        refine (ex_4_4 (ex_58 (ex_7_4 rfl (ex_10_6 ⟨by omega, by omega⟩ rfl (ex_28 ?_)))))
        rw [hsi.trans (if_neg (by rintro ⟨z1, z2, z3, z4, z5⟩; first | exact absurd z1 (by omega) | exact z2 hb69 | exact z3 hb78 | exact absurd z4 (by omega) | exact z5 hb109))] at hki
        exact hki (fun k => ([some (.inr (.inr (some 208))), some (.inl (one : Int)), some (.inl (other : Int)), some (.inl 0), some (.inl z.2), some (.inl z.1), some (.inl ((i : Int) + 1)), some (.inl 0)] : am_L).getD k none)
      · refine (ix_45 (S' := [(.inl 0)]) rfl (c_is_f (by omega) (by omega) hb69) rfl rfl (ex_if1 (fun hc => by exfalso; revert hc; decide) (fun _ => ?_)))
        refine (ex_4_6 (ex_4_2 ?_))
        by_cases hb78 : (Nat.testBit i other = true)
        · refine (ix_45 (S' := [(.inl 1)]) rfl (c_is_t (by omega) (by omega) hb78) rfl rfl (ex_if1 (fun _ => ?_) (fun hc => by exfalso; revert hc; decide)))
          refine (ex_0 (ex_58 (ex_7_7 rfl (ex_4_7 (ex_if0 (fun _ => ?_) (fun hc => by exfalso; revert hc; decide))))))
          refine (ex_4_5 (ex_58 (ex_7_5 rfl (ex_4_7 (ex_if0 (fun _ => ?_) (fun hc => by exfalso; revert hc; decide))))))
          refine (ex_4_4 (ex_58 (ex_7_4 rfl (ex_10_6 ⟨by omega, by omega⟩ rfl (ex_28 ?_)))))
          rw [hsi.trans (if_neg (by rintro ⟨z1, z2, z3, z4, z5⟩; first | exact absurd z1 (by omega) | exact z2 hb69 | exact z3 hb78 | exact absurd z4 (by omega) | exact z5 hb109))] at hki
          exact hki (fun k => ([some (.inr (.inr (some 208))), some (.inl (one : Int)), some (.inl (other : Int)), some (.inl 0), some (.inl z.2), some (.inl z.1), some (.inl ((i : Int) + 1)), some (.inl 0)] : am_L).getD k none)
        · refine (ix_45 (S' := [(.inl 0)]) rfl (c_is_f (by omega) (by omega) hb78) rfl rfl (ex_if1 (fun hc => by exfalso; revert hc; decide) (fun _ => ?_)))
          refine (ex_4_6 (ix_45 (S' := [(.inl (m_ones i))]) rfl (c_ones_e (s := i) (by omega)) rfl rfl (ex_4_4 ?_)))
          refine ex_ic3 (fun hc91 => ?_) (fun hc91 => ?_)
          · refine (ex_0 (ex_58 (ex_7_7 rfl (ex_4_7 (ex_if0 (fun _ => ?_) (fun hc => by exfalso; revert hc; decide))))))
            refine (ex_4_5 (ex_58 (ex_7_5 rfl (ex_4_7 (ex_if0 (fun _ => ?_) (fun hc => by exfalso; revert hc; decide))))))
            refine (ex_4_4 (ex_58 (ex_7_4 rfl (ex_10_6 ⟨by omega, by omega⟩ rfl (ex_28 ?_)))))
            rw [hsi.trans (if_neg (by rintro ⟨z1, z2, z3, z4, z5⟩; first | exact absurd z1 (by omega) | exact z2 hb69 | exact z3 hb78 | exact absurd z4 (by omega) | exact z5 hb109))] at hki
            exact hki (fun k => ([some (.inr (.inr (some 208))), some (.inl (one : Int)), some (.inl (other : Int)), some (.inl 0), some (.inl z.2), some (.inl z.1), some (.inl ((i : Int) + 1)), some (.inl 0)] : am_L).getD k none)
          · refine (ex_6_0 (ex_4_1 (ex_6_0 (ix_46 (S' := [(.inl (((wh s) : Nat) : Int)), (.inl (one : Int)), (.inr (.inr (some 208)))]) rfl (sh_208 hS) (c_whole_e hS ((u2_q (by decide)).trans h8) (by omega)) rfl rfl (ex_4_6 (ex_0 (ex_11e (am_not (a := i) (by omega)) (ex_11e (am_andn (a := (wh s)) (b := i) (Nat.lt_trans wh_lt (by decide)) (by omega)) (ix_46 (S' := [(.inl ((m_comes ((am_u2 I 208 0 0) 210) one ((wh s) &&& ((wh s) ^^^ i)) : Nat) : Int))]) rfl (sh_208 hS) (c_comesTo hS (from_ := one) (over := ((wh s) &&& ((wh s) ^^^ i))) (by omega) (Nat.lt_of_le_of_lt Nat.and_le_left wh_lt)) rfl rfl (ex_4_2 ?_))))))))))
            by_cases hb109 : (Nat.testBit (m_comes ((am_u2 I 208 0 0) 210) one ((wh s) &&& ((wh s) ^^^ i))) other = true)
            · refine (ix_45 (S' := [(.inl 1)]) rfl (c_is_t (Nat.lt_trans (m_comes_lt (by omega)) (by decide)) (by omega) hb109) rfl rfl (ex_if1 (fun _ => ?_) (fun hc => by exfalso; revert hc; decide)))
              refine (ex_0 (ex_58 (ex_7_7 rfl (ex_4_7 (ex_if0 (fun _ => ?_) (fun hc => by exfalso; revert hc; decide))))))
              refine (ex_4_5 (ex_58 (ex_7_5 rfl (ex_4_7 (ex_if0 (fun _ => ?_) (fun hc => by exfalso; revert hc; decide))))))
              refine (ex_4_4 (ex_58 (ex_7_4 rfl (ex_10_6 ⟨by omega, by omega⟩ rfl (ex_28 ?_)))))
              rw [hsi.trans (if_neg (by rintro ⟨z1, z2, z3, z4, z5⟩; first | exact absurd z1 (by omega) | exact z2 hb69 | exact z3 hb78 | exact absurd z4 (by omega) | exact z5 hb109))] at hki
              exact hki (fun k => ([some (.inr (.inr (some 208))), some (.inl (one : Int)), some (.inl (other : Int)), some (.inl 0), some (.inl z.2), some (.inl z.1), some (.inl ((i : Int) + 1)), some (.inl 0)] : am_L).getD k none)
            · refine (ix_45 (S' := [(.inl 0)]) rfl (c_is_f (Nat.lt_trans (m_comes_lt (by omega)) (by decide)) (by omega) hb109) rfl rfl (ex_if1 (fun hc => by exfalso; revert hc; decide) (fun _ => ?_)))
              refine (ex_0 (ex_28 (ex_7_7 rfl (ex_4_7 (ex_if0 (fun hc => by exfalso; revert hc; decide) (fun _ => ?_))))))
              refine (ex_4_6 (ex_28 (ex_7_5 rfl (ex_4_7 (ex_if0 (fun hc => by exfalso; revert hc; decide) (fun _ => ?_))))))
              refine (ex_4_6 (ix_45 (S' := [(.inl (m_ones i))]) rfl (c_ones_e (s := i) (by omega)) rfl rfl (ex_28 (ex_7_4 rfl (ex_10_6 ⟨by omega, by omega⟩ rfl (ex_28 ?_))))))
              rw [hsi.trans (if_pos ⟨by omega, hb69, hb78, by omega, hb109⟩)] at hki
              exact hki (fun k => ([some (.inr (.inr (some 208))), some (.inl (one : Int)), some (.inl (other : Int)), some (.inl 0), some (.inl (m_ones i)), some (.inl (i : Int)), some (.inl ((i : Int) + 1)), some (.inl 1)] : am_L).getD k none)
  · intro z e_i hsi hvi
    refine (ex_4_6 (ex_0 ?_))
    refine ex_ic3 (fun hc51 => ?_) (fun hc51 => by exfalso; omega)
    refine (ex_4_5 (ex_0 ?_))
    refine ex_ic0 (fun hc162 => ?_) (fun hc162 => ?_)
    · refine (ex_4_5 (ex_28 ?_))
      exact ex_53 (by rw [show m_part ((am_u2 I 208 0 0) 210) s one other = z from hsi.symm]; rw [if_pos hc162]; rw [hc162])
    · refine (ex_4_3 (ex_0 (ex_ic1 (fun _ => ?_) (fun hc => by exfalso; revert hc; decide))))
      refine (ex_4_4 (ex_58 ?_))
      exact ex_53 (by rw [show m_part ((am_u2 I 208 0 0) 210) s one other = z from hsi.symm]; rw [if_neg hc162])
def m_lF (ρ : Nat → Int) (s need set : Nat) (z : Int × Int) : Int × Int := if set &&& (set ^^^ wh s) = 0 ∧ need &&& (need ^^^ set) = 0 ∧ m_ones set < z.2 ∧ (set = 0 ∨ m_comes ρ (m_low set) set = set) then ((set : Int), m_ones set) else z
def m_leave (ρ : Nat → Int) (s need : Nat) : Int × Int := am_it (fun set z => m_lF ρ s need set z) 64 0 (-1, 100000000)
theorem m_leave_b {d : Nat} {G : am_G} {I : Nat → Nat → Int} {P : Nat → Nat → Option Nat} (hS : ST G P) {w : Int} (hb : ¬ (0 ≤ w ∧ w ≤ 1)) : am_call am_B am_M (d + 4) 270 [(.inr (.inr (some 208))), (.inl w)] (G, I, P) = some (some (.inl (-1)), (G, (am_u2 I 208 0 0), P)) := by
  refine am_doL (L := [some (.inr (.inr (some 208))), some (.inl w), none, none, none, none, none]) (Nat.le_of_ble_eq_true rfl) rfl ?_
  refine (ex_6_0 (ex_0 (ix_42i (sh_208 hS) (ex_4_1 (ex_19 (ex_1 (ex_1 ?_)))))))
  have hb9 : ¬ (((0 : Int) ≤ w ∧ (w : Int) ≤ 1)) := by omega
  refine (ix_45 (S' := [(.inl 0)]) rfl (c_in_f hb9) rfl rfl (ex_if1 (fun hc => by exfalso; revert hc; decide) (fun _ => ?_)))
  refine (ex_0 ?_)
  exact ex_53 rfl
theorem m_leave_1 {d : Nat} {G : am_G} {I : Nat → Nat → Int} {P : Nat → Nat → Option Nat} (hS : ST G P) {need : Nat} (hn : need < 64) {s : Nat} (h8 : I 210 8 = (s : Int)) (hs : s < 64) (hH : ∀ d, am_call am_B am_M (d + 1) 268 [.inr (.inr (some 208))] (G, (am_u2 I 208 0 0), P) = some (some (.inl (need : Int)), (G, (am_u2 I 208 0 0), P))) : am_call am_B am_M (d + 4) 270 [(.inr (.inr (some 208))), (.inl 1)] (G, I, P) = some (some (.inl (m_leave ((am_u2 I 208 0 0) 210) s need).1), (G, (am_u2 I 208 0 0), P)) := by
  refine am_doL (L := [some (.inr (.inr (some 208))), some (.inl 1), none, none, none, none, none]) (Nat.le_of_ble_eq_true rfl) rfl ?_
  refine (ex_6_0 (ex_0 (ix_42i (sh_208 hS) (ex_4_1 (ex_19 (ex_1 (ex_1 ?_)))))))
  have hb9 : ((0 : Int) ≤ 1 ∧ (1 : Int) ≤ 1) := by omega
  refine (ix_45 (S' := [(.inl 1)]) rfl (c_in_t hb9) rfl rfl (ex_if1 (fun _ => ?_) (fun hc => by exfalso; revert hc; decide)))
  refine (ex_6_0 (ix_46 (S' := [(.inl (need : Int))]) rfl (sh_208 hS) (hH _) rfl rfl (ex_7_2 rfl (ex_0 (ex_7_3 rfl (ex_0 (ex_7_4 rfl (ex_0 (ex_7_5 rfl (ex_58 ?_))))))))))
  refine ex_forH (b := 3) (σ := Int × Int) (64) (fun i z => m_lF ((am_u2 I 208 0 0) 210) s need i z) (fun i z => -1 ≤ z.1 ∧ z.1 < 64) (fun i z e_i => [some (.inr (.inr (some 208))), some (.inl 1), some (.inl (need : Int)), some (.inl z.2), some (.inl z.1), some (.inl (i : Int)), (e_i 6)]) (fun i z => (G, (am_u2 I 208 0 0), P)) ?_ ?_ (64) (0) ((-1, 100000000)) (fun k => ([some (.inr (.inr (some 208))), some (.inl 1), some (.inl (need : Int)), some (.inl 100000000), some (.inl (-1)), some (.inl 0), none] : am_L).getD k none) (by omega) (⟨by decide, by decide⟩) rfl (rfl) ?_
  · intro i z hii hvi
    show -1 ≤ (m_lF ((am_u2 I 208 0 0) 210) s need i z).1 ∧ (m_lF ((am_u2 I 208 0 0) 210) s need i z).1 < 64
    unfold m_lF
    split
    · exact ⟨by show (-1 : Int) ≤ (i : Int); omega, by show (i : Int) < 64; omega⟩
    · exact hvi
  · intro i z e_i hii hvi z' hsi hki
    have hm := m_ones_b i
    have hl6 : ¬ i = 0 → m_low i < 6 := fun h => m_low_lt hii h
    refine (ex_4_5 (ex_0 ?_))
    refine ex_ic3 (fun hc36 => by exfalso; omega) (fun hc36 => ?_)
    refine (ex_4_5 (ex_6_0 (ix_46 (S' := [(.inl (((wh s) : Nat) : Int)), (.inl (i : Int))]) rfl (sh_208 hS) (c_whole_e hS ((u2_q (by decide)).trans h8) (by omega)) rfl rfl (ex_0 (ex_11e (am_not (a := (wh s)) (Nat.lt_trans wh_lt (by decide))) (ex_11e (am_andn (a := i) (b := (wh s)) (by omega) (Nat.lt_trans wh_lt (by decide))) ?_))))))
    refine ex_if1 (fun hc48 => ?_) (fun hc48 => ?_)
    · refine (ex_0 (ex_58 (ex_7_6 rfl (ex_4_6 (ex_if0 (fun _ => ?_) (fun hc => by exfalso; revert hc; decide))))))
      refine (ex_4_4 (ex_58 (ex_7_4 rfl (ex_4_6 (ex_if0 (fun _ => ?_) (fun hc => by exfalso; revert hc; decide))))))
      refine (ex_4_3 (ex_58 (ex_7_3 rfl (ex_10_5 ⟨by omega, by omega⟩ rfl (ex_28 ?_)))))
      rw [hsi.trans (if_neg (by rintro ⟨z1, z2, z3, z4⟩; omega))] at hki
      exact hki (fun k => ([some (.inr (.inr (some 208))), some (.inl 1), some (.inl (need : Int)), some (.inl z.2), some (.inl z.1), some (.inl ((i : Int) + 1)), some (.inl 0)] : am_L).getD k none)
    · refine (ex_4_2 (ex_4_5 (ex_0 (ex_11e (am_not (a := i) (by omega)) (ex_11e (am_andn (a := need) (b := i) (by omega) (by omega)) ?_)))))
      refine ex_if1 (fun hc57 => ?_) (fun hc57 => ?_)
      · refine (ex_0 (ex_58 (ex_7_6 rfl (ex_4_6 (ex_if0 (fun _ => ?_) (fun hc => by exfalso; revert hc; decide))))))
        refine (ex_4_4 (ex_58 (ex_7_4 rfl (ex_4_6 (ex_if0 (fun _ => ?_) (fun hc => by exfalso; revert hc; decide))))))
        refine (ex_4_3 (ex_58 (ex_7_3 rfl (ex_10_5 ⟨by omega, by omega⟩ rfl (ex_28 ?_)))))
        rw [hsi.trans (if_neg (by rintro ⟨z1, z2, z3, z4⟩; omega))] at hki
        exact hki (fun k => ([some (.inr (.inr (some 208))), some (.inl 1), some (.inl (need : Int)), some (.inl z.2), some (.inl z.1), some (.inl ((i : Int) + 1)), some (.inl 0)] : am_L).getD k none)
      · refine (ex_4_5 (ix_45 (S' := [(.inl (m_ones i))]) rfl (c_ones_e (s := i) (by omega)) rfl rfl (ex_4_3 ?_)))
        refine ex_ic3 (fun hc66 => ?_) (fun hc66 => ?_)
        · refine (ex_0 (ex_58 (ex_7_6 rfl (ex_4_6 (ex_if0 (fun _ => ?_) (fun hc => by exfalso; revert hc; decide))))))
          refine (ex_4_4 (ex_58 (ex_7_4 rfl (ex_4_6 (ex_if0 (fun _ => ?_) (fun hc => by exfalso; revert hc; decide))))))
          refine (ex_4_3 (ex_58 (ex_7_3 rfl (ex_10_5 ⟨by omega, by omega⟩ rfl (ex_28 ?_)))))
          rw [hsi.trans (if_neg (by rintro ⟨z1, z2, z3, z4⟩; omega))] at hki
          exact hki (fun k => ([some (.inr (.inr (some 208))), some (.inl 1), some (.inl (need : Int)), some (.inl z.2), some (.inl z.1), some (.inl ((i : Int) + 1)), some (.inl 0)] : am_L).getD k none)
        · refine (ex_4_5 ?_)
          refine ex_if0 (fun hc71 => ?_) (fun hc71 => ?_)
          · refine (ex_0 (ex_28 (ex_7_6 rfl (ex_4_6 (ex_if0 (fun hc => by exfalso; revert hc; decide) (fun _ => ?_))))))
            refine (ex_4_5 (ex_28 (ex_7_4 rfl (ex_4_6 (ex_if0 (fun hc => by exfalso; revert hc; decide) (fun _ => ?_))))))
            refine (ex_4_5 (ix_45 (S' := [(.inl (m_ones i))]) rfl (c_ones_e (s := i) (by omega)) rfl rfl (ex_28 (ex_7_3 rfl (ex_10_5 ⟨by omega, by omega⟩ rfl (ex_28 ?_))))))
            rw [hsi.trans (if_pos ⟨by omega, by omega, by omega, by omega⟩)] at hki
            exact hki (fun k => ([some (.inr (.inr (some 208))), some (.inl 1), some (.inl (need : Int)), some (.inl (m_ones i)), some (.inl (i : Int)), some (.inl ((i : Int) + 1)), some (.inl 1)] : am_L).getD k none)
          · refine (ex_6_0 (ex_4_5 (ix_45 (S' := [(.inl ((m_low i : Nat) : Int)), (.inr (.inr (some 208)))]) rfl (c_low (s := i) (by omega)) rfl rfl (ex_4_5 (ix_46 (S' := [(.inl ((m_comes ((am_u2 I 208 0 0) 210) (m_low i) i : Nat) : Int))]) rfl (sh_208 hS) (c_comesTo hS (from_ := (m_low i)) (over := i) (by omega) (by omega)) rfl rfl (ex_4_5 ?_))))))
            refine ex_ic1 (fun hc87 => ?_) (fun hc87 => ?_)
            · refine (ex_0 (ex_58 (ex_7_6 rfl (ex_4_6 (ex_if0 (fun _ => ?_) (fun hc => by exfalso; revert hc; decide))))))
              refine (ex_4_4 (ex_58 (ex_7_4 rfl (ex_4_6 (ex_if0 (fun _ => ?_) (fun hc => by exfalso; revert hc; decide))))))
              refine (ex_4_3 (ex_58 (ex_7_3 rfl (ex_10_5 ⟨by omega, by omega⟩ rfl (ex_28 ?_)))))
              rw [hsi.trans (if_neg (by rintro ⟨z1, z2, z3, z4⟩; omega))] at hki
              exact hki (fun k => ([some (.inr (.inr (some 208))), some (.inl 1), some (.inl (need : Int)), some (.inl z.2), some (.inl z.1), some (.inl ((i : Int) + 1)), some (.inl 0)] : am_L).getD k none)
            · refine (ex_0 (ex_28 (ex_7_6 rfl (ex_4_6 (ex_if0 (fun hc => by exfalso; revert hc; decide) (fun _ => ?_))))))
              refine (ex_4_5 (ex_28 (ex_7_4 rfl (ex_4_6 (ex_if0 (fun hc => by exfalso; revert hc; decide) (fun _ => ?_))))))
              refine (ex_4_5 (ix_45 (S' := [(.inl (m_ones i))]) rfl (c_ones_e (s := i) (by omega)) rfl rfl (ex_28 (ex_7_3 rfl (ex_10_5 ⟨by omega, by omega⟩ rfl (ex_28 ?_))))))
              rw [hsi.trans (if_pos ⟨by omega, by omega, by omega, by omega⟩)] at hki
              exact hki (fun k => ([some (.inr (.inr (some 208))), some (.inl 1), some (.inl (need : Int)), some (.inl (m_ones i)), some (.inl (i : Int)), some (.inl ((i : Int) + 1)), some (.inl 1)] : am_L).getD k none)
  · intro z e_i hsi hvi
    refine (ex_4_5 (ex_0 ?_))
    refine ex_ic3 (fun hc36 => ?_) (fun hc36 => by exfalso; omega)
    refine (ex_4_4 (ex_0 ?_))
    refine ex_ic0 (fun hc135 => ?_) (fun hc135 => ?_)
    · refine (ex_4_4 (ex_28 ?_))
      exact ex_53 (by rw [hsi]; rfl)
    · refine (ex_4_1 (ex_0 (ex_ic1 (fun hc => by exfalso; revert hc; decide) (fun _ => ?_))))
      refine (ex_4_4 (ex_28 ?_))
      exact ex_53 (by rw [hsi]; rfl)
theorem m_leave_0 {d : Nat} {G : am_G} {I : Nat → Nat → Int} {P : Nat → Nat → Option Nat} (hS : ST G P) {need : Nat} (hn : need < 64) {s : Nat} (h8 : I 210 8 = (s : Int)) (hs : s < 64) (hH : ∀ d, am_call am_B am_M (d + 1) 268 [.inr (.inr (some 208))] (G, (am_u2 I 208 0 0), P) = some (some (.inl (need : Int)), (G, (am_u2 I 208 0 0), P))) : am_call am_B am_M (d + 4) 270 [(.inr (.inr (some 208))), (.inl 0)] (G, I, P) = some (some (.inl (if (m_leave ((am_u2 I 208 0 0) 210) s need).1 = -1 then -1 else (m_leave ((am_u2 I 208 0 0) 210) s need).2)), (G, (am_u2 I 208 0 0), P)) := by
  refine am_doL (L := [some (.inr (.inr (some 208))), some (.inl 0), none, none, none, none, none]) (Nat.le_of_ble_eq_true rfl) rfl ?_
  refine (ex_6_0 (ex_0 (ix_42i (sh_208 hS) (ex_4_1 (ex_19 (ex_1 (ex_1 ?_)))))))
  have hb9 : ((0 : Int) ≤ 0 ∧ (0 : Int) ≤ 1) := by omega
  refine (ix_45 (S' := [(.inl 1)]) rfl (c_in_t hb9) rfl rfl (ex_if1 (fun _ => ?_) (fun hc => by exfalso; revert hc; decide)))
  refine (ex_6_0 (ix_46 (S' := [(.inl (need : Int))]) rfl (sh_208 hS) (hH _) rfl rfl (ex_7_2 rfl (ex_0 (ex_7_3 rfl (ex_0 (ex_7_4 rfl (ex_0 (ex_7_5 rfl (ex_58 ?_))))))))))
  refine ex_forH (b := 3) (σ := Int × Int) (64) (fun i z => m_lF ((am_u2 I 208 0 0) 210) s need i z) (fun i z => -1 ≤ z.1 ∧ z.1 < 64) (fun i z e_i => [some (.inr (.inr (some 208))), some (.inl 0), some (.inl (need : Int)), some (.inl z.2), some (.inl z.1), some (.inl (i : Int)), (e_i 6)]) (fun i z => (G, (am_u2 I 208 0 0), P)) ?_ ?_ (64) (0) ((-1, 100000000)) (fun k => ([some (.inr (.inr (some 208))), some (.inl 0), some (.inl (need : Int)), some (.inl 100000000), some (.inl (-1)), some (.inl 0), none] : am_L).getD k none) (by omega) (⟨by decide, by decide⟩) rfl (rfl) ?_
  · intro i z hii hvi
    show -1 ≤ (m_lF ((am_u2 I 208 0 0) 210) s need i z).1 ∧ (m_lF ((am_u2 I 208 0 0) 210) s need i z).1 < 64
    unfold m_lF
    split
    · exact ⟨by show (-1 : Int) ≤ (i : Int); omega, by show (i : Int) < 64; omega⟩
    · exact hvi
  · intro i z e_i hii hvi z' hsi hki
    have hm := m_ones_b i
    have hl6 : ¬ i = 0 → m_low i < 6 := fun h => m_low_lt hii h
    refine (ex_4_5 (ex_0 ?_))
    refine ex_ic3 (fun hc36 => by exfalso; omega) (fun hc36 => ?_)
    refine (ex_4_5 (ex_6_0 (ix_46 (S' := [(.inl (((wh s) : Nat) : Int)), (.inl (i : Int))]) rfl (sh_208 hS) (c_whole_e hS ((u2_q (by decide)).trans h8) (by omega)) rfl rfl (ex_0 (ex_11e (am_not (a := (wh s)) (Nat.lt_trans wh_lt (by decide))) (ex_11e (am_andn (a := i) (b := (wh s)) (by omega) (Nat.lt_trans wh_lt (by decide))) ?_))))))
    refine ex_if1 (fun hc48 => ?_) (fun hc48 => ?_)
    · refine (ex_0 (ex_58 (ex_7_6 rfl (ex_4_6 (ex_if0 (fun _ => ?_) (fun hc => by exfalso; revert hc; decide))))))
      refine (ex_4_4 (ex_58 (ex_7_4 rfl (ex_4_6 (ex_if0 (fun _ => ?_) (fun hc => by exfalso; revert hc; decide))))))
      refine (ex_4_3 (ex_58 (ex_7_3 rfl (ex_10_5 ⟨by omega, by omega⟩ rfl (ex_28 ?_)))))
      rw [hsi.trans (if_neg (by rintro ⟨z1, z2, z3, z4⟩; omega))] at hki
      exact hki (fun k => ([some (.inr (.inr (some 208))), some (.inl 0), some (.inl (need : Int)), some (.inl z.2), some (.inl z.1), some (.inl ((i : Int) + 1)), some (.inl 0)] : am_L).getD k none)
    · refine (ex_4_2 (ex_4_5 (ex_0 (ex_11e (am_not (a := i) (by omega)) (ex_11e (am_andn (a := need) (b := i) (by omega) (by omega)) ?_)))))
      refine ex_if1 (fun hc57 => ?_) (fun hc57 => ?_)
      · refine (ex_0 (ex_58 (ex_7_6 rfl (ex_4_6 (ex_if0 (fun _ => ?_) (fun hc => by exfalso; revert hc; decide))))))
        refine (ex_4_4 (ex_58 (ex_7_4 rfl (ex_4_6 (ex_if0 (fun _ => ?_) (fun hc => by exfalso; revert hc; decide))))))
        refine (ex_4_3 (ex_58 (ex_7_3 rfl (ex_10_5 ⟨by omega, by omega⟩ rfl (ex_28 ?_)))))
        rw [hsi.trans (if_neg (by rintro ⟨z1, z2, z3, z4⟩; omega))] at hki
        exact hki (fun k => ([some (.inr (.inr (some 208))), some (.inl 0), some (.inl (need : Int)), some (.inl z.2), some (.inl z.1), some (.inl ((i : Int) + 1)), some (.inl 0)] : am_L).getD k none)
      · refine (ex_4_5 (ix_45 (S' := [(.inl (m_ones i))]) rfl (c_ones_e (s := i) (by omega)) rfl rfl (ex_4_3 ?_)))
        refine ex_ic3 (fun hc66 => ?_) (fun hc66 => ?_)
        · refine (ex_0 (ex_58 (ex_7_6 rfl (ex_4_6 (ex_if0 (fun _ => ?_) (fun hc => by exfalso; revert hc; decide))))))
          refine (ex_4_4 (ex_58 (ex_7_4 rfl (ex_4_6 (ex_if0 (fun _ => ?_) (fun hc => by exfalso; revert hc; decide))))))
          refine (ex_4_3 (ex_58 (ex_7_3 rfl (ex_10_5 ⟨by omega, by omega⟩ rfl (ex_28 ?_)))))
          rw [hsi.trans (if_neg (by rintro ⟨z1, z2, z3, z4⟩; omega))] at hki
          exact hki (fun k => ([some (.inr (.inr (some 208))), some (.inl 0), some (.inl (need : Int)), some (.inl z.2), some (.inl z.1), some (.inl ((i : Int) + 1)), some (.inl 0)] : am_L).getD k none)
        · refine (ex_4_5 ?_)
          refine ex_if0 (fun hc71 => ?_) (fun hc71 => ?_)
          · refine (ex_0 (ex_28 (ex_7_6 rfl (ex_4_6 (ex_if0 (fun hc => by exfalso; revert hc; decide) (fun _ => ?_))))))
            refine (ex_4_5 (ex_28 (ex_7_4 rfl (ex_4_6 (ex_if0 (fun hc => by exfalso; revert hc; decide) (fun _ => ?_))))))
            refine (ex_4_5 (ix_45 (S' := [(.inl (m_ones i))]) rfl (c_ones_e (s := i) (by omega)) rfl rfl (ex_28 (ex_7_3 rfl (ex_10_5 ⟨by omega, by omega⟩ rfl (ex_28 ?_))))))
            rw [hsi.trans (if_pos ⟨by omega, by omega, by omega, by omega⟩)] at hki
            exact hki (fun k => ([some (.inr (.inr (some 208))), some (.inl 0), some (.inl (need : Int)), some (.inl (m_ones i)), some (.inl (i : Int)), some (.inl ((i : Int) + 1)), some (.inl 1)] : am_L).getD k none)
          · refine (ex_6_0 (ex_4_5 (ix_45 (S' := [(.inl ((m_low i : Nat) : Int)), (.inr (.inr (some 208)))]) rfl (c_low (s := i) (by omega)) rfl rfl (ex_4_5 (ix_46 (S' := [(.inl ((m_comes ((am_u2 I 208 0 0) 210) (m_low i) i : Nat) : Int))]) rfl (sh_208 hS) (c_comesTo hS (from_ := (m_low i)) (over := i) (by omega) (by omega)) rfl rfl (ex_4_5 ?_))))))
            refine ex_ic1 (fun hc87 => ?_) (fun hc87 => ?_)
            · refine (ex_0 (ex_58 (ex_7_6 rfl (ex_4_6 (ex_if0 (fun _ => ?_) (fun hc => by exfalso; revert hc; decide))))))
              refine (ex_4_4 (ex_58 (ex_7_4 rfl (ex_4_6 (ex_if0 (fun _ => ?_) (fun hc => by exfalso; revert hc; decide))))))
              refine (ex_4_3 (ex_58 (ex_7_3 rfl (ex_10_5 ⟨by omega, by omega⟩ rfl (ex_28 ?_)))))
              rw [hsi.trans (if_neg (by rintro ⟨z1, z2, z3, z4⟩; omega))] at hki
              exact hki (fun k => ([some (.inr (.inr (some 208))), some (.inl 0), some (.inl (need : Int)), some (.inl z.2), some (.inl z.1), some (.inl ((i : Int) + 1)), some (.inl 0)] : am_L).getD k none)
            · refine (ex_0 (ex_28 (ex_7_6 rfl (ex_4_6 (ex_if0 (fun hc => by exfalso; revert hc; decide) (fun _ => ?_))))))
              refine (ex_4_5 (ex_28 (ex_7_4 rfl (ex_4_6 (ex_if0 (fun hc => by exfalso; revert hc; decide) (fun _ => ?_))))))
              refine (ex_4_5 (ix_45 (S' := [(.inl (m_ones i))]) rfl (c_ones_e (s := i) (by omega)) rfl rfl (ex_28 (ex_7_3 rfl (ex_10_5 ⟨by omega, by omega⟩ rfl (ex_28 ?_))))))
              rw [hsi.trans (if_pos ⟨by omega, by omega, by omega, by omega⟩)] at hki
              exact hki (fun k => ([some (.inr (.inr (some 208))), some (.inl 0), some (.inl (need : Int)), some (.inl (m_ones i)), some (.inl (i : Int)), some (.inl ((i : Int) + 1)), some (.inl 1)] : am_L).getD k none)
  · intro z e_i hsi hvi
    refine (ex_4_5 (ex_0 ?_))
    refine ex_ic3 (fun hc36 => ?_) (fun hc36 => by exfalso; omega)
    refine (ex_4_4 (ex_0 ?_))
    refine ex_ic0 (fun hc135 => ?_) (fun hc135 => ?_)
    · refine (ex_4_4 (ex_28 ?_))
      exact ex_53 (by rw [show m_leave ((am_u2 I 208 0 0) 210) s need = z from hsi.symm]; rw [if_pos hc135]; rw [hc135])
    · refine (ex_4_1 (ex_0 (ex_ic1 (fun _ => ?_) (fun hc => by exfalso; revert hc; decide))))
      refine (ex_4_3 (ex_58 ?_))
      exact ex_53 (by rw [show m_leave ((am_u2 I 208 0 0) 210) s need = z from hsi.symm]; rw [if_neg hc135])
theorem m_count_0 {d : Nat} {G : am_G} {I : Nat → Nat → Int} {P : Nat → Nat → Option Nat} (hS : ST G P) : am_call am_B am_M (d + 2) 285 [(.inr (.inr (some 208))), (.inl 0)] (G, I, P) = some (some (.inl (I 210 0)), (G, (am_u2 I 208 0 0), P)) := by
  refine am_doL (L := [some (.inr (.inr (some 208))), some (.inl 0)]) (Nat.le_of_ble_eq_true rfl) rfl ?_
  refine (ex_6_0 (ex_0 (ix_42i (sh_208 hS) (ex_4_1 (ex_29i 0 rfl rfl (ex_6_0 (ix_41r (sh_208 hS) (pt_208_3 hS) (ex_0 (ix_30 (j := 0) (sh_210 hS) (by decide) (by decide) rfl (u2_q (by decide)) ?_)))))))))
  exact ex_53 rfl
theorem m_count_1 {d : Nat} {G : am_G} {I : Nat → Nat → Int} {P : Nat → Nat → Option Nat} (hS : ST G P) : am_call am_B am_M (d + 2) 285 [(.inr (.inr (some 208))), (.inl 1)] (G, I, P) = some (some (.inl (I 210 1)), (G, (am_u2 I 208 0 0), P)) := by
  refine am_doL (L := [some (.inr (.inr (some 208))), some (.inl 1)]) (Nat.le_of_ble_eq_true rfl) rfl ?_
  refine (ex_6_0 (ex_0 (ix_42i (sh_208 hS) (ex_4_1 (ex_29i 1 rfl rfl (ex_6_0 (ix_41r (sh_208 hS) (pt_208_3 hS) (ex_0 (ix_30 (j := 1) (sh_210 hS) (by decide) (by decide) rfl (u2_q (by decide)) ?_)))))))))
  exact ex_53 rfl
theorem m_count_2 {d : Nat} {G : am_G} {I : Nat → Nat → Int} {P : Nat → Nat → Option Nat} (hS : ST G P) : am_call am_B am_M (d + 2) 285 [(.inr (.inr (some 208))), (.inl 2)] (G, I, P) = some (some (.inl (I 210 8)), (G, (am_u2 I 208 0 0), P)) := by
  refine am_doL (L := [some (.inr (.inr (some 208))), some (.inl 2)]) (Nat.le_of_ble_eq_true rfl) rfl ?_
  refine (ex_6_0 (ex_0 (ix_42i (sh_208 hS) (ex_4_1 (ex_29i 2 rfl rfl (ex_6_0 (ix_41r (sh_208 hS) (pt_208_3 hS) (ex_0 (ix_30 (j := 8) (sh_210 hS) (by decide) (by decide) rfl (u2_q (by decide)) ?_)))))))))
  exact ex_53 rfl
theorem m_count_5 {d : Nat} {G : am_G} {I : Nat → Nat → Int} {P : Nat → Nat → Option Nat} (hS : ST G P) : am_call am_B am_M (d + 2) 285 [(.inr (.inr (some 208))), (.inl 5)] (G, I, P) = some (some (.inl (I 210 2)), (G, (am_u2 I 208 0 0), P)) := by
  refine am_doL (L := [some (.inr (.inr (some 208))), some (.inl 5)]) (Nat.le_of_ble_eq_true rfl) rfl ?_
  refine (ex_6_0 (ex_0 (ix_42i (sh_208 hS) (ex_4_1 (ex_29i 5 rfl rfl (ex_6_0 (ix_41r (sh_208 hS) (pt_208_3 hS) (ex_0 (ix_30 (j := 2) (sh_210 hS) (by decide) (by decide) rfl (u2_q (by decide)) ?_)))))))))
  exact ex_53 rfl
theorem m_count_6 {d : Nat} {G : am_G} {I : Nat → Nat → Int} {P : Nat → Nat → Option Nat} (hS : ST G P) : am_call am_B am_M (d + 2) 285 [(.inr (.inr (some 208))), (.inl 6)] (G, I, P) = some (some (.inl (I 210 3)), (G, (am_u2 I 208 0 0), P)) := by
  refine am_doL (L := [some (.inr (.inr (some 208))), some (.inl 6)]) (Nat.le_of_ble_eq_true rfl) rfl ?_
  refine (ex_6_0 (ex_0 (ix_42i (sh_208 hS) (ex_4_1 (ex_29i 6 rfl rfl (ex_6_0 (ix_41r (sh_208 hS) (pt_208_3 hS) (ex_0 (ix_30 (j := 3) (sh_210 hS) (by decide) (by decide) rfl (u2_q (by decide)) ?_)))))))))
  exact ex_53 rfl
theorem m_count_7 {d : Nat} {G : am_G} {I : Nat → Nat → Int} {P : Nat → Nat → Option Nat} (hS : ST G P) : am_call am_B am_M (d + 2) 285 [(.inr (.inr (some 208))), (.inl 7)] (G, I, P) = some (some (.inl (I 208 8)), (G, (am_u2 I 208 0 0), P)) := by
  refine am_doL (L := [some (.inr (.inr (some 208))), some (.inl 7)]) (Nat.le_of_ble_eq_true rfl) rfl ?_
  refine (ex_6_0 (ex_0 (ix_42i (sh_208 hS) (ex_4_1 (ex_29i 7 rfl rfl (ex_6_0 (ix_41i (sh_208 hS) (u2_k (by decide)) ?_)))))))
  exact ex_53 rfl
theorem m_count_8 {d : Nat} {G : am_G} {I : Nat → Nat → Int} {P : Nat → Nat → Option Nat} (hS : ST G P) : am_call am_B am_M (d + 2) 285 [(.inr (.inr (some 208))), (.inl 8)] (G, I, P) = some (some (.inl (I 208 13)), (G, (am_u2 I 208 0 0), P)) := by
  refine am_doL (L := [some (.inr (.inr (some 208))), some (.inl 8)]) (Nat.le_of_ble_eq_true rfl) rfl ?_
  refine (ex_6_0 (ex_0 (ix_42i (sh_208 hS) (ex_4_1 (ex_29i 8 rfl rfl (ex_6_0 (ix_41i (sh_208 hS) (u2_k (by decide)) ?_)))))))
  exact ex_53 rfl
theorem m_count_9 {d : Nat} {G : am_G} {I : Nat → Nat → Int} {P : Nat → Nat → Option Nat} (hS : ST G P) : am_call am_B am_M (d + 2) 285 [(.inr (.inr (some 208))), (.inl 9)] (G, I, P) = some (some (.inl (I 209 1)), (G, (am_u2 I 208 0 0), P)) := by
  refine am_doL (L := [some (.inr (.inr (some 208))), some (.inl 9)]) (Nat.le_of_ble_eq_true rfl) rfl ?_
  refine (ex_6_0 (ex_0 (ix_42i (sh_208 hS) (ex_4_1 (ex_29i 9 rfl rfl (ex_6_0 (ix_41r (sh_208 hS) (pt_208_2 hS) (ex_0 (ix_30 (j := 1) (sh_209 hS) (by decide) (by decide) rfl (u2_q (by decide)) ?_)))))))))
  exact ex_53 rfl
theorem m_count_10 {d : Nat} {G : am_G} {I : Nat → Nat → Int} {P : Nat → Nat → Option Nat} (hS : ST G P) : am_call am_B am_M (d + 2) 285 [(.inr (.inr (some 208))), (.inl 10)] (G, I, P) = some (some (.inl (I 209 2)), (G, (am_u2 I 208 0 0), P)) := by
  refine am_doL (L := [some (.inr (.inr (some 208))), some (.inl 10)]) (Nat.le_of_ble_eq_true rfl) rfl ?_
  refine (ex_6_0 (ex_0 (ix_42i (sh_208 hS) (ex_4_1 (ex_29i 10 rfl rfl (ex_6_0 (ix_41r (sh_208 hS) (pt_208_2 hS) (ex_0 (ix_30 (j := 2) (sh_209 hS) (by decide) (by decide) rfl (u2_q (by decide)) ?_)))))))))
  exact ex_53 rfl
theorem m_count_11 {d : Nat} {G : am_G} {I : Nat → Nat → Int} {P : Nat → Nat → Option Nat} (hS : ST G P) : am_call am_B am_M (d + 2) 285 [(.inr (.inr (some 208))), (.inl 11)] (G, I, P) = some (some (.inl (I 209 3)), (G, (am_u2 I 208 0 0), P)) := by
  refine am_doL (L := [some (.inr (.inr (some 208))), some (.inl 11)]) (Nat.le_of_ble_eq_true rfl) rfl ?_
  refine (ex_6_0 (ex_0 (ix_42i (sh_208 hS) (ex_4_1 (ex_29i 11 rfl rfl (ex_6_0 (ix_41r (sh_208 hS) (pt_208_2 hS) (ex_0 (ix_30 (j := 3) (sh_209 hS) (by decide) (by decide) rfl (u2_q (by decide)) ?_)))))))))
  exact ex_53 rfl
theorem m_count_12 {d : Nat} {G : am_G} {I : Nat → Nat → Int} {P : Nat → Nat → Option Nat} (hS : ST G P) : am_call am_B am_M (d + 2) 285 [(.inr (.inr (some 208))), (.inl 12)] (G, I, P) = some (some (.inl (I 209 5)), (G, (am_u2 I 208 0 0), P)) := by
  refine am_doL (L := [some (.inr (.inr (some 208))), some (.inl 12)]) (Nat.le_of_ble_eq_true rfl) rfl ?_
  refine (ex_6_0 (ex_0 (ix_42i (sh_208 hS) (ex_4_1 (ex_29i 12 rfl rfl (ex_6_0 (ix_41r (sh_208 hS) (pt_208_2 hS) (ex_0 (ix_30 (j := 5) (sh_209 hS) (by decide) (by decide) rfl (u2_q (by decide)) ?_)))))))))
  exact ex_53 rfl
theorem m_count_13 {d : Nat} {G : am_G} {I : Nat → Nat → Int} {P : Nat → Nat → Option Nat} (hS : ST G P) : am_call am_B am_M (d + 2) 285 [(.inr (.inr (some 208))), (.inl 13)] (G, I, P) = some (some (.inl (I 209 6)), (G, (am_u2 I 208 0 0), P)) := by
  refine am_doL (L := [some (.inr (.inr (some 208))), some (.inl 13)]) (Nat.le_of_ble_eq_true rfl) rfl ?_
  refine (ex_6_0 (ex_0 (ix_42i (sh_208 hS) (ex_4_1 (ex_29i 13 rfl rfl (ex_6_0 (ix_41r (sh_208 hS) (pt_208_2 hS) (ex_0 (ix_30 (j := 6) (sh_209 hS) (by decide) (by decide) rfl (u2_q (by decide)) ?_)))))))))
  exact ex_53 rfl
theorem m_count_14 {d : Nat} {G : am_G} {I : Nat → Nat → Int} {P : Nat → Nat → Option Nat} (hS : ST G P) : am_call am_B am_M (d + 2) 285 [(.inr (.inr (some 208))), (.inl 14)] (G, I, P) = some (some (.inl (I 210 4)), (G, (am_u2 I 208 0 0), P)) := by
  refine am_doL (L := [some (.inr (.inr (some 208))), some (.inl 14)]) (Nat.le_of_ble_eq_true rfl) rfl ?_
  refine (ex_6_0 (ex_0 (ix_42i (sh_208 hS) (ex_4_1 (ex_29i 14 rfl rfl (ex_6_0 (ix_41r (sh_208 hS) (pt_208_3 hS) (ex_0 (ix_30 (j := 4) (sh_210 hS) (by decide) (by decide) rfl (u2_q (by decide)) ?_)))))))))
  exact ex_53 rfl
theorem m_count_15 {d : Nat} {G : am_G} {I : Nat → Nat → Int} {P : Nat → Nat → Option Nat} (hS : ST G P) : am_call am_B am_M (d + 2) 285 [(.inr (.inr (some 208))), (.inl 15)] (G, I, P) = some (some (.inl (I 210 5)), (G, (am_u2 I 208 0 0), P)) := by
  refine am_doL (L := [some (.inr (.inr (some 208))), some (.inl 15)]) (Nat.le_of_ble_eq_true rfl) rfl ?_
  refine (ex_6_0 (ex_0 (ix_42i (sh_208 hS) (ex_4_1 (ex_29o (by decide) (ex_4_1 (ex_19 (ex_1 (ex_1 ?_)))))))))
  have hb191 : ((15 : Int) ≤ 15 ∧ (15 : Int) ≤ 17) := by omega
  refine (ix_45 (S' := [(.inl 1)]) rfl (c_in_t hb191) rfl rfl (ex_if0 (fun hc => by exfalso; revert hc; decide) (fun _ => ?_)))
  refine (ex_6_0 (ix_41r (sh_208 hS) (pt_208_3 hS) (ex_0 (ex_4_1 (ex_11e (v := 20) (by decide) (ex_0 (ex_11e (v := 5) (by decide) (ix_30 (j := 5) (sh_210 hS) (by decide) (by decide) rfl (u2_q (by decide)) (ex_28 ?_)))))))))
  exact ex_53 rfl
theorem m_count_16 {d : Nat} {G : am_G} {I : Nat → Nat → Int} {P : Nat → Nat → Option Nat} (hS : ST G P) : am_call am_B am_M (d + 2) 285 [(.inr (.inr (some 208))), (.inl 16)] (G, I, P) = some (some (.inl (I 210 6)), (G, (am_u2 I 208 0 0), P)) := by
  refine am_doL (L := [some (.inr (.inr (some 208))), some (.inl 16)]) (Nat.le_of_ble_eq_true rfl) rfl ?_
  refine (ex_6_0 (ex_0 (ix_42i (sh_208 hS) (ex_4_1 (ex_29o (by decide) (ex_4_1 (ex_19 (ex_1 (ex_1 ?_)))))))))
  have hb191 : ((15 : Int) ≤ 16 ∧ (16 : Int) ≤ 17) := by omega
  refine (ix_45 (S' := [(.inl 1)]) rfl (c_in_t hb191) rfl rfl (ex_if0 (fun hc => by exfalso; revert hc; decide) (fun _ => ?_)))
  refine (ex_6_0 (ix_41r (sh_208 hS) (pt_208_3 hS) (ex_0 (ex_4_1 (ex_11e (v := 21) (by decide) (ex_0 (ex_11e (v := 6) (by decide) (ix_30 (j := 6) (sh_210 hS) (by decide) (by decide) rfl (u2_q (by decide)) (ex_28 ?_)))))))))
  exact ex_53 rfl
theorem m_count_17 {d : Nat} {G : am_G} {I : Nat → Nat → Int} {P : Nat → Nat → Option Nat} (hS : ST G P) : am_call am_B am_M (d + 2) 285 [(.inr (.inr (some 208))), (.inl 17)] (G, I, P) = some (some (.inl (I 210 7)), (G, (am_u2 I 208 0 0), P)) := by
  refine am_doL (L := [some (.inr (.inr (some 208))), some (.inl 17)]) (Nat.le_of_ble_eq_true rfl) rfl ?_
  refine (ex_6_0 (ex_0 (ix_42i (sh_208 hS) (ex_4_1 (ex_29o (by decide) (ex_4_1 (ex_19 (ex_1 (ex_1 ?_)))))))))
  have hb191 : ((15 : Int) ≤ 17 ∧ (17 : Int) ≤ 17) := by omega
  refine (ix_45 (S' := [(.inl 1)]) rfl (c_in_t hb191) rfl rfl (ex_if0 (fun hc => by exfalso; revert hc; decide) (fun _ => ?_)))
  refine (ex_6_0 (ix_41r (sh_208 hS) (pt_208_3 hS) (ex_0 (ex_4_1 (ex_11e (v := 22) (by decide) (ex_0 (ex_11e (v := 7) (by decide) (ix_30 (j := 7) (sh_210 hS) (by decide) (by decide) rfl (u2_q (by decide)) (ex_28 ?_)))))))))
  exact ex_53 rfl
theorem m_count_o {d : Nat} {G : am_G} {I : Nat → Nat → Int} {P : Nat → Nat → Option Nat} (hS : ST G P) {w : Int} (hw : ¬ (0 ≤ w ∧ w ≤ 17)) : am_call am_B am_M (d + 2) 285 [(.inr (.inr (some 208))), (.inl w)] (G, I, P) = some (some (.inl (-1)), (G, (am_u2 I 208 0 0), P)) := by
  refine am_doL (L := [some (.inr (.inr (some 208))), some (.inl w)]) (Nat.le_of_ble_eq_true rfl) rfl ?_
  refine (ex_6_0 (ex_0 (ix_42i (sh_208 hS) (ex_4_1 (ex_29o (by simp only [List.length_cons, List.length_nil]; omega) (ex_4_1 (ex_19 (ex_1 (ex_1 ?_)))))))))
  have hb191 : ¬ (((15 : Int) ≤ w ∧ (w : Int) ≤ 17)) := by omega
  refine (ix_45 (S' := [(.inl 0)]) rfl (c_in_f hb191) rfl rfl (ex_if0 (fun _ => ?_) (fun hc => by exfalso; revert hc; decide)))
  refine (ex_0 (ex_58 ?_))
  exact ex_53 rfl
theorem m_count_3 {d : Nat} {G : am_G} {I : Nat → Nat → Int} {P : Nat → Nat → Option Nat} (hS : ST G P) {F : Nat} (hF1 : (am_u2 I 208 0 0) 210 1 = (F : Int)) (hF5 : F ≤ 5) (hFb : ∀ i, i < F → 0 ≤ (am_u2 I 208 0 0) 210 (25 + i) ∧ (am_u2 I 208 0 0) 210 (25 + i) ≤ 999) : am_call am_B am_M (d + 2) 285 [(.inr (.inr (some 208))), (.inl 3)] (G, I, P) = some (some (.inl (m_sum ((am_u2 I 208 0 0) 210) 25 F)), (G, (am_u2 I 208 0 0), P)) := by
  refine am_doL (L := [some (.inr (.inr (some 208))), some (.inl 3)]) (Nat.le_of_ble_eq_true rfl) rfl ?_
  refine (ex_6_0 (ex_0 (ix_42i (sh_208 hS) (ex_4_1 (ex_29i 3 rfl rfl (ex_6_0 (ex_0 (ix_46 (S' := [(.inl (m_sum ((am_u2 I 208 0 0) 210) 25 F))]) rfl (sh_208 hS) (c_sumOfFolk hS (a := 25) hF1 hF5 (by decide) hFb) rfl rfl ?_))))))))
  exact ex_53 rfl
theorem m_count_4 {d : Nat} {G : am_G} {I : Nat → Nat → Int} {P : Nat → Nat → Option Nat} (hS : ST G P) {F : Nat} (hF1 : (am_u2 I 208 0 0) 210 1 = (F : Int)) (hF5 : F ≤ 5) (hFb : ∀ i, i < F → 0 ≤ (am_u2 I 208 0 0) 210 (20 + i) ∧ (am_u2 I 208 0 0) 210 (20 + i) ≤ 999) : am_call am_B am_M (d + 2) 285 [(.inr (.inr (some 208))), (.inl 4)] (G, I, P) = some (some (.inl (m_sum ((am_u2 I 208 0 0) 210) 20 F)), (G, (am_u2 I 208 0 0), P)) := by
  refine am_doL (L := [some (.inr (.inr (some 208))), some (.inl 4)]) (Nat.le_of_ble_eq_true rfl) rfl ?_
  refine (ex_6_0 (ex_0 (ix_42i (sh_208 hS) (ex_4_1 (ex_29i 4 rfl rfl (ex_6_0 (ex_0 (ix_46 (S' := [(.inl (m_sum ((am_u2 I 208 0 0) 210) 20 F))]) rfl (sh_208 hS) (c_sumOfFolk hS (a := 20) hF1 hF5 (by decide) hFb) rfl rfl ?_))))))))
  exact ex_53 rfl
theorem c_isLaw_T {d : Nat} {G : am_G} {I : Nat → Nat → Int} {P : Nat → Nat → Option Nat} (hS : ST G P) {w n : Int} (hn : I 210 3 = n) (h3 : 0 ≤ n ∧ n ≤ 6) (hb : w = -1 ∨ (0 ≤ w ∧ w < n)) : am_call am_B am_M (d + 2) 225 [.inr (.inr (some 208)), .inl w] (G, I, P) = some (some (.inl 1), (G, I, P)) := by
  subst hn; exact c_isLaw_t hS h3 hb
theorem c_isLaw_F {d : Nat} {G : am_G} {I : Nat → Nat → Int} {P : Nat → Nat → Option Nat} (hS : ST G P) {w n : Int} (hn : I 210 3 = n) (h3 : 0 ≤ n ∧ n ≤ 6) (hb : ¬ (w = -1 ∨ (0 ≤ w ∧ w < n))) : am_call am_B am_M (d + 2) 225 [.inr (.inr (some 208)), .inl w] (G, I, P) = some (some (.inl 0), (G, I, P)) := by
  subst hn; exact c_isLaw_f hS h3 hb
theorem m_force {d : Nat} {G : am_G} {I : Nat → Nat → Int} {P : Nat → Nat → Option Nat} (hS : ST G P) {w : Int} (h3 : 0 ≤ I 210 3 ∧ I 210 3 ≤ 6) (hb : w = -1 ∨ (0 ≤ w ∧ w < I 210 3)) : am_call am_B am_M (d + 3) 226 [(.inr (.inr (some 208))), (.inl w)] (G, I, P) = some (some (.inl (I 210 4)), (G, (am_u2 (am_u2 (am_u2 I 208 0 0) 210 4 w) 208 1 0), P)) := by
  refine am_doL (L := [some (.inr (.inr (some 208))), some (.inl w)]) (Nat.le_of_ble_eq_true rfl) rfl ?_
  refine (ex_6_0 (ex_0 (ix_42i (sh_208 hS) (ex_6_0 (ex_4_1 ?_)))))
  have hb7 : (w = -1 ∨ (0 ≤ w ∧ w < (I 210 3))) := by omega
  refine (ix_46 (S' := [(.inl 1)]) rfl (sh_208 hS) (c_isLaw_T hS (u2_q (by decide)) (by omega) hb7) rfl rfl (ex_if0 (fun hc => by exfalso; revert hc; decide) (fun _ => ?_)))
  refine (ex_6_0 (ex_0 (ex_4_1 (ix_46 (S' := [(.inl (I 210 4))]) rfl (sh_208 hS) (c_change_e hS (k := 4) (by omega) (u2_q (by decide))) rfl rfl (ex_28 ?_)))))
  exact ex_53 rfl
theorem m_force_b {d : Nat} {G : am_G} {I : Nat → Nat → Int} {P : Nat → Nat → Option Nat} (hS : ST G P) {w : Int} (h3 : 0 ≤ I 210 3 ∧ I 210 3 ≤ 6) (hb : ¬ (w = -1 ∨ (0 ≤ w ∧ w < I 210 3))) (hR2 : 0 ≤ I 209 2 ∧ I 209 2 ≤ 1000000) : am_call am_B am_M (d + 3) 226 [(.inr (.inr (some 208))), (.inl w)] (G, I, P) = some (some (.inl (-2)), (G, am_u2 (am_u2 (am_u2 I 208 0 0) 208 1 (-2)) 209 2 (I 209 2 + 1), P)) := by
  refine am_doL (L := [some (.inr (.inr (some 208))), some (.inl w)]) (Nat.le_of_ble_eq_true rfl) rfl ?_
  refine (ex_6_0 (ex_0 (ix_42i (sh_208 hS) (ex_6_0 (ex_4_1 ?_)))))
  have hb7 : ¬ ((w = -1 ∨ (0 ≤ w ∧ w < (I 210 3)))) := by omega
  refine (ix_46 (S' := [(.inl 0)]) rfl (sh_208 hS) (c_isLaw_F hS (u2_q (by decide)) (by omega) hb7) rfl rfl (ex_if0 (fun _ => ?_) (fun hc => by exfalso; revert hc; decide)))
  refine (ex_6_0 (ex_0 (ix_46 (S' := [(.inl (-2))]) rfl (sh_208 hS) (c_tell_c hS (k := 2) (by decide) (by decide) (u2_q (by decide)) hR2) rfl rfl (ex_58 ?_))))
  exact ex_53 rfl
theorem m_drawn_0 {d : Nat} {G : am_G} {I : Nat → Nat → Int} {P : Nat → Nat → Option Nat} (hS : ST G P) {k : Nat} (hc : -1 ≤ I 208 57 ∧ I 208 57 ≤ 6) (hf : -1 ≤ I 208 58 ∧ I 208 58 ≤ 5) (hk : (k : Int) < I 208 57) : am_call am_B am_M (d + 2) 284 [(.inr (.inr (some 208))), (.inl (k : Int)), (.inl 0)] (G, I, P) = some (some (.inl (I 239 (4 + k))), (G, (am_u2 I 208 0 0), P)) := by
  refine am_doL (L := [some (.inr (.inr (some 208))), some (.inl (k : Int)), some (.inl 0)]) (Nat.le_of_ble_eq_true rfl) rfl ?_
  refine (ex_6_0 (ex_0 (ix_42i (sh_208 hS) (ex_4_2 (ex_19 (ex_1 (ex_1 ?_)))))))
  have hb11 : ((0 : Int) ≤ 0 ∧ (0 : Int) ≤ 2) := by omega
  refine (ix_45 (S' := [(.inl 1)]) rfl (c_in_t hb11) rfl rfl (ex_if0 (fun hc => by exfalso; revert hc; decide) (fun _ => ?_)))
  refine (ex_4_1 (ex_19 (ex_1 (ex_4_2 (ex_if1 (fun hc => by exfalso; revert hc; decide) (fun _ => ?_))))))
  refine (ex_6_0 (ix_41i (sh_208 hS) (u2_k (by decide)) (ex_28 (ex_19 (ex_1 (ex_lsub ⟨by omega, by omega⟩ ?_))))))
  have hb38 : ((0 : Int) ≤ (k : Int) ∧ ((k : Int) : Int) ≤ ((I 208 57) - 1)) := by omega
  refine (ix_45 (S' := [(.inl 1)]) rfl (c_in_t hb38) rfl rfl (ex_if1 (fun _ => ?_) (fun hc => by exfalso; revert hc; decide)))
  refine (ex_6_0 (ix_41r (sh_208 hS) (pt_208_56 hS) (ex_4_2 (ex_if1 (fun hc => by exfalso; revert hc; decide) (fun _ => ?_)))))
  refine (ex_0 (ex_28 (ex_0 (ex_11e (v := 4) (by decide) (ex_4_1 (ex_add ⟨by omega, by omega⟩ (ix_30 (j := (4 + k)) (sh_239 hS) (by omega) (by omega) (by omega) (u2_q (by decide)) ?_)))))))
  exact ex_53 rfl
theorem m_drawn_0n {d : Nat} {G : am_G} {I : Nat → Nat → Int} {P : Nat → Nat → Option Nat} (hS : ST G P) {k : Int} (hc : -1 ≤ I 208 57 ∧ I 208 57 ≤ 6) (hf : -1 ≤ I 208 58 ∧ I 208 58 ≤ 5) (hk : ¬ (0 ≤ k ∧ k < I 208 57)) : am_call am_B am_M (d + 2) 284 [(.inr (.inr (some 208))), (.inl k), (.inl 0)] (G, I, P) = some (some (.inl (-1)), (G, (am_u2 I 208 0 0), P)) := by
  refine am_doL (L := [some (.inr (.inr (some 208))), some (.inl k), some (.inl 0)]) (Nat.le_of_ble_eq_true rfl) rfl ?_
  refine (ex_6_0 (ex_0 (ix_42i (sh_208 hS) (ex_4_2 (ex_19 (ex_1 (ex_1 ?_)))))))
  have hb11 : ((0 : Int) ≤ 0 ∧ (0 : Int) ≤ 2) := by omega
  refine (ix_45 (S' := [(.inl 1)]) rfl (c_in_t hb11) rfl rfl (ex_if0 (fun hc => by exfalso; revert hc; decide) (fun _ => ?_)))
  refine (ex_4_1 (ex_19 (ex_1 (ex_4_2 (ex_if1 (fun hc => by exfalso; revert hc; decide) (fun _ => ?_))))))
  refine (ex_6_0 (ix_41i (sh_208 hS) (u2_k (by decide)) (ex_28 (ex_19 (ex_1 (ex_lsub ⟨by omega, by omega⟩ ?_))))))
  have hb38 : ¬ (((0 : Int) ≤ k ∧ (k : Int) ≤ ((I 208 57) - 1))) := by omega
  refine (ix_45 (S' := [(.inl 0)]) rfl (c_in_f hb38) rfl rfl (ex_if1 (fun hc => by exfalso; revert hc; decide) (fun _ => ?_)))
  refine (ex_0 ?_)
  exact ex_53 rfl
theorem m_drawn_1 {d : Nat} {G : am_G} {I : Nat → Nat → Int} {P : Nat → Nat → Option Nat} (hS : ST G P) {k : Nat} (hc : -1 ≤ I 208 57 ∧ I 208 57 ≤ 6) (hf : -1 ≤ I 208 58 ∧ I 208 58 ≤ 5) (hk : (k : Int) < I 208 58) : am_call am_B am_M (d + 2) 284 [(.inr (.inr (some 208))), (.inl (k : Int)), (.inl 1)] (G, I, P) = some (some (.inl (I 239 (15 + k))), (G, (am_u2 I 208 0 0), P)) := by
  refine am_doL (L := [some (.inr (.inr (some 208))), some (.inl (k : Int)), some (.inl 1)]) (Nat.le_of_ble_eq_true rfl) rfl ?_
  refine (ex_6_0 (ex_0 (ix_42i (sh_208 hS) (ex_4_2 (ex_19 (ex_1 (ex_1 ?_)))))))
  have hb11 : ((0 : Int) ≤ 1 ∧ (1 : Int) ≤ 2) := by omega
  refine (ix_45 (S' := [(.inl 1)]) rfl (c_in_t hb11) rfl rfl (ex_if0 (fun hc => by exfalso; revert hc; decide) (fun _ => ?_)))
  refine (ex_4_1 (ex_19 (ex_1 (ex_4_2 (ex_if1 (fun _ => ?_) (fun hc => by exfalso; revert hc; decide))))))
  refine (ex_6_0 (ix_41i (sh_208 hS) (u2_k (by decide)) (ex_58 (ex_19 (ex_1 (ex_lsub ⟨by omega, by omega⟩ ?_))))))
  have hb38 : ((0 : Int) ≤ (k : Int) ∧ ((k : Int) : Int) ≤ ((I 208 58) - 1)) := by omega
  refine (ix_45 (S' := [(.inl 1)]) rfl (c_in_t hb38) rfl rfl (ex_if1 (fun _ => ?_) (fun hc => by exfalso; revert hc; decide)))
  refine (ex_6_0 (ix_41r (sh_208 hS) (pt_208_56 hS) (ex_4_2 (ex_if1 (fun _ => ?_) (fun hc => by exfalso; revert hc; decide)))))
  refine (ex_4_2 (ex_0 (ex_ic1 (fun hc => by exfalso; revert hc; decide) (fun _ => ?_))))
  refine (ex_0 (ex_28 (ex_0 (ex_11e (v := 15) (by decide) (ex_4_1 (ex_add ⟨by omega, by omega⟩ (ix_30 (j := (15 + k)) (sh_239 hS) (by omega) (by omega) (by omega) (u2_q (by decide)) ?_)))))))
  exact ex_53 rfl
theorem m_drawn_1n {d : Nat} {G : am_G} {I : Nat → Nat → Int} {P : Nat → Nat → Option Nat} (hS : ST G P) {k : Int} (hc : -1 ≤ I 208 57 ∧ I 208 57 ≤ 6) (hf : -1 ≤ I 208 58 ∧ I 208 58 ≤ 5) (hk : ¬ (0 ≤ k ∧ k < I 208 58)) : am_call am_B am_M (d + 2) 284 [(.inr (.inr (some 208))), (.inl k), (.inl 1)] (G, I, P) = some (some (.inl (-1)), (G, (am_u2 I 208 0 0), P)) := by
  refine am_doL (L := [some (.inr (.inr (some 208))), some (.inl k), some (.inl 1)]) (Nat.le_of_ble_eq_true rfl) rfl ?_
  refine (ex_6_0 (ex_0 (ix_42i (sh_208 hS) (ex_4_2 (ex_19 (ex_1 (ex_1 ?_)))))))
  have hb11 : ((0 : Int) ≤ 1 ∧ (1 : Int) ≤ 2) := by omega
  refine (ix_45 (S' := [(.inl 1)]) rfl (c_in_t hb11) rfl rfl (ex_if0 (fun hc => by exfalso; revert hc; decide) (fun _ => ?_)))
  refine (ex_4_1 (ex_19 (ex_1 (ex_4_2 (ex_if1 (fun _ => ?_) (fun hc => by exfalso; revert hc; decide))))))
  refine (ex_6_0 (ix_41i (sh_208 hS) (u2_k (by decide)) (ex_58 (ex_19 (ex_1 (ex_lsub ⟨by omega, by omega⟩ ?_))))))
  have hb38 : ¬ (((0 : Int) ≤ k ∧ (k : Int) ≤ ((I 208 58) - 1))) := by omega
  refine (ix_45 (S' := [(.inl 0)]) rfl (c_in_f hb38) rfl rfl (ex_if1 (fun hc => by exfalso; revert hc; decide) (fun _ => ?_)))
  refine (ex_0 ?_)
  exact ex_53 rfl
theorem m_drawn_2 {d : Nat} {G : am_G} {I : Nat → Nat → Int} {P : Nat → Nat → Option Nat} (hS : ST G P) {k : Nat} (hc : -1 ≤ I 208 57 ∧ I 208 57 ≤ 6) (hf : -1 ≤ I 208 58 ∧ I 208 58 ≤ 5) (hk : (k : Int) < I 208 58) : am_call am_B am_M (d + 2) 284 [(.inr (.inr (some 208))), (.inl (k : Int)), (.inl 2)] (G, I, P) = some (some (.inl (I 239 (20 + k))), (G, (am_u2 I 208 0 0), P)) := by
  refine am_doL (L := [some (.inr (.inr (some 208))), some (.inl (k : Int)), some (.inl 2)]) (Nat.le_of_ble_eq_true rfl) rfl ?_
  refine (ex_6_0 (ex_0 (ix_42i (sh_208 hS) (ex_4_2 (ex_19 (ex_1 (ex_1 ?_)))))))
  have hb11 : ((0 : Int) ≤ 2 ∧ (2 : Int) ≤ 2) := by omega
  refine (ix_45 (S' := [(.inl 1)]) rfl (c_in_t hb11) rfl rfl (ex_if0 (fun hc => by exfalso; revert hc; decide) (fun _ => ?_)))
  refine (ex_4_1 (ex_19 (ex_1 (ex_4_2 (ex_if1 (fun _ => ?_) (fun hc => by exfalso; revert hc; decide))))))
  refine (ex_6_0 (ix_41i (sh_208 hS) (u2_k (by decide)) (ex_58 (ex_19 (ex_1 (ex_lsub ⟨by omega, by omega⟩ ?_))))))
  have hb38 : ((0 : Int) ≤ (k : Int) ∧ ((k : Int) : Int) ≤ ((I 208 58) - 1)) := by omega
  refine (ix_45 (S' := [(.inl 1)]) rfl (c_in_t hb38) rfl rfl (ex_if1 (fun _ => ?_) (fun hc => by exfalso; revert hc; decide)))
  refine (ex_6_0 (ix_41r (sh_208 hS) (pt_208_56 hS) (ex_4_2 (ex_if1 (fun _ => ?_) (fun hc => by exfalso; revert hc; decide)))))
  refine (ex_4_2 (ex_0 (ex_ic1 (fun _ => ?_) (fun hc => by exfalso; revert hc; decide))))
  refine (ex_0 (ex_58 (ex_0 (ex_11e (v := 20) (by decide) (ex_4_1 (ex_add ⟨by omega, by omega⟩ (ix_30 (j := (20 + k)) (sh_239 hS) (by omega) (by omega) (by omega) (u2_q (by decide)) ?_)))))))
  exact ex_53 rfl
theorem m_drawn_2n {d : Nat} {G : am_G} {I : Nat → Nat → Int} {P : Nat → Nat → Option Nat} (hS : ST G P) {k : Int} (hc : -1 ≤ I 208 57 ∧ I 208 57 ≤ 6) (hf : -1 ≤ I 208 58 ∧ I 208 58 ≤ 5) (hk : ¬ (0 ≤ k ∧ k < I 208 58)) : am_call am_B am_M (d + 2) 284 [(.inr (.inr (some 208))), (.inl k), (.inl 2)] (G, I, P) = some (some (.inl (-1)), (G, (am_u2 I 208 0 0), P)) := by
  refine am_doL (L := [some (.inr (.inr (some 208))), some (.inl k), some (.inl 2)]) (Nat.le_of_ble_eq_true rfl) rfl ?_
  refine (ex_6_0 (ex_0 (ix_42i (sh_208 hS) (ex_4_2 (ex_19 (ex_1 (ex_1 ?_)))))))
  have hb11 : ((0 : Int) ≤ 2 ∧ (2 : Int) ≤ 2) := by omega
  refine (ix_45 (S' := [(.inl 1)]) rfl (c_in_t hb11) rfl rfl (ex_if0 (fun hc => by exfalso; revert hc; decide) (fun _ => ?_)))
  refine (ex_4_1 (ex_19 (ex_1 (ex_4_2 (ex_if1 (fun _ => ?_) (fun hc => by exfalso; revert hc; decide))))))
  refine (ex_6_0 (ix_41i (sh_208 hS) (u2_k (by decide)) (ex_58 (ex_19 (ex_1 (ex_lsub ⟨by omega, by omega⟩ ?_))))))
  have hb38 : ¬ (((0 : Int) ≤ k ∧ (k : Int) ≤ ((I 208 58) - 1))) := by omega
  refine (ix_45 (S' := [(.inl 0)]) rfl (c_in_f hb38) rfl rfl (ex_if1 (fun hc => by exfalso; revert hc; decide) (fun _ => ?_)))
  refine (ex_0 ?_)
  exact ex_53 rfl
theorem m_drawn_o {d : Nat} {G : am_G} {I : Nat → Nat → Int} {P : Nat → Nat → Option Nat} (hS : ST G P) {k w : Int} (hw : ¬ (0 ≤ w ∧ w ≤ 2)) : am_call am_B am_M (d + 2) 284 [(.inr (.inr (some 208))), (.inl k), (.inl w)] (G, I, P) = some (some (.inl (-1)), (G, (am_u2 I 208 0 0), P)) := by
  refine am_doL (L := [some (.inr (.inr (some 208))), some (.inl k), some (.inl w)]) (Nat.le_of_ble_eq_true rfl) rfl ?_
  refine (ex_6_0 (ex_0 (ix_42i (sh_208 hS) (ex_4_2 (ex_19 (ex_1 (ex_1 ?_)))))))
  have hb11 : ¬ (((0 : Int) ≤ w ∧ (w : Int) ≤ 2)) := by omega
  refine (ix_45 (S' := [(.inl 0)]) rfl (c_in_f hb11) rfl rfl (ex_if0 (fun _ => ?_) (fun hc => by exfalso; revert hc; decide)))
  refine (ex_0 ?_)
  exact ex_53 rfl
