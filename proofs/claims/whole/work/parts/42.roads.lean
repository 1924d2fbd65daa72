/-! ===== the class: boxes that part, that are left, that are needed; ways ===== -/
theorem k_joined_t {d : Nat} {G : am_G} {I : Nat → Nat → Int} {P : Nat → Nat → Option Nat} (hS : ST G P) {c : Nat} (hCc : CQ c) {ρ : Nat → Int} (hcc : CC I c ρ) {b o al : Nat} (hbb : b < 6) (hoo : o < 6) (ha : al < 64) (hb : (m_comes ρ b al).testBit o = true) : am_call am_B am_M (d + 2) 80 [(.inr (.inr (some (c + 1)))), (.inl (b : Int)), (.inl (o : Int)), (.inl (al : Int))] (G, I, P) = some (some (.inl 1), (G, I, P)) := by
  refine am_doL (L := [some (.inr (.inr (some (c + 1)))), some (.inl (b : Int)), some (.inl (o : Int)), some (.inl (al : Int))]) (Nat.le_of_ble_eq_true rfl) rfl ?_
  refine (ex_6_0 (ex_4_1 (ex_4_3 (ix_46 (S' := [(.inl (((m_comes ρ b al) : Nat) : Int))]) rfl (cs_1 hS hCc) (k_reach_e hS hCc hcc (fr := b) (al := al) (by omega) ha) rfl rfl (ex_4_2 (ex_11e (am_shr (a := (m_comes ρ b al)) (k := o) (by omega) (Nat.lt_trans (m_comes_lt (by omega)) (by decide))) (ex_0 (ex_11e (am_and (a := ((m_comes ρ b al) >>> o)) (b := 1) (Nat.lt_of_le_of_lt (Nat.shiftRight_le _ _) (Nat.lt_trans (m_comes_lt (by omega)) (by decide))) (by decide)) ?_))))))))
  refine ex_if0 (fun hc10 => by rw [tb_1 hb] at hc10; exact absurd hc10 (by decide)) (fun hc10 => ?_)
  refine (ex_0 (ex_28 ?_))
  exact ex_57 (by decide) rfl
theorem k_joined_f {d : Nat} {G : am_G} {I : Nat → Nat → Int} {P : Nat → Nat → Option Nat} (hS : ST G P) {c : Nat} (hCc : CQ c) {ρ : Nat → Int} (hcc : CC I c ρ) {b o al : Nat} (hbb : b < 6) (hoo : o < 6) (ha : al < 64) (hb : ¬ (m_comes ρ b al).testBit o = true) : am_call am_B am_M (d + 2) 80 [(.inr (.inr (some (c + 1)))), (.inl (b : Int)), (.inl (o : Int)), (.inl (al : Int))] (G, I, P) = some (some (.inl 0), (G, I, P)) := by
  refine am_doL (L := [some (.inr (.inr (some (c + 1)))), some (.inl (b : Int)), some (.inl (o : Int)), some (.inl (al : Int))]) (Nat.le_of_ble_eq_true rfl) rfl ?_
  refine (ex_6_0 (ex_4_1 (ex_4_3 (ix_46 (S' := [(.inl (((m_comes ρ b al) : Nat) : Int))]) rfl (cs_1 hS hCc) (k_reach_e hS hCc hcc (fr := b) (al := al) (by omega) ha) rfl rfl (ex_4_2 (ex_11e (am_shr (a := (m_comes ρ b al)) (k := o) (by omega) (Nat.lt_trans (m_comes_lt (by omega)) (by decide))) (ex_0 (ex_11e (am_and (a := ((m_comes ρ b al) >>> o)) (b := 1) (Nat.lt_of_le_of_lt (Nat.shiftRight_le _ _) (Nat.lt_trans (m_comes_lt (by omega)) (by decide))) (by decide)) ?_))))))))
  refine ex_if0 (fun hc10 => ?_) (fun hc10 => by exact absurd (tb_0 hb) hc10)
  refine (ex_0 (ex_58 ?_))
  exact ex_57 (by decide) rfl
theorem k_isWhole_6 {d : Nat} {G : am_G} {I : Nat → Nat → Int} {P : Nat → Nat → Option Nat} (hS : ST G P) {c : Nat} (hCc : CQ c) {ρ : Nat → Int} (hcc : CC I c ρ) {s : Nat} (hs : s < 64) (hj : ∀ j, j < 6 → ¬ s.testBit j = true) : am_call am_B am_M (d + 2) 83 [(.inr (.inr (some (c + 1)))), (.inl (s : Int))] (G, I, P) = some (some (.inl 1), (G, I, P)) := by
  refine am_doL (L := [some (.inr (.inr (some (c + 1)))), some (.inl (s : Int)), none]) (Nat.le_of_ble_eq_true rfl) rfl ?_
  refine (ex_0 (ex_7_2 rfl (ex_58 ?_)))
  refine ex_forH (b := 1) (σ := Unit) (6) (fun i s_ => s_) (fun i s_ => True) (fun i s_ e_i => [some (.inr (.inr (some (c + 1)))), some (.inl (s : Int)), some (.inl (i : Int))]) (fun i s_ => (G, I, P)) ?_ ?_ (6) (0) (()) (fun k_ => ([some (.inr (.inr (some (c + 1)))), some (.inl (s : Int)), some (.inl 0)] : am_L).getD k_ none) (by omega) (trivial) rfl (rfl) ?_
  · intro i s_ hii hvi
    exact trivial
  · intro i s_ e_i hii hvi s_' hsi hki
    refine (ex_4_2 (ex_0 ?_))
    refine ex_ic3 (fun hc5 => by exfalso; omega) (fun hc5 => ?_)
    refine (ex_4_1 (ex_4_2 (ex_11e (am_shr (a := s) (k := i) (by omega) (Nat.lt_trans hs (by decide))) (ex_0 (ex_11e (am_and (a := (s >>> i)) (b := 1) (Nat.lt_of_le_of_lt (Nat.shiftRight_le _ _) (Nat.lt_trans hs (by decide))) (by decide)) ?_)))))
    refine ex_if0 (fun hc13 => ?_) (fun hc13 => by exact absurd (tb_0 (hj i hii)) hc13)
    refine (ex_10_2 ⟨by omega, by omega⟩ rfl (ex_28 ?_))
    skip
    exact hki (fun k_ => ([some (.inr (.inr (some (c + 1)))), some (.inl (s : Int)), some (.inl ((i : Int) + 1))] : am_L).getD k_ none)
  · intro s_ e_i hsi hvi
    refine (ex_4_2 (ex_0 ?_))
    refine ex_ic3 (fun hc5 => ?_) (fun hc5 => by exfalso; omega)
    refine (ex_0 ?_)
    exact ex_57 (by decide) rfl
theorem k_isWhole_1 {d : Nat} {G : am_G} {I : Nat → Nat → Int} {P : Nat → Nat → Option Nat} (hS : ST G P) {c : Nat} (hCc : CQ c) {ρ : Nat → Int} (hcc : CC I c ρ) {s : Nat} (hs : s < 64) {b : Nat} (hb : b < 6) (hj : ∀ j, j < b → ¬ s.testBit j = true) (ht : s.testBit b = true) (hq : m_comes ρ b s = s) : am_call am_B am_M (d + 2) 83 [(.inr (.inr (some (c + 1)))), (.inl (s : Int))] (G, I, P) = some (some (.inl 1), (G, I, P)) := by
  refine am_doL (L := [some (.inr (.inr (some (c + 1)))), some (.inl (s : Int)), none]) (Nat.le_of_ble_eq_true rfl) rfl ?_
  refine (ex_0 (ex_7_2 rfl (ex_58 ?_)))
  refine ex_forH (b := 1) (σ := Unit) (b) (fun i s_ => s_) (fun i s_ => True) (fun i s_ e_i => [some (.inr (.inr (some (c + 1)))), some (.inl (s : Int)), some (.inl (i : Int))]) (fun i s_ => (G, I, P)) ?_ ?_ (b) (0) (()) (fun k_ => ([some (.inr (.inr (some (c + 1)))), some (.inl (s : Int)), some (.inl 0)] : am_L).getD k_ none) (by omega) (trivial) rfl (rfl) ?_
  · intro i s_ hii hvi
    exact trivial
  · intro i s_ e_i hii hvi s_' hsi hki
    refine (ex_4_2 (ex_0 ?_))
    refine ex_ic3 (fun hc5 => by exfalso; omega) (fun hc5 => ?_)
    refine (ex_4_1 (ex_4_2 (ex_11e (am_shr (a := s) (k := i) (by omega) (Nat.lt_trans hs (by decide))) (ex_0 (ex_11e (am_and (a := (s >>> i)) (b := 1) (Nat.lt_of_le_of_lt (Nat.shiftRight_le _ _) (Nat.lt_trans hs (by decide))) (by decide)) ?_)))))
    refine ex_if0 (fun hc13 => ?_) (fun hc13 => by exact absurd (tb_0 (hj i hii)) hc13)
    refine (ex_10_2 ⟨by omega, by omega⟩ rfl (ex_28 ?_))
    skip
    exact hki (fun k_ => ([some (.inr (.inr (some (c + 1)))), some (.inl (s : Int)), some (.inl ((i : Int) + 1))] : am_L).getD k_ none)
  · intro s_ e_i hsi hvi
    refine (ex_4_2 (ex_0 ?_))
    refine ex_ic3 (fun hc5 => by exfalso; omega) (fun hc5 => ?_)
    refine (ex_4_1 (ex_4_2 (ex_11e (am_shr (a := s) (k := (b)) (by omega) (Nat.lt_trans hs (by decide))) (ex_0 (ex_11e (am_and (a := (s >>> (b))) (b := 1) (Nat.lt_of_le_of_lt (Nat.shiftRight_le _ _) (Nat.lt_trans hs (by decide))) (by decide)) ?_)))))
    refine ex_if0 (fun hc13 => by rw [tb_1 ht] at hc13; exact absurd hc13 (by decide)) (fun hc13 => ?_)
    refine (ex_6_0 (ex_4_2 (ex_4_1 (ix_46 (S' := [(.inl (((m_comes ρ (b) s) : Nat) : Int))]) rfl (cs_1 hS hCc) (k_reach_e hS hCc hcc (fr := (b)) (al := s) (by omega) hs) rfl rfl (ex_4_1 ?_)))))
    refine ex_ic1 (fun hc23 => by exfalso; omega) (fun hc23 => ?_)
    refine (ex_0 (ex_28 ?_))
    exact ex_57 (by decide) rfl
theorem k_isWhole_0 {d : Nat} {G : am_G} {I : Nat → Nat → Int} {P : Nat → Nat → Option Nat} (hS : ST G P) {c : Nat} (hCc : CQ c) {ρ : Nat → Int} (hcc : CC I c ρ) {s : Nat} (hs : s < 64) {b : Nat} (hb : b < 6) (hj : ∀ j, j < b → ¬ s.testBit j = true) (ht : s.testBit b = true) (hq : ¬ m_comes ρ b s = s) : am_call am_B am_M (d + 2) 83 [(.inr (.inr (some (c + 1)))), (.inl (s : Int))] (G, I, P) = some (some (.inl 0), (G, I, P)) := by
  refine am_doL (L := [some (.inr (.inr (some (c + 1)))), some (.inl (s : Int)), none]) (Nat.le_of_ble_eq_true rfl) rfl ?_
  refine (ex_0 (ex_7_2 rfl (ex_58 ?_)))
  refine ex_forH (b := 1) (σ := Unit) (b) (fun i s_ => s_) (fun i s_ => True) (fun i s_ e_i => [some (.inr (.inr (some (c + 1)))), some (.inl (s : Int)), some (.inl (i : Int))]) (fun i s_ => (G, I, P)) ?_ ?_ (b) (0) (()) (fun k_ => ([some (.inr (.inr (some (c + 1)))), some (.inl (s : Int)), some (.inl 0)] : am_L).getD k_ none) (by omega) (trivial) rfl (rfl) ?_
  · intro i s_ hii hvi
    exact trivial
  · intro i s_ e_i hii hvi s_' hsi hki
    refine (ex_4_2 (ex_0 ?_))
    refine ex_ic3 (fun hc5 => by exfalso; omega) (fun hc5 => ?_)
    refine (ex_4_1 (ex_4_2 (ex_11e (am_shr (a := s) (k := i) (by omega) (Nat.lt_trans hs (by decide))) (ex_0 (ex_11e (am_and (a := (s >>> i)) (b := 1) (Nat.lt_of_le_of_lt (Nat.shiftRight_le _ _) (Nat.lt_trans hs (by decide))) (by decide)) ?_)))))
    refine ex_if0 (fun hc13 => ?_) (fun hc13 => by exact absurd (tb_0 (hj i hii)) hc13)
    refine (ex_10_2 ⟨by omega, by omega⟩ rfl (ex_28 ?_))
    skip
    exact hki (fun k_ => ([some (.inr (.inr (some (c + 1)))), some (.inl (s : Int)), some (.inl ((i : Int) + 1))] : am_L).getD k_ none)
  · intro s_ e_i hsi hvi
    refine (ex_4_2 (ex_0 ?_))
    refine ex_ic3 (fun hc5 => by exfalso; omega) (fun hc5 => ?_)
    refine (ex_4_1 (ex_4_2 (ex_11e (am_shr (a := s) (k := (b)) (by omega) (Nat.lt_trans hs (by decide))) (ex_0 (ex_11e (am_and (a := (s >>> (b))) (b := 1) (Nat.lt_of_le_of_lt (Nat.shiftRight_le _ _) (Nat.lt_trans hs (by decide))) (by decide)) ?_)))))
    refine ex_if0 (fun hc13 => by rw [tb_1 ht] at hc13; exact absurd hc13 (by decide)) (fun hc13 => ?_)
    refine (ex_6_0 (ex_4_2 (ex_4_1 (ix_46 (S' := [(.inl (((m_comes ρ (b) s) : Nat) : Int))]) rfl (cs_1 hS hCc) (k_reach_e hS hCc hcc (fr := (b)) (al := s) (by omega) hs) rfl rfl (ex_4_1 ?_)))))
    refine ex_ic1 (fun hc23 => ?_) (fun hc23 => by exfalso; omega)
    refine (ex_0 (ex_58 ?_))
    exact ex_57 (by decide) rfl
theorem m_low_6 {s : Nat} (hs : s < 64) : s = 0 ↔ m_low s = 6 := by
  have : ∀ s, s < 64 → (s = 0 ↔ m_low s = 6) := by decide +kernel
  exact this s hs
theorem k_isWhole_t {d : Nat} {G : am_G} {I : Nat → Nat → Int} {P : Nat → Nat → Option Nat} (hS : ST G P) {c : Nat} (hCc : CQ c) {ρ : Nat → Int} (hcc : CC I c ρ) {s : Nat} (hs : s < 64) (hq : s = 0 ∨ m_comes ρ (m_low s) s = s) : am_call am_B am_M (d + 2) 83 [.inr (.inr (some (c + 1))), .inl (s : Int)] (G, I, P) = some (some (.inl 1), (G, I, P)) := by
  by_cases h0 : s = 0
  · exact k_isWhole_6 hS hCc hcc hs (fun j hj => by rw [h0, Nat.zero_testBit]; decide)
  · have h6 := m_low_lt hs h0
    rcases m_low_t s with h | h
    · omega
    · exact k_isWhole_1 hS hCc hcc hs h6 (m_low_f s) h (by rcases hq with q | q; exact absurd q h0; exact q)
theorem k_isWhole_f {d : Nat} {G : am_G} {I : Nat → Nat → Int} {P : Nat → Nat → Option Nat} (hS : ST G P) {c : Nat} (hCc : CQ c) {ρ : Nat → Int} (hcc : CC I c ρ) {s : Nat} (hs : s < 64) (hq : ¬ (s = 0 ∨ m_comes ρ (m_low s) s = s)) : am_call am_B am_M (d + 2) 83 [.inr (.inr (some (c + 1))), .inl (s : Int)] (G, I, P) = some (some (.inl 0), (G, I, P)) := by
  have h0 : ¬ s = 0 := fun q => hq (Or.inl q)
  have h6 := m_low_lt hs h0
  rcases m_low_t s with h | h
  · omega
  · exact k_isWhole_0 hS hCc hcc hs h6 (m_low_f s) h (fun q => hq (Or.inr q))
theorem andn_sub {a b : Nat} : a &&& (a ^^^ b) = 0 ↔ sub a b := by
  constructor
  · intro h x hx
    have := congrArg (fun n => n.testBit x) h
    simp only [Nat.testBit_and, Nat.testBit_xor, Nat.zero_testBit, hx, Bool.true_and] at this
    cases hb : b.testBit x
    · rw [hb] at this; cases this
    · rfl
  · intro h
    apply Nat.eq_of_testBit_eq
    intro i
    rw [Nat.testBit_and, Nat.testBit_xor, Nat.zero_testBit]
    cases ha : a.testBit i
    · rfl
    · rw [h i ha]; rfl
theorem andn_tb {a b x : Nat} : (a &&& (a ^^^ 2 ^ b)).testBit x = true ↔ a.testBit x = true ∧ ¬ x = b := by
  rw [Nat.testBit_and, Nat.testBit_xor, Nat.testBit_two_pow]
  cases ha : a.testBit x
  · constructor
    · intro h; cases h
    · intro h; cases h.1
  · constructor
    · intro h
      refine ⟨rfl, fun e => ?_⟩
      subst e
      rw [decide_eq_true rfl] at h
      cases h
    · intro h
      rw [decide_eq_false (fun e => h.2 e.symm)]
      rfl
theorem part_set {w i one other : Nat} : i &&& (i ^^^ ((w &&& (w ^^^ 2 ^ one)) &&& ((w &&& (w ^^^ 2 ^ one)) ^^^ 2 ^ other))) = 0 ↔ i &&& (i ^^^ w) = 0 ∧ ¬ i.testBit one = true ∧ ¬ i.testBit other = true := by
  rw [andn_sub, andn_sub]
  constructor
  · intro h
    refine ⟨fun x hx => (andn_tb.mp (andn_tb.mp (h x hx)).1).1, fun z => (andn_tb.mp (andn_tb.mp (h _ z)).1).2 rfl, fun z => (andn_tb.mp (h _ z)).2 rfl⟩
  · rintro ⟨h1, h2, h3⟩ x hx
    refine andn_tb.mpr ⟨andn_tb.mpr ⟨h1 x hx, fun e => ?_⟩, fun e => ?_⟩
    · subst e; exact h2 hx
    · subst e; exact h3 hx
def pz (z : Int × Int) : Prop := (z.1 = -1 ∧ z.2 = 100000000) ∨ (∃ t : Nat, t < 64 ∧ z.1 = (t : Int) ∧ z.2 = m_ones t)
theorem bz_iff {i : Nat} {z : Int × Int} (hi : i < 64) (hz : pz z) : bitc (i : Int) < bitc z.1 ↔ m_ones i < z.2 := by
  have e : ∀ t : Nat, t < 64 → bitc (t : Int) = m_ones t := bitc_lt
  have hb := m_ones_b i
  rcases hz with ⟨h1, h2⟩ | ⟨t, ht, h1, h2⟩
  · rw [h1, bitc_m1, e i hi, h2]; omega
  · rw [h1, e i hi, e t ht, h2]
theorem pz_pF {ρ : Nat → Int} {s one other i : Nat} {z : Int × Int} (hi : i < 64) (hz : pz z) : pz (m_pF ρ s one other i z) := by
  unfold m_pF
  split
  · exact Or.inr ⟨i, hi, rfl, rfl⟩
  · exact hz
theorem pz_lF {ρ : Nat → Int} {s need i : Nat} {z : Int × Int} (hi : i < 64) (hz : pz z) : pz (m_lF ρ s need i z) := by
  unfold m_lF
  split
  · exact Or.inr ⟨i, hi, rfl, rfl⟩
  · exact hz
theorem and_wh : ∀ i, i < 64 → ∀ s, s < 64 → (i &&& s = 0 ↔ i &&& (i ^^^ wh s) = 0) := by decide +kernel
theorem k_part {d : Nat} {G : am_G} {I : Nat → Nat → Int} {P : Nat → Nat → Option Nat} (hS : ST G P) {c : Nat} (hCc : CQ c) {ρ : Nat → Int} (hcc : CC I c ρ) (h8 : 0 ≤ ρ 8 ∧ ρ 8 < 64) {one other : Nat} (h1 : one < 6) (h2 : other < 6) : am_call am_B am_M (d + 3) 81 [(.inr (.inr (some (c + 1)))), (.inl (one : Int)), (.inl (other : Int))] (G, I, P) = some (some (.inl (m_part ρ (ρ 8).toNat one other).1), (G, I, P)) := by
  refine am_doL (L := [some (.inr (.inr (some (c + 1)))), some (.inl (one : Int)), some (.inl (other : Int)), none, none, none]) (Nat.le_of_ble_eq_true rfl) rfl ?_
  refine (ex_6_0 (ix_46 (S' := [(.inl (((wh (ρ 8).toNat) : Nat) : Int))]) rfl (cs_1 hS hCc) (k_standing hS hCc hcc h8) rfl rfl (ex_0 (ex_4_1 (ex_11e (am_shl1 (k := one) (by omega)) (ex_0 (ex_11e (am_not (a := (2 ^ one)) (Nat.pow_lt_pow_right (by decide) (by omega))) (ex_11e (am_andn (a := (wh (ρ 8).toNat)) (b := (2 ^ one)) (Nat.lt_trans wh_lt (by decide)) (Nat.pow_lt_pow_right (by decide) (by omega))) (ex_0 (ex_4_2 (ex_11e (am_shl1 (k := other) (by omega)) (ex_0 (ex_11e (am_not (a := (2 ^ other)) (Nat.pow_lt_pow_right (by decide) (by omega))) (ex_11e (am_andn (a := ((wh (ρ 8).toNat) &&& ((wh (ρ 8).toNat) ^^^ (2 ^ one)))) (b := (2 ^ other)) (Nat.lt_of_le_of_lt Nat.and_le_left (Nat.lt_trans wh_lt (by decide))) (Nat.pow_lt_pow_right (by decide) (by omega))) (ex_7_3 rfl (ex_0 (ex_7_4 rfl (ex_0 (ex_7_5 rfl (ex_58 ?_))))))))))))))))))))
  refine ex_forH (b := 1) (σ := Int × Int) (64) (fun i z => m_pF ρ (ρ 8).toNat one other i z) (fun i z => pz z) (fun i z e_i => [some (.inr (.inr (some (c + 1)))), some (.inl (one : Int)), some (.inl (other : Int)), some (.inl (((((wh (ρ 8).toNat) &&& ((wh (ρ 8).toNat) ^^^ (2 ^ one))) &&& (((wh (ρ 8).toNat) &&& ((wh (ρ 8).toNat) ^^^ (2 ^ one))) ^^^ (2 ^ other))) : Nat) : Int)), some (.inl z.1), some (.inl (i : Int))]) (fun i z => (G, I, P)) ?_ ?_ (64) (0) ((-1, 100000000)) (fun k_ => ([some (.inr (.inr (some (c + 1)))), some (.inl (one : Int)), some (.inl (other : Int)), some (.inl (((((wh (ρ 8).toNat) &&& ((wh (ρ 8).toNat) ^^^ (2 ^ one))) &&& (((wh (ρ 8).toNat) &&& ((wh (ρ 8).toNat) ^^^ (2 ^ one))) ^^^ (2 ^ other))) : Nat) : Int)), some (.inl (-1)), some (.inl 0)] : am_L).getD k_ none) (by omega) (Or.inl ⟨rfl, rfl⟩) rfl (rfl) ?_
  · intro i z hii hvi
    exact pz_pF hii hvi
  · intro i z e_i hii hvi z' hsi hki
    have hvi : pz z := hvi
    have hbz := bz_iff hii hvi
    have hps := part_set (w := wh (ρ 8).toNat) (i := i) (one := one) (other := other)
    refine (ex_4_5 (ex_0 ?_))
    refine ex_ic4 (fun hc27 => by exfalso; omega) (fun hc27 => ?_)
    refine (ex_4_5 (ex_4_3 (ex_0 (ex_11e (am_not (a := (((wh (ρ 8).toNat) &&& ((wh (ρ 8).toNat) ^^^ (2 ^ one))) &&& (((wh (ρ 8).toNat) &&& ((wh (ρ 8).toNat) ^^^ (2 ^ one))) ^^^ (2 ^ other)))) (Nat.lt_of_le_of_lt Nat.and_le_left (Nat.lt_of_le_of_lt Nat.and_le_left (Nat.lt_trans wh_lt (by decide))))) (ex_11e (am_andn (a := i) (b := (((wh (ρ 8).toNat) &&& ((wh (ρ 8).toNat) ^^^ (2 ^ one))) &&& (((wh (ρ 8).toNat) &&& ((wh (ρ 8).toNat) ^^^ (2 ^ one))) ^^^ (2 ^ other)))) (Nat.lt_trans (show i < 64 by omega) (by decide)) (Nat.lt_of_le_of_lt Nat.and_le_left (Nat.lt_of_le_of_lt Nat.and_le_left (Nat.lt_trans wh_lt (by decide))))) ?_)))))
    refine ex_if1 (fun hc36 => ?_) (fun hc36 => ?_)
    · refine (ex_10_5 ⟨by omega, by omega⟩ rfl (ex_28 ?_))
      rw [hsi.trans (if_neg (by rintro ⟨z1, z2, z3, z4, z5⟩; have q1 := hps.mpr ⟨z1, z2, z3⟩; have q4 := hbz.mpr z4; first | omega | exact z5 hb64))] at hki
      exact hki (fun k_ => ([some (.inr (.inr (some (c + 1)))), some (.inl (one : Int)), some (.inl (other : Int)), some (.inl (((((wh (ρ 8).toNat) &&& ((wh (ρ 8).toNat) ^^^ (2 ^ one))) &&& (((wh (ρ 8).toNat) &&& ((wh (ρ 8).toNat) ^^^ (2 ^ one))) ^^^ (2 ^ other))) : Nat) : Int)), some (.inl z.1), some (.inl ((i : Int) + 1))] : am_L).getD k_ none)
    · refine (ex_4_5 (ix_45 (S' := [(.inl (bitc (i : Int)))]) rfl k_bitCount rfl rfl (ex_4_4 (ix_45 (S' := [(.inl (bitc z.1)), (.inl (bitc (i : Int)))]) rfl k_bitCount rfl rfl ?_))))
      refine ex_ic3 (fun hc49 => ?_) (fun hc49 => ?_)
      · refine (ex_10_5 ⟨by omega, by omega⟩ rfl (ex_28 ?_))
        rw [hsi.trans (if_neg (by rintro ⟨z1, z2, z3, z4, z5⟩; have q1 := hps.mpr ⟨z1, z2, z3⟩; have q4 := hbz.mpr z4; first | omega | exact z5 hb64))] at hki
        exact hki (fun k_ => ([some (.inr (.inr (some (c + 1)))), some (.inl (one : Int)), some (.inl (other : Int)), some (.inl (((((wh (ρ 8).toNat) &&& ((wh (ρ 8).toNat) ^^^ (2 ^ one))) &&& (((wh (ρ 8).toNat) &&& ((wh (ρ 8).toNat) ^^^ (2 ^ one))) ^^^ (2 ^ other))) : Nat) : Int)), some (.inl z.1), some (.inl ((i : Int) + 1))] : am_L).getD k_ none)
      · refine (ex_6_0 (ex_4_1 (ex_4_2 (ex_6_0 (ix_46 (S' := [(.inl (((wh (ρ 8).toNat) : Nat) : Int)), (.inl (other : Int)), (.inl (one : Int)), (.inr (.inr (some (c + 1))))]) rfl (cs_1 hS hCc) (k_standing hS hCc hcc h8) rfl rfl (ex_4_5 (ex_0 (ex_11e (am_not (a := i) (Nat.lt_trans (show i < 64 by omega) (by decide))) (ex_11e (am_andn (a := (wh (ρ 8).toNat)) (b := i) (Nat.lt_trans wh_lt (by decide)) (Nat.lt_trans (show i < 64 by omega) (by decide))) ?_)))))))))
        by_cases hb64 : ((m_comes ρ one ((wh (ρ 8).toNat) &&& ((wh (ρ 8).toNat) ^^^ i))).testBit other = true)
        · refine (ix_46 (S' := [(.inl 1)]) rfl (cs_1 hS hCc) (k_joined_t hS hCc hcc (by omega) (by omega) (Nat.lt_of_le_of_lt Nat.and_le_left wh_lt) hb64) rfl rfl (ex_if1 (fun _ => ?_) (fun hc => by exfalso; revert hc; decide)))
          refine (ex_10_5 ⟨by omega, by omega⟩ rfl (ex_28 ?_))
          rw [hsi.trans (if_neg (by rintro ⟨z1, z2, z3, z4, z5⟩; have q1 := hps.mpr ⟨z1, z2, z3⟩; have q4 := hbz.mpr z4; first | omega | exact z5 hb64))] at hki
          exact hki (fun k_ => ([some (.inr (.inr (some (c + 1)))), some (.inl (one : Int)), some (.inl (other : Int)), some (.inl (((((wh (ρ 8).toNat) &&& ((wh (ρ 8).toNat) ^^^ (2 ^ one))) &&& (((wh (ρ 8).toNat) &&& ((wh (ρ 8).toNat) ^^^ (2 ^ one))) ^^^ (2 ^ other))) : Nat) : Int)), some (.inl z.1), some (.inl ((i : Int) + 1))] : am_L).getD k_ none)
        · refine (ix_46 (S' := [(.inl 0)]) rfl (cs_1 hS hCc) (k_joined_f hS hCc hcc (by omega) (by omega) (Nat.lt_of_le_of_lt Nat.and_le_left wh_lt) hb64) rfl rfl (ex_if1 (fun hc => by exfalso; revert hc; decide) (fun _ => ?_)))
          refine (ex_4_5 (ex_7_4 rfl (ex_58 (ex_10_5 ⟨by omega, by omega⟩ rfl (ex_28 ?_)))))
          rw [hsi.trans (if_pos ⟨(hps.mp (by omega)).1, (hps.mp (by omega)).2.1, (hps.mp (by omega)).2.2, hbz.mp (by omega), hb64⟩)] at hki
          exact hki (fun k_ => ([some (.inr (.inr (some (c + 1)))), some (.inl (one : Int)), some (.inl (other : Int)), some (.inl (((((wh (ρ 8).toNat) &&& ((wh (ρ 8).toNat) ^^^ (2 ^ one))) &&& (((wh (ρ 8).toNat) &&& ((wh (ρ 8).toNat) ^^^ (2 ^ one))) ^^^ (2 ^ other))) : Nat) : Int)), some (.inl (i : Int)), some (.inl ((i : Int) + 1))] : am_L).getD k_ none)
  · intro z e_i hsi hvi
    refine (ex_4_5 (ex_0 ?_))
    refine ex_ic4 (fun hc27 => ?_) (fun hc27 => by exfalso; omega)
    refine (ex_4_4 ?_)
    exact ex_53 (by rw [hsi]; rfl)
theorem k_leave {d : Nat} {G : am_G} {I : Nat → Nat → Int} {P : Nat → Nat → Option Nat} (hS : ST G P) {c : Nat} (hCc : CQ c) {ρ : Nat → Int} (hcc : CC I c ρ) (h8 : 0 ≤ ρ 8 ∧ ρ 8 < 64) {need : Nat} (hn : need < 64) : am_call am_B am_M (d + 3) 82 [(.inr (.inr (some (c + 1)))), (.inl (need : Int))] (G, I, P) = some (some (.inl (m_leave ρ (ρ 8).toNat need).1), (G, I, P)) := by
  refine am_doL (L := [some (.inr (.inr (some (c + 1)))), some (.inl (need : Int)), none, none]) (Nat.le_of_ble_eq_true rfl) rfl ?_
  refine (ex_0 (ex_7_2 rfl (ex_0 (ex_7_3 rfl (ex_58 ?_)))))
  refine ex_forH (b := 1) (σ := Int × Int) (64) (fun i z => m_lF ρ (ρ 8).toNat need i z) (fun i z => pz z) (fun i z e_i => [some (.inr (.inr (some (c + 1)))), some (.inl (need : Int)), some (.inl z.1), some (.inl (i : Int))]) (fun i z => (G, I, P)) ?_ ?_ (64) (0) ((-1, 100000000)) (fun k_ => ([some (.inr (.inr (some (c + 1)))), some (.inl (need : Int)), some (.inl (-1)), some (.inl 0)] : am_L).getD k_ none) (by omega) (Or.inl ⟨rfl, rfl⟩) rfl (rfl) ?_
  · intro i z hii hvi
    exact pz_lF hii hvi
  · intro i z e_i hii hvi z' hsi hki
    have hvi : pz z := hvi
    have hbz := bz_iff hii hvi
    have hws := and_wh i hii (ρ 8).toNat (by omega)
    refine (ex_4_3 (ex_0 ?_))
    refine ex_ic4 (fun hc7 => by exfalso; omega) (fun hc7 => ?_)
    refine (ex_4_3 (ex_6_0 (ix_41i (cs_1 hS hCc) ((CC_sm hcc).trans (Int.toNat_of_nonneg h8.1).symm) (ex_11e (am_and (a := i) (b := (ρ 8).toNat) (Nat.lt_trans (show i < 64 by omega) (by decide)) (by omega)) ?_))))
    refine ex_if1 (fun hc16 => ?_) (fun hc16 => ?_)
    · refine (ex_10_3 ⟨by omega, by omega⟩ rfl (ex_28 ?_))
      rw [hsi.trans (if_neg (by rintro ⟨z1, z2, z3, z4⟩; have q1 := hws.mpr z1; have q3 := hbz.mpr z3; first | omega | exact hb40 z4))] at hki
      exact hki (fun k_ => ([some (.inr (.inr (some (c + 1)))), some (.inl (need : Int)), some (.inl z.1), some (.inl ((i : Int) + 1))] : am_L).getD k_ none)
    · refine (ex_4_1 (ex_4_3 (ex_0 (ex_11e (am_not (a := i) (Nat.lt_trans (show i < 64 by omega) (by decide))) (ex_11e (am_andn (a := need) (b := i) (Nat.lt_trans hn (by decide)) (Nat.lt_trans (show i < 64 by omega) (by decide))) ?_)))))
      refine ex_if1 (fun hc24 => ?_) (fun hc24 => ?_)
      · refine (ex_10_3 ⟨by omega, by omega⟩ rfl (ex_28 ?_))
        rw [hsi.trans (if_neg (by rintro ⟨z1, z2, z3, z4⟩; have q1 := hws.mpr z1; have q3 := hbz.mpr z3; first | omega | exact hb40 z4))] at hki
        exact hki (fun k_ => ([some (.inr (.inr (some (c + 1)))), some (.inl (need : Int)), some (.inl z.1), some (.inl ((i : Int) + 1))] : am_L).getD k_ none)
      · refine (ex_4_3 (ix_45 (S' := [(.inl (bitc (i : Int)))]) rfl k_bitCount rfl rfl (ex_4_2 (ix_45 (S' := [(.inl (bitc z.1)), (.inl (bitc (i : Int)))]) rfl k_bitCount rfl rfl ?_))))
        refine ex_ic3 (fun hc35 => ?_) (fun hc35 => ?_)
        · refine (ex_10_3 ⟨by omega, by omega⟩ rfl (ex_28 ?_))
          rw [hsi.trans (if_neg (by rintro ⟨z1, z2, z3, z4⟩; have q1 := hws.mpr z1; have q3 := hbz.mpr z3; first | omega | exact hb40 z4))] at hki
          exact hki (fun k_ => ([some (.inr (.inr (some (c + 1)))), some (.inl (need : Int)), some (.inl z.1), some (.inl ((i : Int) + 1))] : am_L).getD k_ none)
        · refine (ex_6_0 (ex_4_3 ?_))
          by_cases hb40 : (i = 0 ∨ m_comes ρ (m_low i) i = i)
          · refine (ix_46 (S' := [(.inl 1)]) rfl (cs_1 hS hCc) (k_isWhole_t hS hCc hcc (show i < 64 by omega) hb40) rfl rfl (ex_if0 (fun hc => by exfalso; revert hc; decide) (fun _ => ?_)))
            refine (ex_4_3 (ex_7_2 rfl (ex_58 (ex_10_3 ⟨by omega, by omega⟩ rfl (ex_28 ?_)))))
            rw [hsi.trans (if_pos ⟨hws.mp (by omega), by omega, hbz.mp (by omega), hb40⟩)] at hki
            exact hki (fun k_ => ([some (.inr (.inr (some (c + 1)))), some (.inl (need : Int)), some (.inl (i : Int)), some (.inl ((i : Int) + 1))] : am_L).getD k_ none)
          · refine (ix_46 (S' := [(.inl 0)]) rfl (cs_1 hS hCc) (k_isWhole_f hS hCc hcc (show i < 64 by omega) hb40) rfl rfl (ex_if0 (fun _ => ?_) (fun hc => by exfalso; revert hc; decide)))
            refine (ex_10_3 ⟨by omega, by omega⟩ rfl (ex_28 ?_))
            rw [hsi.trans (if_neg (by rintro ⟨z1, z2, z3, z4⟩; have q1 := hws.mpr z1; have q3 := hbz.mpr z3; first | omega | exact hb40 z4))] at hki
            exact hki (fun k_ => ([some (.inr (.inr (some (c + 1)))), some (.inl (need : Int)), some (.inl z.1), some (.inl ((i : Int) + 1))] : am_L).getD k_ none)
  · intro z e_i hsi hvi
    refine (ex_4_3 (ex_0 ?_))
    refine ex_ic4 (fun hc7 => ?_) (fun hc7 => by exfalso; omega)
    refine (ex_4_2 ?_)
    exact ex_53 (by rw [hsi]; rfl)
def k_nI (ρ : Nat → Int) (s b o its : Nat) : Nat := if (wh s &&& (wh s ^^^ 2 ^ b)).testBit o = true ∧ ¬ (m_comes ρ o (wh s) &&& (m_comes ρ o (wh s) ^^^ 2 ^ b)) = m_comes ρ o (wh s &&& (wh s ^^^ 2 ^ b)) then its ||| 2 ^ b else its
def k_nO (ρ : Nat → Int) (s b its : Nat) : Nat := am_it (fun o its => k_nI ρ s b o its) 6 0 its
theorem k_nI_lt {ρ : Nat → Int} {s b o its : Nat} (hb : b < 6) (h : its < 64) : k_nI ρ s b o its < 64 := by
  unfold k_nI; split
  · exact or_bit_lt h hb
  · exact h
theorem k_nO_lt {ρ : Nat → Int} {s b its : Nat} (hb : b < 6) (h : its < 64) : k_nO ρ s b its < 64 := am_it_inv (inv := fun _ t => t < 64) (N := 6) (fun _ _ _ h => k_nI_lt hb h) 6 0 its rfl h
theorem m_comes_sub {ρ : Nat → Int} {fr al : Nat} (hf : fr < 6) : sub (m_comes ρ fr al) al := by
  have hr : Rnd ρ al (fun s => m_cr ρ al s) := rnd_of (g := fun b s => m_cb ρ al b s) (fun b s hb hs => m_cb_r hb hs)
  refine (rnd_it hr 6 0 (m_c0 fr al) (m_c0_lt hf)).2.2.1 al (fun b o he _ => he.2.2.1) (fun x hx => ?_)
  unfold m_c0 at hx
  split at hx
  · rename_i h
    rw [Nat.testBit_two_pow] at hx
    rw [← of_decide_eq_true hx]; exact h
  · rw [Nat.zero_testBit] at hx; cases hx
theorem k_nO_eq {ρ : Nat → Int} {s b its : Nat} (hb : b < 6) : k_nO ρ s b its = m_nO ρ s b its := by
  have hcond : ∀ o, o < 6 → (((wh s &&& (wh s ^^^ 2 ^ b)).testBit o = true ∧ ¬ (m_comes ρ o (wh s) &&& (m_comes ρ o (wh s) ^^^ 2 ^ b)) = m_comes ρ o (wh s &&& (wh s ^^^ 2 ^ b))) ↔ (¬ o = b ∧ (wh s).testBit o = true ∧ ¬ m_comes ρ o (wh s &&& (wh s ^^^ 2 ^ b)) = (m_comes ρ o (wh s) &&& (m_comes ρ o (wh s) ^^^ 2 ^ b)))) := by
    intro o _
    rw [andn_tb]
    constructor
    · rintro ⟨⟨h1, h2⟩, h3⟩; exact ⟨h2, h1, fun e => h3 e.symm⟩
    · rintro ⟨h1, h2, h3⟩; exact ⟨⟨h2, h1⟩, fun e => h3 e.symm⟩
  have key : ∀ (k i : Nat) (so : Int), i + k = 6 → (so = 0 ∨ so = 1) → am_it (fun o its => k_nI ρ s b o its) k i (if so = 1 then its ||| 2 ^ b else its) = if am_it (fun o so => m_nI ρ s b o so) k i so = 1 then its ||| 2 ^ b else its := by
    intro k
    induction k with
    | zero => intro i so _ _; rfl
    | succ k ih =>
      intro i so hi h01
      show am_it (fun o its => k_nI ρ s b o its) k (i + 1) (k_nI ρ s b i (if so = 1 then its ||| 2 ^ b else its)) = if am_it (fun o so => m_nI ρ s b o so) k (i + 1) (m_nI ρ s b i so) = 1 then its ||| 2 ^ b else its
      rw [← ih (i + 1) _ (by omega) m_nI_01]
      congr 1
      unfold k_nI m_nI
      have hc := hcond i (by omega)
      rcases h01 with h | h
      · subst h
        rw [if_neg (show ¬ (0 : Int) = 1 by decide)]
        by_cases q : (wh s &&& (wh s ^^^ 2 ^ b)).testBit i = true ∧ ¬ (m_comes ρ i (wh s) &&& (m_comes ρ i (wh s) ^^^ 2 ^ b)) = m_comes ρ i (wh s &&& (wh s ^^^ 2 ^ b))
        · rw [if_pos q, if_pos (Or.inr (hc.mp q)), if_pos rfl]
        · rw [if_neg q, if_neg]
          rw [if_neg]
          · decide
          · rintro (z | z)
            · exact absurd z (by decide)
            · exact q (hc.mpr z)
      · subst h
        rw [if_pos rfl]
        have e : (its ||| 2 ^ b) ||| 2 ^ b = its ||| 2 ^ b := by rw [Nat.or_assoc, Nat.or_self]
        rw [e, if_pos (Or.inl rfl : (1 : Int) = 1 ∨ _), if_pos rfl]
        split <;> rfl
  have h := key 6 0 0 rfl (Or.inl rfl)
  rw [if_neg (show ¬ (0 : Int) = 1 by decide)] at h
  unfold k_nO m_nO
  rw [h]
  by_cases hw : (wh s).testBit b = true
  · by_cases q : am_it (fun o so => m_nI ρ s b o so) 6 0 0 = 1
    · rw [if_pos q, if_pos ⟨q, hw⟩]
    · rw [if_neg q, if_neg (fun z => q z.1)]
  · have e0 : wh s &&& (wh s ^^^ 2 ^ b) = wh s := by
      refine sub_anti (fun x hx => (andn_tb.mp hx).1) (fun x hx => andn_tb.mpr ⟨hx, fun e => ?_⟩)
      subst e; exact hw hx
    have hz := am_it_inv (f := fun o so => m_nI ρ s b o so) (inv := fun _ so => so = 0) (N := 6) (fun i so hi h => by
      show m_nI ρ s b i so = 0
      unfold m_nI
      rw [if_neg]
      rintro (z | ⟨z1, z2, z3⟩)
      · rw [h] at z; exact absurd z (by decide)
      · apply z3
        rw [e0]
        refine sub_anti (fun x hx => andn_tb.mpr ⟨hx, fun e => ?_⟩) (fun x hx => (andn_tb.mp hx).1)
        subst e
        exact hw (m_comes_sub hi x hx)) 6 0 0 rfl rfl
    have hz2 : ¬ am_it (fun o so => m_nI ρ s b o so) 6 0 0 = 1 := by rw [hz]; decide
    rw [if_neg hz2, if_neg (fun z => hz2 z.1)]
theorem k_needed_eq {ρ : Nat → Int} {s : Nat} : am_it (fun b its => k_nO ρ s b its) 6 0 0 = m_needed ρ s := by
  unfold m_needed
  have key : ∀ (k i t : Nat), i + k = 6 → am_it (fun b its => k_nO ρ s b its) k i t = am_it (fun b its => m_nO ρ s b its) k i t := by
    intro k
    induction k with
    | zero => intro i t _; rfl
    | succ k ih =>
      intro i t hi
      show am_it (fun b its => k_nO ρ s b its) k (i + 1) (k_nO ρ s i t) = am_it (fun b its => m_nO ρ s b its) k (i + 1) (m_nO ρ s i t)
      rw [k_nO_eq (by omega)]
      exact ih _ _ (by omega)
  exact key 6 0 0 rfl
theorem k_needed_c {d : Nat} {G : am_G} {I : Nat → Nat → Int} {P : Nat → Nat → Option Nat} (hS : ST G P) {c : Nat} (hCc : CQ c) {ρ : Nat → Int} (hcc : CC I c ρ) (h8 : 0 ≤ ρ 8 ∧ ρ 8 < 64) : am_call am_B am_M (d + 2) 84 [(.inr (.inr (some (c + 1))))] (G, I, P) = some (some (.inl ((m_needed ρ (ρ 8).toNat : Nat) : Int)), (G, I, P)) := by
  refine am_doL (L := [some (.inr (.inr (some (c + 1)))), none, none, none, none, none]) (Nat.le_of_ble_eq_true rfl) rfl ?_
  refine (ex_0 (ex_7_1 rfl (ex_0 (ex_7_2 rfl (ex_58 ?_)))))
  refine ex_forH (b := 1) (σ := Nat) (6) (fun b its => k_nO ρ (ρ 8).toNat b its) (fun b its => its < 64) (fun b its e_b => [some (.inr (.inr (some (c + 1)))), some (.inl (its : Int)), some (.inl (b : Int)), (e_b 3), (e_b 4), (e_b 5)]) (fun b its => (G, I, P)) ?_ ?_ (6) (0) (0) (fun k_ => ([some (.inr (.inr (some (c + 1)))), some (.inl 0), some (.inl 0), none, none, none] : am_L).getD k_ none) (by omega) (by decide) rfl (rfl) ?_
  · intro b its hib hvb
    exact k_nO_lt hib hvb
  · intro b its e_b hib hvb its' hsb hkb
    have hvb : its < 64 := hvb
    refine (ex_4_2 (ex_0 ?_))
    refine ex_ic3 (fun hc7 => by exfalso; omega) (fun hc7 => ?_)
    refine (ex_6_0 (ix_46 (S' := [(.inl (((wh (ρ 8).toNat) : Nat) : Int))]) rfl (cs_1 hS hCc) (k_standing hS hCc hcc h8) rfl rfl (ex_0 (ex_4_2 (ex_11e (am_shl1 (k := b) (by omega)) (ex_0 (ex_11e (am_not (a := (2 ^ b)) (Nat.pow_lt_pow_right (by decide) (by omega))) (ex_11e (am_andn (a := (wh (ρ 8).toNat)) (b := (2 ^ b)) (Nat.lt_trans wh_lt (by decide)) (Nat.pow_lt_pow_right (by decide) (by omega))) (ex_7_3 rfl (ex_0 (ex_7_4 rfl (ex_58 ?_))))))))))))
    refine ex_forH (b := 3) (σ := Nat) (6) (fun o its_o => k_nI ρ (ρ 8).toNat b o its_o) (fun o its_o => its_o < 64) (fun o its_o e_o => [some (.inr (.inr (some (c + 1)))), some (.inl (its_o : Int)), some (.inl (b : Int)), some (.inl ((((wh (ρ 8).toNat) &&& ((wh (ρ 8).toNat) ^^^ (2 ^ b))) : Nat) : Int)), some (.inl (o : Int)), (e_o 5)]) (fun o its_o => (G, I, P)) ?_ ?_ (6) (0) (its) (fun k_ => ([some (.inr (.inr (some (c + 1)))), some (.inl (its : Int)), some (.inl (b : Int)), some (.inl ((((wh (ρ 8).toNat) &&& ((wh (ρ 8).toNat) ^^^ (2 ^ b))) : Nat) : Int)), some (.inl 0), (e_b 5)] : am_L).getD k_ none) (by omega) (hvb) rfl (rfl) ?_
    · intro o its_o hio hvo
      exact k_nI_lt hib hvo
    · intro o its_o e_o hio hvo its_o' hso hko
      have hvo : its_o < 64 := hvo
      refine (ex_4_4 (ex_0 ?_))
      refine ex_ic3 (fun hc28 => by exfalso; omega) (fun hc28 => ?_)
      refine (ex_4_3 (ex_4_4 (ex_11e (am_shr (a := ((wh (ρ 8).toNat) &&& ((wh (ρ 8).toNat) ^^^ (2 ^ b)))) (k := o) (by omega) (Nat.lt_of_le_of_lt Nat.and_le_left (Nat.lt_trans wh_lt (by decide)))) (ex_0 (ex_11e (am_and (a := (((wh (ρ 8).toNat) &&& ((wh (ρ 8).toNat) ^^^ (2 ^ b))) >>> o)) (b := 1) (Nat.lt_of_le_of_lt (Nat.shiftRight_le _ _) (Nat.lt_of_le_of_lt Nat.and_le_left (Nat.lt_trans wh_lt (by decide)))) (by decide)) ?_)))))
      refine ex_if0 (fun hc37 => ?_) (fun hc37 => ?_)
      · refine (ex_0 (ex_58 (ex_7_5 rfl (ex_4_5 (ex_if0 (fun _ => ?_) (fun hc => by exfalso; revert hc; decide))))))
        refine (ex_10_4 ⟨by omega, by omega⟩ rfl (ex_28 ?_))
        rw [hso.trans (if_neg (by rintro ⟨z1, z2⟩; first | (rw [tb_1 z1] at hc37; exact absurd hc37 (by decide)) | omega))] at hko
        exact hko (fun k_ => ([some (.inr (.inr (some (c + 1)))), some (.inl (its_o : Int)), some (.inl (b : Int)), some (.inl ((((wh (ρ 8).toNat) &&& ((wh (ρ 8).toNat) ^^^ (2 ^ b))) : Nat) : Int)), some (.inl ((o : Int) + 1)), some (.inl 0)] : am_L).getD k_ none)
      · refine (ex_0 (ex_28 (ex_7_5 rfl (ex_4_5 (ex_if0 (fun hc => by exfalso; revert hc; decide) (fun _ => ?_))))))
        refine (ex_6_0 (ex_4_4 (ex_6_0 (ix_46 (S' := [(.inl (((wh (ρ 8).toNat) : Nat) : Int)), (.inl (o : Int)), (.inr (.inr (some (c + 1))))]) rfl (cs_1 hS hCc) (k_standing hS hCc hcc h8) rfl rfl (ix_46 (S' := [(.inl (((m_comes ρ o (wh (ρ 8).toNat)) : Nat) : Int))]) rfl (cs_1 hS hCc) (k_reach_e hS hCc hcc (fr := o) (al := (wh (ρ 8).toNat)) (by omega) wh_lt) rfl rfl (ex_0 (ex_4_2 (ex_11e (am_shl1 (k := b) (by omega)) (ex_0 (ex_11e (am_not (a := (2 ^ b)) (Nat.pow_lt_pow_right (by decide) (by omega))) (ex_11e (am_andn (a := (m_comes ρ o (wh (ρ 8).toNat))) (b := (2 ^ b)) (Nat.lt_trans (m_comes_lt (by omega)) (by decide)) (Nat.pow_lt_pow_right (by decide) (by omega))) (ex_6_0 (ex_4_4 (ex_4_3 (ix_46 (S' := [(.inl (((m_comes ρ o ((wh (ρ 8).toNat) &&& ((wh (ρ 8).toNat) ^^^ (2 ^ b)))) : Nat) : Int)), (.inl ((((m_comes ρ o (wh (ρ 8).toNat)) &&& ((m_comes ρ o (wh (ρ 8).toNat)) ^^^ (2 ^ b))) : Nat) : Int))]) rfl (cs_1 hS hCc) (k_reach_e hS hCc hcc (fr := o) (al := ((wh (ρ 8).toNat) &&& ((wh (ρ 8).toNat) ^^^ (2 ^ b)))) (by omega) (Nat.lt_of_le_of_lt Nat.and_le_left wh_lt)) rfl rfl ?_)))))))))))))))
        refine ex_ic0 (fun hc75 => ?_) (fun hc75 => ?_)
        · refine (ex_10_4 ⟨by omega, by omega⟩ rfl (ex_28 ?_))
          rw [hso.trans (if_neg (by rintro ⟨z1, z2⟩; first | (rw [tb_1 z1] at hc37; exact absurd hc37 (by decide)) | omega))] at hko
          exact hko (fun k_ => ([some (.inr (.inr (some (c + 1)))), some (.inl (its_o : Int)), some (.inl (b : Int)), some (.inl ((((wh (ρ 8).toNat) &&& ((wh (ρ 8).toNat) ^^^ (2 ^ b))) : Nat) : Int)), some (.inl ((o : Int) + 1)), some (.inl 1)] : am_L).getD k_ none)
        · refine (ex_4_1 (ex_0 (ex_4_2 (ex_11e (am_shl1 (k := b) (by omega)) (ex_11e (am_or (a := its_o) (b := (2 ^ b)) (Nat.lt_trans hvo (by decide)) (Nat.pow_lt_pow_right (by decide) (by omega))) (ex_7_1 rfl (ex_58 (ex_10_4 ⟨by omega, by omega⟩ rfl (ex_28 ?_)))))))))
          rw [hso.trans (if_pos ⟨by apply Classical.byContradiction; intro z; exact hc37 (tb_0 z), by omega⟩)] at hko
          exact hko (fun k_ => ([some (.inr (.inr (some (c + 1)))), some (.inl (((its_o ||| (2 ^ b)) : Nat) : Int)), some (.inl (b : Int)), some (.inl ((((wh (ρ 8).toNat) &&& ((wh (ρ 8).toNat) ^^^ (2 ^ b))) : Nat) : Int)), some (.inl ((o : Int) + 1)), some (.inl 1)] : am_L).getD k_ none)
    · intro its_o e_o hso hvo
      have hvo : its_o < 64 := hvo
      refine (ex_4_4 (ex_0 ?_))
      refine ex_ic3 (fun hc28 => ?_) (fun hc28 => by exfalso; omega)
      refine (ex_10_2 ⟨by omega, by omega⟩ rfl (ex_28 ?_))
      rw [hsb.trans (show k_nO ρ (ρ 8).toNat b its = its_o from hso.symm)] at hkb
      exact hkb (fun k_ => ([some (.inr (.inr (some (c + 1)))), some (.inl (its_o : Int)), some (.inl ((b : Int) + 1)), some (.inl ((((wh (ρ 8).toNat) &&& ((wh (ρ 8).toNat) ^^^ (2 ^ b))) : Nat) : Int)), some (.inl (6 : Int)), (e_o 5)] : am_L).getD k_ none)
  · intro its e_b hsb hvb
    have hvb : its < 64 := hvb
    refine (ex_4_2 (ex_0 ?_))
    refine ex_ic3 (fun hc7 => ?_) (fun hc7 => by exfalso; omega)
    refine (ex_4_1 ?_)
    exact ex_53 (by rw [hsb, k_needed_eq])
