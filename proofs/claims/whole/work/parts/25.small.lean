/-! ===== the reference's small methods ===== -/
theorem am_shl1 {k : Nat} (hk : k < 31) : am_b2 6 1 k = ((2 ^ k : Nat) : Int) := by
  have e : (1 : Nat) <<< k = 2 ^ k := Nat.one_shiftLeft k
  have := am_shl (a := 1) (k := k) (by omega) (by rw [e]; exact Nat.pow_lt_pow_right (by decide) hk)
  rw [e] at this
  exact this
theorem tb_1 {s k : Nat} (h : s.testBit k = true) : (((s >>> k) &&& 1 : Nat) : Int) = 1 := by
  have := Nat.testBit_eq_decide_div_mod_eq (x := s) (i := k)
  rw [this] at h
  rw [Nat.and_one_is_mod, Nat.shiftRight_eq_div_pow]
  have := of_decide_eq_true h
  omega
theorem tb_0 {s k : Nat} (h : ¬ s.testBit k = true) : (((s >>> k) &&& 1 : Nat) : Int) = 0 := by
  have := Nat.testBit_eq_decide_div_mod_eq (x := s) (i := k)
  rw [this] at h
  rw [Nat.and_one_is_mod, Nat.shiftRight_eq_div_pow]
  have : ¬ s / 2 ^ k % 2 = 1 := fun z => h (decide_eq_true z)
  omega
theorem c_in_t {d : Nat} {G : am_G} {I : Nat → Nat → Int} {P : Nat → Nat → Option Nat} {v lo hi : Int} (hb : lo ≤ v ∧ v ≤ hi) : am_call am_B am_M (d + 1) 161 [(.inr (.inl v)), (.inr (.inl lo)), (.inr (.inl hi))] (G, I, P) = some (some (.inl 1), (G, I, P)) := by
  refine am_doL (L := [some (.inr (.inl v)), none, some (.inr (.inl lo)), none, some (.inr (.inl hi)), none]) (Nat.le_of_ble_eq_true rfl) rfl ?_
  refine (ex_5_0 (ex_5_2 ?_))
  refine ex_lc2 (fun hc3 => by exfalso; omega) (fun hc3 => ?_)
  refine (ex_5_0 (ex_5_4 ?_))
  refine ex_lc4 (fun hc10 => by exfalso; omega) (fun hc10 => ?_)
  refine (ex_0 (ex_28 ?_))
  exact ex_57 (by decide) rfl
theorem c_in_f {d : Nat} {G : am_G} {I : Nat → Nat → Int} {P : Nat → Nat → Option Nat} {v lo hi : Int} (hb : ¬ (lo ≤ v ∧ v ≤ hi)) : am_call am_B am_M (d + 1) 161 [(.inr (.inl v)), (.inr (.inl lo)), (.inr (.inl hi))] (G, I, P) = some (some (.inl 0), (G, I, P)) := by
  refine am_doL (L := [some (.inr (.inl v)), none, some (.inr (.inl lo)), none, some (.inr (.inl hi)), none]) (Nat.le_of_ble_eq_true rfl) rfl ?_
  refine (ex_5_0 (ex_5_2 ?_))
  refine ex_lc2 (fun hc3 => ?_) (fun hc3 => ?_)
  · refine (ex_0 (ex_58 ?_))
    exact ex_57 (by decide) rfl
  · refine (ex_5_0 (ex_5_4 ?_))
    refine ex_lc4 (fun hc10 => ?_) (fun hc10 => by exfalso; omega)
    refine (ex_0 (ex_58 ?_))
    exact ex_57 (by decide) rfl
theorem c_is_t {d : Nat} {G : am_G} {I : Nat → Nat → Int} {P : Nat → Nat → Option Nat} {s k : Nat} (hs : s < 2 ^ 31) (hk : k < 32) (hb : s.testBit k = true) : am_call am_B am_M (d + 1) 162 [(.inl (s : Int)), (.inl (k : Int))] (G, I, P) = some (some (.inl 1), (G, I, P)) := by
  refine am_doL (L := [some (.inl (s : Int)), some (.inl (k : Int))]) (Nat.le_of_ble_eq_true rfl) rfl ?_
  refine (ex_4_0 (ex_4_1 (ex_11e (am_shr (a := s) (k := k) (by omega) (by omega)) (ex_0 (ex_11e (am_and (a := (s >>> k)) (b := 1) (Nat.lt_of_le_of_lt (Nat.shiftRight_le _ _) (by omega)) (by decide)) (ex_0 ?_))))))
  refine ex_ic1 (fun hc6 => by exact absurd (tb_1 hb) hc6) (fun hc6 => ?_)
  refine (ex_0 (ex_28 ?_))
  exact ex_57 (by decide) rfl
theorem c_is_f {d : Nat} {G : am_G} {I : Nat → Nat → Int} {P : Nat → Nat → Option Nat} {s k : Nat} (hs : s < 2 ^ 31) (hk : k < 32) (hb : ¬ s.testBit k = true) : am_call am_B am_M (d + 1) 162 [(.inl (s : Int)), (.inl (k : Int))] (G, I, P) = some (some (.inl 0), (G, I, P)) := by
  refine am_doL (L := [some (.inl (s : Int)), some (.inl (k : Int))]) (Nat.le_of_ble_eq_true rfl) rfl ?_
  refine (ex_4_0 (ex_4_1 (ex_11e (am_shr (a := s) (k := k) (by omega) (by omega)) (ex_0 (ex_11e (am_and (a := (s >>> k)) (b := 1) (Nat.lt_of_le_of_lt (Nat.shiftRight_le _ _) (by omega)) (by decide)) (ex_0 ?_))))))
  refine ex_ic1 (fun hc6 => ?_) (fun hc6 => by exfalso; rw [tb_0 hb] at hc6; omega)
  refine (ex_0 (ex_58 ?_))
  exact ex_57 (by decide) rfl
theorem c_within_lo {d : Nat} {G : am_G} {I : Nat → Nat → Int} {P : Nat → Nat → Option Nat} {v lo hi : Int} (h : v < lo) : am_call am_B am_M (d + 1) 164 [(.inr (.inl v)), (.inl lo), (.inl hi)] (G, I, P) = some (some (.inl lo), (G, I, P)) := by
  refine am_doL (L := [some (.inr (.inl v)), none, some (.inl lo), some (.inl hi)]) (Nat.le_of_ble_eq_true rfl) rfl ?_
  refine (ex_5_0 (ex_4_2 (ex_19 ?_)))
  refine ex_lc3 (fun hc4 => by exfalso; omega) (fun hc4 => ?_)
  refine (ex_4_2 (ex_28 ?_))
  exact ex_53 rfl
theorem c_within_hi {d : Nat} {G : am_G} {I : Nat → Nat → Int} {P : Nat → Nat → Option Nat} {v lo hi : Int} (h0 : ¬ v < lo) (h : hi < v) : am_call am_B am_M (d + 1) 164 [(.inr (.inl v)), (.inl lo), (.inl hi)] (G, I, P) = some (some (.inl hi), (G, I, P)) := by
  refine am_doL (L := [some (.inr (.inl v)), none, some (.inl lo), some (.inl hi)]) (Nat.le_of_ble_eq_true rfl) rfl ?_
  refine (ex_5_0 (ex_4_2 (ex_19 ?_)))
  refine ex_lc3 (fun hc4 => ?_) (fun hc4 => by exfalso; omega)
  refine (ex_5_0 (ex_4_3 (ex_19 ?_)))
  refine ex_lc5 (fun hc15 => by exfalso; omega) (fun hc15 => ?_)
  refine (ex_4_3 (ex_28 ?_))
  exact ex_53 rfl
theorem c_within_in {d : Nat} {G : am_G} {I : Nat → Nat → Int} {P : Nat → Nat → Option Nat} {v lo hi : Int} (h0 : ¬ v < lo) (h : ¬ hi < v) (hr : am_r4 v) : am_call am_B am_M (d + 1) 164 [(.inr (.inl v)), (.inl lo), (.inl hi)] (G, I, P) = some (some (.inl v), (G, I, P)) := by
  refine am_doL (L := [some (.inr (.inl v)), none, some (.inl lo), some (.inl hi)]) (Nat.le_of_ble_eq_true rfl) rfl ?_
  refine (ex_5_0 (ex_4_2 (ex_19 ?_)))
  refine ex_lc3 (fun hc4 => ?_) (fun hc4 => by exfalso; omega)
  refine (ex_5_0 (ex_4_3 (ex_19 ?_)))
  refine ex_lc5 (fun hc15 => ?_) (fun hc15 => by exfalso; omega)
  refine (ex_5_0 (ex_20 hr (ex_58 ?_)))
  exact ex_53 rfl
def m_within (v lo hi : Int) : Int := if v < lo then lo else if hi < v then hi else v
theorem c_within {d : Nat} {h : am_H} {v lo hi : Int} (hl : am_r4 lo) (hh : am_r4 hi) : am_call am_B am_M (d + 1) 164 [.inr (.inl v), .inl lo, .inl hi] h = some (some (.inl (m_within v lo hi)), h) := by
  obtain ⟨G, I, P⟩ := h
  unfold m_within
  by_cases h0 : v < lo
  · rw [if_pos h0]; exact c_within_lo h0
  · rw [if_neg h0]
    by_cases h1 : hi < v
    · rw [if_pos h1]; exact c_within_hi h0 h1
    · rw [if_neg h1]; exact c_within_in h0 h1 ⟨by have := hl.1; omega, by have := hh.2; omega⟩
theorem c_tell_n {d : Nat} {G : am_G} {I : Nat → Nat → Int} {P : Nat → Nat → Option Nat} (hS : ST G P) {k : Nat} (h1 : 0 < k) (h2 : k < 7) (h3 : 0 ≤ I 209 k ∧ I 209 k ≤ 1000000) : am_call am_B am_M (d + 1) 165 [(.inr (.inr (some 208))), (.inl (-(k : Int)))] (G, I, P) = some (some (.inl (-(k : Int))), (G, am_u2 (am_u2 I 208 1 (-(k : Int))) 209 k (I 209 k + 1), P)) := by
  refine am_doL (L := [some (.inr (.inr (some 208))), some (.inl (-(k : Int)))]) (Nat.le_of_ble_eq_true rfl) rfl ?_
  refine (ex_6_0 (ex_4_1 ?_))
  refine ex_if3 (fun hc2 => by exfalso; omega) (fun hc2 => ?_)
  refine (ex_4_1 (ex_28 (ix_42i (sh_208 hS) (ex_4_1 ?_))))
  refine ex_if3 (fun hc14 => by exfalso; omega) (fun hc14 => ?_)
  refine (ex_6_0 (ix_41r (sh_208 hS) (pt_208_2 hS) (ex_4_1 (ex_14 ⟨by omega, by omega⟩ ?_))))
  rw [show (0 - (-(k : Int))) = (k : Int) from by omega]
  refine (ex_23 rfl (ix_30 (j := k) (sh_209 hS) (by omega) (by omega) (by omega) (u2_q (by decide)) (ex_0 (ex_add ⟨by omega, by omega⟩ (ix_34 (j := k) (sh_209 hS) (by omega) (by omega) (by omega) (ex_58 (ex_4_1 ?_)))))))
  exact ex_53 rfl
theorem c_tell_p {d : Nat} {G : am_G} {I : Nat → Nat → Int} {P : Nat → Nat → Option Nat} (hS : ST G P) {v : Int} (h1 : 0 ≤ v) : am_call am_B am_M (d + 1) 165 [(.inr (.inr (some 208))), (.inl v)] (G, I, P) = some (some (.inl v), (G, am_u2 I 208 1 0, P)) := by
  refine am_doL (L := [some (.inr (.inr (some 208))), some (.inl v)]) (Nat.le_of_ble_eq_true rfl) rfl ?_
  refine (ex_6_0 (ex_4_1 ?_))
  refine ex_if3 (fun hc2 => ?_) (fun hc2 => by exfalso; omega)
  refine (ex_0 (ex_58 (ix_42i (sh_208 hS) (ex_4_1 ?_))))
  refine ex_if3 (fun hc14 => ?_) (fun hc14 => by exfalso; omega)
  refine (ex_4_1 ?_)
  exact ex_53 rfl
