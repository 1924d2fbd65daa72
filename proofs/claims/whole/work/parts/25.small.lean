/-! ===== the reference's small methods ===== -/
theorem am_shl1 {k : Nat} (hk : k < 31) : am_b2 6 1 k = ((2 ^ k : Nat) : Int) := by
  have e : (1 : Nat) <<< k = 2 ^ k := Nat.one_shiftLeft k
  have := am_shl (a := 1) (k := k) (by omega) (by rw [e]; exact Nat.pow_lt_pow_right (by decide) hk)
  rw [e] at this
  exact this
theorem tb_1 {s k : Nat} (h : s.testBit k = true) : (((s >>> k) &&& 1 : Nat) : Int) = 1 := by
  have := Nat.testBit_eq_decide_div_mod_eq (x := s) (i := k)
  rw [this] at h
  rw [Nat.and_one_is_mod, Nat.shiftRight_eq_div_pow]
  have := of_decide_eq_true h
  omega
theorem tb_0 {s k : Nat} (h : ¬ s.testBit k = true) : (((s >>> k) &&& 1 : Nat) : Int) = 0 := by
  have := Nat.testBit_eq_decide_div_mod_eq (x := s) (i := k)
  rw [this] at h
  rw [Nat.and_one_is_mod, Nat.shiftRight_eq_div_pow]
  have : ¬ s / 2 ^ k % 2 = 1 := fun z => h (decide_eq_true z)
  omega
theorem c_in_t {d : Nat} {G : am_G} {I : Nat → Nat → Int} {P : Nat → Nat → Option Nat} {v lo hi : Int} (hb : lo ≤ v ∧ v ≤ hi) : am_call am_B am_M (d + 1) 161 [(.inr (.inl v)), (.inr (.inl lo)), (.inr (.inl hi))] (G, I, P) = some (some (.inl 1), (G, I, P)) := by
  refine am_doL (L := [some (.inr (.inl v)), none, some (.inr (.inl lo)), none, some (.inr (.inl hi)), none]) (Nat.le_of_ble_eq_true rfl) rfl ?_
  refine (ex_5_0 (ex_5_2 ?_))
  refine ex_lc2 (fun hc3 => by exfalso; omega) (fun hc3 => ?_)
  refine (ex_5_0 (ex_5_4 ?_))
  refine ex_lc4 (fun hc10 => by exfalso; omega) (fun hc10 => ?_)
  refine (ex_0 (ex_28 ?_))
  exact ex_57 (by decide) rfl
theorem c_in_f {d : Nat} {G : am_G} {I : Nat → Nat → Int} {P : Nat → Nat → Option Nat} {v lo hi : Int} (hb : ¬ (lo ≤ v ∧ v ≤ hi)) : am_call am_B am_M (d + 1) 161 [(.inr (.inl v)), (.inr (.inl lo)), (.inr (.inl hi))] (G, I, P) = some (some (.inl 0), (G, I, P)) := by
  refine am_doL (L := [some (.inr (.inl v)), none, some (.inr (.inl lo)), none, some (.inr (.inl hi)), none]) (Nat.le_of_ble_eq_true rfl) rfl ?_
  refine (ex_5_0 (ex_5_2 ?_))
  refine ex_lc2 (fun hc3 => ?_) (fun hc3 => ?_)
  · refine (ex_0 (ex_58 ?_))
    exact ex_57 (by decide) rfl
  · refine (ex_5_0 (ex_5_4 ?_))
    refine ex_lc4 (fun hc10 => ?_) (fun hc10 => by exfalso; omega)
    refine (ex_0 (ex_58 ?_))
    exact ex_57 (by decide) rfl
theorem c_is_t {d : Nat} {G : am_G} {I : Nat → Nat → Int} {P : Nat → Nat → Option Nat} {s k : Nat} (hs : s < 2 ^ 31) (hk : k < 32) (hb : s.testBit k = true) : am_call am_B am_M (d + 1) 162 [(.inl (s : Int)), (.inl (k : Int))] (G, I, P) = some (some (.inl 1), (G, I, P)) := by
  refine am_doL (L := [some (.inl (s : Int)), some (.inl (k : Int))]) (Nat.le_of_ble_eq_true rfl) rfl ?_
  refine (ex_4_0 (ex_4_1 (ex_11e (am_shr (a := s) (k := k) (by omega) (by omega)) (ex_0 (ex_11e (am_and (a := (s >>> k)) (b := 1) (Nat.lt_of_le_of_lt (Nat.shiftRight_le _ _) (by omega)) (by decide)) (ex_0 ?_))))))
  refine ex_ic1 (fun hc6 => by exact absurd (tb_1 hb) hc6) (fun hc6 => ?_)
  refine (ex_0 (ex_28 ?_))
  exact ex_57 (by decide) rfl
theorem c_is_f {d : Nat} {G : am_G} {I : Nat → Nat → Int} {P : Nat → Nat → Option Nat} {s k : Nat} (hs : s < 2 ^ 31) (hk : k < 32) (hb : ¬ s.testBit k = true) : am_call am_B am_M (d + 1) 162 [(.inl (s : Int)), (.inl (k : Int))] (G, I, P) = some (some (.inl 0), (G, I, P)) := by
  refine am_doL (L := [some (.inl (s : Int)), some (.inl (k : Int))]) (Nat.le_of_ble_eq_true rfl) rfl ?_
  refine (ex_4_0 (ex_4_1 (ex_11e (am_shr (a := s) (k := k) (by omega) (by omega)) (ex_0 (ex_11e (am_and (a := (s >>> k)) (b := 1) (Nat.lt_of_le_of_lt (Nat.shiftRight_le _ _) (by omega)) (by decide)) (ex_0 ?_))))))
  refine ex_ic1 (fun hc6 => ?_) (fun hc6 => by exfalso; rw [tb_0 hb] at hc6; omega)
  refine (ex_0 (ex_58 ?_))
  exact ex_57 (by decide) rfl
theorem c_within_lo {d : Nat} {G : am_G} {I : Nat → Nat → Int} {P : Nat → Nat → Option Nat} {v lo hi : Int} (h : v < lo) : am_call am_B am_M (d + 1) 164 [(.inr (.inl v)), (.inl lo), (.inl hi)] (G, I, P) = some (some (.inl lo), (G, I, P)) := by
  refine am_doL (L := [some (.inr (.inl v)), none, some (.inl lo), some (.inl hi)]) (Nat.le_of_ble_eq_true rfl) rfl ?_
  refine (ex_5_0 (ex_4_2 (ex_19 ?_)))
  refine ex_lc3 (fun hc4 => by exfalso; omega) (fun hc4 => ?_)
  refine (ex_4_2 (ex_28 ?_))
  exact ex_53 rfl
theorem c_within_hi {d : Nat} {G : am_G} {I : Nat → Nat → Int} {P : Nat → Nat → Option Nat} {v lo hi : Int} (h0 : ¬ v < lo) (h : hi < v) : am_call am_B am_M (d + 1) 164 [(.inr (.inl v)), (.inl lo), (.inl hi)] (G, I, P) = some (some (.inl hi), (G, I, P)) := by
  refine am_doL (L := [some (.inr (.inl v)), none, some (.inl lo), some (.inl hi)]) (Nat.le_of_ble_eq_true rfl) rfl ?_
  refine (ex_5_0 (ex_4_2 (ex_19 ?_)))
  refine ex_lc3 (fun hc4 => ?_) (fun hc4 => by exfalso; omega)
  refine (ex_5_0 (ex_4_3 (ex_19 ?_)))
  refine ex_lc5 (fun hc15 => by exfalso; omega) (fun hc15 => ?_)
  refine (ex_4_3 (ex_28 ?_))
  exact ex_53 rfl
theorem c_within_in {d : Nat} {G : am_G} {I : Nat → Nat → Int} {P : Nat → Nat → Option Nat} {v lo hi : Int} (h0 : ¬ v < lo) (h : ¬ hi < v) (hr : am_r4 v) : am_call am_B am_M (d + 1) 164 [(.inr (.inl v)), (.inl lo), (.inl hi)] (G, I, P) = some (some (.inl v), (G, I, P)) := by
  refine am_doL (L := [some (.inr (.inl v)), none, some (.inl lo), some (.inl hi)]) (Nat.le_of_ble_eq_true rfl) rfl ?_
  refine (ex_5_0 (ex_4_2 (ex_19 ?_)))
  refine ex_lc3 (fun hc4 => ?_) (fun hc4 => by exfalso; omega)
  refine (ex_5_0 (ex_4_3 (ex_19 ?_)))
  refine ex_lc5 (fun hc15 => ?_) (fun hc15 => by exfalso; omega)
  refine (ex_5_0 (ex_20 hr (ex_58 ?_)))
  exact ex_53 rfl
def m_within (v lo hi : Int) : Int := if v < lo then lo else if hi < v then hi else v
theorem c_within {d : Nat} {h : am_H} {v lo hi : Int} (hl : am_r4 lo) (hh : am_r4 hi) : am_call am_B am_M (d + 1) 164 [.inr (.inl v), .inl lo, .inl hi] h = some (some (.inl (m_within v lo hi)), h) := by
  obtain ⟨G, I, P⟩ := h
  unfold m_within
  by_cases h0 : v < lo
  · rw [if_pos h0]; exact c_within_lo h0
  · rw [if_neg h0]
    by_cases h1 : hi < v
    · rw [if_pos h1]; exact c_within_hi h0 h1
    · rw [if_neg h1]; exact c_within_in h0 h1 ⟨by have := hl.1; omega, by have := hh.2; omega⟩
theorem c_tell_n {d : Nat} {G : am_G} {I : Nat → Nat → Int} {P : Nat → Nat → Option Nat} (hS : ST G P) {k : Nat} (h1 : 0 < k) (h2 : k < 7) (h3 : 0 ≤ I 209 k ∧ I 209 k ≤ 1000000) : am_call am_B am_M (d + 1) 165 [(.inr (.inr (some 208))), (.inl (-(k : Int)))] (G, I, P) = some (some (.inl (-(k : Int))), (G, am_u2 (am_u2 I 208 1 (-(k : Int))) 209 k (I 209 k + 1), P)) := by
  refine am_doL (L := [some (.inr (.inr (some 208))), some (.inl (-(k : Int)))]) (Nat.le_of_ble_eq_true rfl) rfl ?_
  refine (ex_6_0 (ex_4_1 ?_))
  refine ex_if3 (fun hc2 => by exfalso; omega) (fun hc2 => ?_)
  refine (ex_4_1 (ex_28 (ix_42i (sh_208 hS) (ex_4_1 ?_))))
  refine ex_if3 (fun hc14 => by exfalso; omega) (fun hc14 => ?_)
  refine (ex_6_0 (ix_41r (sh_208 hS) (pt_208_2 hS) (ex_4_1 (ex_14 ⟨by omega, by omega⟩ ?_))))
  rw [show (0 - (-(k : Int))) = (k : Int) from by omega]
  refine (ex_23 rfl (ix_30 (j := k) (sh_209 hS) (by omega) (by omega) (by omega) (u2_q (by decide)) (ex_0 (ex_add ⟨by omega, by omega⟩ (ix_34 (j := k) (sh_209 hS) (by omega) (by omega) (by omega) (ex_58 (ex_4_1 ?_)))))))
  exact ex_53 rfl
theorem c_tell_p {d : Nat} {G : am_G} {I : Nat → Nat → Int} {P : Nat → Nat → Option Nat} (hS : ST G P) {v : Int} (h1 : 0 ≤ v) : am_call am_B am_M (d + 1) 165 [(.inr (.inr (some 208))), (.inl v)] (G, I, P) = some (some (.inl v), (G, am_u2 I 208 1 0, P)) := by
  refine am_doL (L := [some (.inr (.inr (some 208))), some (.inl v)]) (Nat.le_of_ble_eq_true rfl) rfl ?_
  refine (ex_6_0 (ex_4_1 ?_))
  refine ex_if3 (fun hc2 => ?_) (fun hc2 => by exfalso; omega)
  refine (ex_0 (ex_58 (ix_42i (sh_208 hS) (ex_4_1 ?_))))
  refine ex_if3 (fun hc14 => ?_) (fun hc14 => by exfalso; omega)
  refine (ex_4_1 ?_)
  exact ex_53 rfl
theorem c_change {d : Nat} {G : am_G} {I : Nat → Nat → Int} {P : Nat → Nat → Option Nat} (hS : ST G P) {k : Nat} {v : Int} (hk : k < 5500) : am_call am_B am_M (d + 1) 166 [(.inr (.inr (some 208))), (.inl (k : Int)), (.inl v)] (G, I, P) = some (some (.inl (I 210 k)), (G, am_u2 (am_u2 I 210 k v) 208 1 0, P)) := by
  refine am_doL (L := [some (.inr (.inr (some 208))), some (.inl (k : Int)), some (.inl v), none]) (Nat.le_of_ble_eq_true rfl) rfl ?_
  refine (ex_6_0 (ix_41r (sh_208 hS) (pt_208_3 hS) (ex_4_1 (ix_30 (j := k) (sh_210 hS) (by omega) (by omega) (by omega) rfl (ex_7_3 rfl (ex_6_0 (ix_41r (sh_208 hS) (pt_208_3 hS) (ex_4_1 (ex_4_2 (ix_34 (j := k) (sh_210 hS) (by omega) (by omega) (by omega) (ex_6_0 (ex_0 (ix_42i (sh_208 hS) (ex_4_3 ?_))))))))))))))
  exact ex_53 rfl
theorem c_tell_c {d : Nat} {G : am_G} {I : Nat → Nat → Int} {P : Nat → Nat → Option Nat} (hS : ST G P) {k : Nat} {x : Int} (h1 : 0 < k) (h2 : k < 7) (hx : I 209 k = x) (h3 : 0 ≤ x ∧ x ≤ 1000000) : am_call am_B am_M (d + 1) 165 [.inr (.inr (some 208)), .inl (-(k : Int))] (G, I, P) = some (some (.inl (-(k : Int))), (G, am_u2 (am_u2 I 208 1 (-(k : Int))) 209 k (x + 1), P)) := by
  subst hx
  exact c_tell_n hS h1 h2 h3
theorem c_settled_p {d : Nat} {G : am_G} {I : Nat → Nat → Int} {P : Nat → Nat → Option Nat} (hS : ST G P) {v : Int} (h1 : 0 ≤ v) : am_call am_B am_M (d + 2) 167 [(.inr (.inr (some 208))), (.inl v)] (G, I, P) = some (some (.inl v), (G, am_u2 (am_u2 I 208 8 0) 208 1 0, P)) := by
  refine am_doL (L := [some (.inr (.inr (some 208))), some (.inl v)]) (Nat.le_of_ble_eq_true rfl) rfl ?_
  refine (ex_6_0 (ex_4_1 ?_))
  refine ex_if3 (fun hc2 => ?_) (fun hc2 => by exfalso; omega)
  refine (ex_0 (ex_58 (ix_42i (sh_208 hS) (ex_6_0 (ex_4_1 (ix_46 (S' := [(.inl v)]) rfl (sh_208 hS) (c_tell_p hS (by omega)) rfl rfl ?_))))))
  exact ex_53 rfl
theorem c_isCloud_t {d : Nat} {G : am_G} {I : Nat → Nat → Int} {P : Nat → Nat → Option Nat} (hS : ST G P) {c : Int} (h0 : 0 ≤ I 210 0 ∧ I 210 0 ≤ 6) (hb : 0 ≤ c ∧ c < I 210 0) : am_call am_B am_M (d + 2) 174 [(.inr (.inr (some 208))), (.inl c)] (G, I, P) = some (some (.inl 1), (G, I, P)) := by
  refine am_doL (L := [some (.inr (.inr (some 208))), some (.inl c)]) (Nat.le_of_ble_eq_true rfl) rfl ?_
  refine (ex_4_1 (ex_19 (ex_1 (ex_6_0 (ix_41r (sh_208 hS) (pt_208_3 hS) (ex_0 (ix_30 (j := 0) (sh_210 hS) (by decide) (by decide) rfl rfl (ex_19 (ex_1 (ex_lsub ⟨by omega, by omega⟩ ?_))))))))))
  have hb12 : ((0 : Int) ≤ c ∧ (c : Int) ≤ ((I 210 0) - 1)) := by omega
  refine (ix_45 (S' := [(.inl 1)]) rfl (c_in_t hb12) rfl rfl ?_)
  exact ex_57 (by decide) rfl
theorem c_isCloud_f {d : Nat} {G : am_G} {I : Nat → Nat → Int} {P : Nat → Nat → Option Nat} (hS : ST G P) {c : Int} (h0 : 0 ≤ I 210 0 ∧ I 210 0 ≤ 6) (hb : ¬ (0 ≤ c ∧ c < I 210 0)) : am_call am_B am_M (d + 2) 174 [(.inr (.inr (some 208))), (.inl c)] (G, I, P) = some (some (.inl 0), (G, I, P)) := by
  refine am_doL (L := [some (.inr (.inr (some 208))), some (.inl c)]) (Nat.le_of_ble_eq_true rfl) rfl ?_
  refine (ex_4_1 (ex_19 (ex_1 (ex_6_0 (ix_41r (sh_208 hS) (pt_208_3 hS) (ex_0 (ix_30 (j := 0) (sh_210 hS) (by decide) (by decide) rfl rfl (ex_19 (ex_1 (ex_lsub ⟨by omega, by omega⟩ ?_))))))))))
  have hb12 : ¬ (((0 : Int) ≤ c ∧ (c : Int) ≤ ((I 210 0) - 1))) := by omega
  refine (ix_45 (S' := [(.inl 0)]) rfl (c_in_f hb12) rfl rfl ?_)
  exact ex_57 (by decide) rfl
theorem c_isFolk_t {d : Nat} {G : am_G} {I : Nat → Nat → Int} {P : Nat → Nat → Option Nat} (hS : ST G P) {c : Int} (h0 : 0 ≤ I 210 1 ∧ I 210 1 ≤ 5) (hb : 0 ≤ c ∧ c < I 210 1) : am_call am_B am_M (d + 2) 175 [(.inr (.inr (some 208))), (.inl c)] (G, I, P) = some (some (.inl 1), (G, I, P)) := by
  refine am_doL (L := [some (.inr (.inr (some 208))), some (.inl c)]) (Nat.le_of_ble_eq_true rfl) rfl ?_
  refine (ex_4_1 (ex_19 (ex_1 (ex_6_0 (ix_41r (sh_208 hS) (pt_208_3 hS) (ex_0 (ix_30 (j := 1) (sh_210 hS) (by decide) (by decide) rfl rfl (ex_19 (ex_1 (ex_lsub ⟨by omega, by omega⟩ ?_))))))))))
  have hb12 : ((0 : Int) ≤ c ∧ (c : Int) ≤ ((I 210 1) - 1)) := by omega
  refine (ix_45 (S' := [(.inl 1)]) rfl (c_in_t hb12) rfl rfl ?_)
  exact ex_57 (by decide) rfl
theorem c_isFolk_f {d : Nat} {G : am_G} {I : Nat → Nat → Int} {P : Nat → Nat → Option Nat} (hS : ST G P) {c : Int} (h0 : 0 ≤ I 210 1 ∧ I 210 1 ≤ 5) (hb : ¬ (0 ≤ c ∧ c < I 210 1)) : am_call am_B am_M (d + 2) 175 [(.inr (.inr (some 208))), (.inl c)] (G, I, P) = some (some (.inl 0), (G, I, P)) := by
  refine am_doL (L := [some (.inr (.inr (some 208))), some (.inl c)]) (Nat.le_of_ble_eq_true rfl) rfl ?_
  refine (ex_4_1 (ex_19 (ex_1 (ex_6_0 (ix_41r (sh_208 hS) (pt_208_3 hS) (ex_0 (ix_30 (j := 1) (sh_210 hS) (by decide) (by decide) rfl rfl (ex_19 (ex_1 (ex_lsub ⟨by omega, by omega⟩ ?_))))))))))
  have hb12 : ¬ (((0 : Int) ≤ c ∧ (c : Int) ≤ ((I 210 1) - 1))) := by omega
  refine (ix_45 (S' := [(.inl 0)]) rfl (c_in_f hb12) rfl rfl ?_)
  exact ex_57 (by decide) rfl
theorem c_isBox_t {d : Nat} {G : am_G} {I : Nat → Nat → Int} {P : Nat → Nat → Option Nat} {c : Int} (hb : 0 ≤ c ∧ c < 6) : am_call am_B am_M (d + 2) 176 [(.inl c)] (G, I, P) = some (some (.inl 1), (G, I, P)) := by
  refine am_doL (L := [some (.inl c)]) (Nat.le_of_ble_eq_true rfl) rfl ?_
  refine (ex_4_0 (ex_19 (ex_1 (ex_1 ?_))))
  have hb6 : ((0 : Int) ≤ c ∧ (c : Int) ≤ 5) := by omega
  refine (ix_45 (S' := [(.inl 1)]) rfl (c_in_t hb6) rfl rfl ?_)
  exact ex_57 (by decide) rfl
theorem c_isBox_f {d : Nat} {G : am_G} {I : Nat → Nat → Int} {P : Nat → Nat → Option Nat} {c : Int} (hb : ¬ (0 ≤ c ∧ c < 6)) : am_call am_B am_M (d + 2) 176 [(.inl c)] (G, I, P) = some (some (.inl 0), (G, I, P)) := by
  refine am_doL (L := [some (.inl c)]) (Nat.le_of_ble_eq_true rfl) rfl ?_
  refine (ex_4_0 (ex_19 (ex_1 (ex_1 ?_))))
  have hb6 : ¬ (((0 : Int) ≤ c ∧ (c : Int) ≤ 5)) := by omega
  refine (ix_45 (S' := [(.inl 0)]) rfl (c_in_f hb6) rfl rfl ?_)
  exact ex_57 (by decide) rfl
theorem c_roadOf {d : Nat} {G : am_G} {I : Nat → Nat → Int} {P : Nat → Nat → Option Nat} (hS : ST G P) {b o : Nat} (hb : b < 6) (ho : o < 6) : am_call am_B am_M (d + 1) 177 [(.inr (.inr (some 208))), (.inl (b : Int)), (.inl (o : Int))] (G, I, P) = some (some (.inl (I 210 (52 + 6 * b + o))), (G, I, P)) := by
  refine am_doL (L := [some (.inr (.inr (some 208))), some (.inl (b : Int)), some (.inl (o : Int))]) (Nat.le_of_ble_eq_true rfl) rfl ?_
  refine (ex_6_0 (ix_41r (sh_208 hS) (pt_208_3 hS) (ex_0 (ex_0 (ex_4_1 (ex_mul ⟨by omega, by omega⟩ (ex_add ⟨by omega, by omega⟩ (ex_4_2 (ex_add ⟨by omega, by omega⟩ (ix_30 (j := ((52 + (6 * b)) + o)) (sh_210 hS) (by omega) (by omega) (by omega) rfl ?_))))))))))
  exact ex_53 rfl
theorem c_whole {d : Nat} {G : am_G} {I : Nat → Nat → Int} {P : Nat → Nat → Option Nat} (hS : ST G P) {s : Nat} (h8 : I 210 8 = (s : Int)) (hs : s < 64) : am_call am_B am_M (d + 1) 179 [(.inr (.inr (some 208)))] (G, I, P) = some (some (.inl ((63 &&& (63 ^^^ s) : Nat) : Int)), (G, I, P)) := by
  refine am_doL (L := [some (.inr (.inr (some 208)))]) (Nat.le_of_ble_eq_true rfl) rfl ?_
  refine (ex_0 (ex_6_0 (ix_41r (sh_208 hS) (pt_208_3 hS) (ex_0 (ix_30 (j := 8) (sh_210 hS) (by decide) (by decide) rfl h8 (ex_0 (ex_11e (am_not (a := s) (by omega)) (ex_11e (am_andn (a := 63) (b := s) (by decide) (by omega)) ?_))))))))
  exact ex_53 rfl
theorem c_ones {d : Nat} {G : am_G} {I : Nat → Nat → Int} {P : Nat → Nat → Option Nat} {s : Nat} (hs : s < 2 ^ 31) : am_call am_B am_M (d + 1) 163 [(.inl (s : Int))] (G, I, P) = some (some (.inl (am_it (fun i (n : Int) => n + ((s >>> i &&& 1 : Nat) : Int)) 6 0 0)), (G, I, P)) := by
  refine am_doL (L := [some (.inl (s : Int)), none, none]) (Nat.le_of_ble_eq_true rfl) rfl ?_
  refine (ex_0 (ex_7_1 rfl (ex_0 (ex_7_2 rfl (ex_58 ?_)))))
  refine ex_forH (b := 1) (σ := Int) (6) (fun i s_ => s_ + ((s >>> i &&& 1 : Nat) : Int)) (fun i s_ => 0 ≤ s_ ∧ s_ ≤ (i : Int)) (fun i s_ e_i => [some (.inl (s : Int)), some (.inl s_), some (.inl (i : Int))]) (fun i s_ => (G, I, P)) ?_ ?_ (6) (0) (0) (fun k => ([some (.inl (s : Int)), some (.inl 0), some (.inl 0)] : am_L).getD k none) (by omega) (⟨by decide, by decide⟩) rfl (rfl) ?_
  · intro i s_ hii hvi
    have h1 : s >>> i &&& 1 ≤ 1 := Nat.and_le_right
    show 0 ≤ s_ + ((s >>> i &&& 1 : Nat) : Int) ∧ s_ + ((s >>> i &&& 1 : Nat) : Int) ≤ ((i + 1 : Nat) : Int)
    omega
  · intro i s_ e_i hii hvi s_' hsi hki
    have h1 : s >>> i &&& 1 ≤ 1 := Nat.and_le_right
    have hvi : 0 ≤ s_ ∧ s_ ≤ (i : Int) := hvi
    refine (ex_4_2 (ex_0 ?_))
    refine ex_ic3 (fun hc7 => by exfalso; omega) (fun hc7 => ?_)
    refine (ex_4_1 (ex_4_0 (ex_4_2 (ex_11e (am_shr (a := s) (k := i) (by omega) (by omega)) (ex_0 (ex_11e (am_and (a := (s >>> i)) (b := 1) (Nat.lt_of_le_of_lt (Nat.shiftRight_le _ _) (by omega)) (by decide)) (ex_add ⟨by omega, by omega⟩ (ex_7_1 rfl (ex_10_2 ⟨by omega, by omega⟩ rfl (ex_28 ?_))))))))))
    rw [hsi] at hki
    exact hki (fun k => ([some (.inl (s : Int)), some (.inl (s_ + ((((s >>> i) &&& 1) : Nat) : Int))), some (.inl ((i : Int) + 1))] : am_L).getD k none)
  · intro s_ e_i hsi hvi
    refine (ex_4_2 (ex_0 ?_))
    refine ex_ic3 (fun hc7 => ?_) (fun hc7 => by exfalso; omega)
    refine (ex_4_1 ?_)
    exact ex_53 (by rw [hsi])
def m_sum (ρ : Nat → Int) (at_ n : Nat) : Int := am_it (fun i s => s + ρ (at_ + i)) n 0 0
theorem c_sumOfFolk {d : Nat} {G : am_G} {I : Nat → Nat → Int} {P : Nat → Nat → Option Nat} (hS : ST G P) {a F : Nat} (h1 : I 210 1 = (F : Int)) (hF : F ≤ 5) (ha : a < 100) (hb : ∀ i, i < F → 0 ≤ I 210 (a + i) ∧ I 210 (a + i) ≤ 999) : am_call am_B am_M (d + 1) 181 [(.inr (.inr (some 208))), (.inl (a : Int))] (G, I, P) = some (some (.inl (m_sum (I 210) a F)), (G, I, P)) := by
  refine am_doL (L := [some (.inr (.inr (some 208))), some (.inl (a : Int)), none, none]) (Nat.le_of_ble_eq_true rfl) rfl ?_
  refine (ex_0 (ex_7_2 rfl (ex_0 (ex_7_3 rfl (ex_58 ?_)))))
  refine ex_forH (b := 1) (σ := Int) (F) (fun i s => s + I 210 (a + i)) (fun i s => 0 ≤ s ∧ s ≤ 999 * (i : Int)) (fun i s e_i => [some (.inr (.inr (some 208))), some (.inl (a : Int)), some (.inl s), some (.inl (i : Int))]) (fun i s => (G, I, P)) ?_ ?_ (F) (0) (0) (fun k => ([some (.inr (.inr (some 208))), some (.inl (a : Int)), some (.inl 0), some (.inl 0)] : am_L).getD k none) (by omega) (⟨by decide, by decide⟩) rfl (rfl) ?_
  · intro i s hii hvi
    have h2 := hb i hii
    show 0 ≤ s + I 210 (a + i) ∧ s + I 210 (a + i) ≤ 999 * ((i + 1 : Nat) : Int)
    have hvi : 0 ≤ s ∧ s ≤ 999 * (i : Int) := hvi
    omega
  · intro i s e_i hii hvi s' hsi hki
    have h2 := hb i hii
    have hvi : 0 ≤ s ∧ s ≤ 999 * (i : Int) := hvi
    refine (ex_4_3 (ex_6_0 (ix_41r (sh_208 hS) (pt_208_3 hS) (ex_0 (ix_30 (j := 1) (sh_210 hS) (by decide) (by decide) rfl h1 ?_)))))
    refine ex_ic3 (fun hc11 => by exfalso; omega) (fun hc11 => ?_)
    refine (ex_4_2 (ex_6_0 (ix_41r (sh_208 hS) (pt_208_3 hS) (ex_4_1 (ex_4_3 (ex_add ⟨by omega, by omega⟩ (ix_30 (j := (a + i)) (sh_210 hS) (by omega) (by omega) (by omega) rfl (ex_add ⟨by omega, by omega⟩ (ex_7_2 rfl (ex_10_3 ⟨by omega, by omega⟩ rfl (ex_28 ?_)))))))))))
    rw [hsi] at hki
    exact hki (fun k => ([some (.inr (.inr (some 208))), some (.inl (a : Int)), some (.inl (s + (I 210 (a + i)))), some (.inl ((i : Int) + 1))] : am_L).getD k none)
  · intro s e_i hsi hvi
    refine (ex_4_3 (ex_6_0 (ix_41r (sh_208 hS) (pt_208_3 hS) (ex_0 (ix_30 (j := 1) (sh_210 hS) (by decide) (by decide) rfl h1 ?_)))))
    refine ex_ic3 (fun hc11 => ?_) (fun hc11 => by exfalso; omega)
    refine (ex_4_2 ?_)
    exact ex_53 (by rw [hsi]; rfl)
def m_cs (ρ : Nat → Int) (over b o s : Nat) : Nat := if s.testBit b = true ∧ over.testBit o = true ∧ 0 < ρ (52 + 6 * b + o) then s ||| 2 ^ o else s
def m_cb (ρ : Nat → Int) (over b s : Nat) : Nat := am_it (fun o s => m_cs ρ over b o s) 6 0 s
def m_cr (ρ : Nat → Int) (over s : Nat) : Nat := am_it (fun b s => m_cb ρ over b s) 6 0 s
def m_c0 (from_ over : Nat) : Nat := if over.testBit from_ = true then 2 ^ from_ else 0
def m_comes (ρ : Nat → Int) (from_ over : Nat) : Nat := am_it (fun _ s => m_cr ρ over s) 6 0 (m_c0 from_ over)
theorem m_cs_lt {ρ : Nat → Int} {over b o s : Nat} (ho : o < 6) (hs : s < 64) : m_cs ρ over b o s < 64 := by
  unfold m_cs
  split
  · exact Nat.or_lt_two_pow (n := 6) hs (Nat.pow_lt_pow_right (by decide) ho)
  · exact hs
theorem m_cb_lt {ρ : Nat → Int} {over b s : Nat} (hs : s < 64) : m_cb ρ over b s < 64 := am_it_inv (inv := fun _ s => s < 64) (N := 6) (fun _ _ hi h => m_cs_lt hi h) 6 0 s rfl hs
theorem m_cr_lt {ρ : Nat → Int} {over s : Nat} (hs : s < 64) : m_cr ρ over s < 64 := am_it_inv (inv := fun _ s => s < 64) (N := 6) (fun _ _ _ h => m_cb_lt h) 6 0 s rfl hs
theorem m_c0_lt {from_ over : Nat} (hf : from_ < 6) : m_c0 from_ over < 64 := by
  unfold m_c0
  split
  · exact Nat.pow_lt_pow_right (n := 6) (by decide) hf
  · decide
theorem m_comes_lt {ρ : Nat → Int} {from_ over : Nat} (hf : from_ < 6) : m_comes ρ from_ over < 64 := am_it_inv (inv := fun _ s => s < 64) (N := 6) (fun _ _ _ h => m_cr_lt h) 6 0 _ rfl (m_c0_lt hf)
theorem c_comesTo_3 {d : Nat} {G : am_G} {I : Nat → Nat → Int} {P : Nat → Nat → Option Nat} (hS : ST G P) {from_ over : Nat} (hf : from_ < 6) (ho : over < 64) : am_ex (am_call am_B am_M (d + 1)) (am_B 178) (am_B 178 3) [some (.inr (.inr (some 208))), some (.inl (from_ : Int)), some (.inl (over : Int)), none, none, none, none] [(.inl ((m_c0 from_ over) : Int))] (G, I, P) (fun z => z = (some (.inl ((m_comes (I 210) from_ over : Nat) : Int)), (G, I, P))) := by
  refine (ex_7_3 rfl (ex_0 (ex_7_4 rfl (ex_58 ?_))))
  refine ex_forH (b := 4) (σ := Nat) (6) (fun r s_r => m_cr (I 210) over s_r) (fun r s_r => s_r < 64) (fun r s_r e_r => [some (.inr (.inr (some 208))), some (.inl (from_ : Int)), some (.inl (over : Int)), some (.inl (s_r : Int)), some (.inl (r : Int)), (e_r 5), (e_r 6)]) (fun r s_r => (G, I, P)) ?_ ?_ (6) (0) (m_c0 from_ over) (fun k => ([some (.inr (.inr (some 208))), some (.inl (from_ : Int)), some (.inl (over : Int)), some (.inl ((m_c0 from_ over) : Int)), some (.inl 0), none, none] : am_L).getD k none) (by omega) (m_c0_lt hf) rfl (rfl) ?_
  · intro r s_r hir hvr
    exact m_cr_lt hvr
  · intro r s_r e_r hir hvr s_r' hsr hkr
    have hvr : s_r < 64 := hvr
    refine (ex_4_4 (ex_0 ?_))
    refine ex_ic3 (fun hc23 => by exfalso; omega) (fun hc23 => ?_)
    refine (ex_0 (ex_7_5 rfl (ex_58 ?_)))
    refine ex_forH (b := 6) (σ := Nat) (6) (fun b s_b => m_cb (I 210) over b s_b) (fun b s_b => s_b < 64) (fun b s_b e_b => [some (.inr (.inr (some 208))), some (.inl (from_ : Int)), some (.inl (over : Int)), some (.inl (s_b : Int)), some (.inl (r : Int)), some (.inl (b : Int)), (e_b 6)]) (fun b s_b => (G, I, P)) ?_ ?_ (6) (0) (s_r) (fun k => ([some (.inr (.inr (some 208))), some (.inl (from_ : Int)), some (.inl (over : Int)), some (.inl (s_r : Int)), some (.inl (r : Int)), some (.inl 0), (e_r 6)] : am_L).getD k none) (by omega) (hvr) rfl (rfl) ?_
    · intro b s_b hib hvb
      exact m_cb_lt hvb
    · intro b s_b e_b hib hvb s_b' hsb hkb
      have hvb : s_b < 64 := hvb
      refine (ex_4_5 (ex_0 ?_))
      refine ex_ic3 (fun hc33 => by exfalso; omega) (fun hc33 => ?_)
      refine (ex_0 (ex_7_6 rfl (ex_58 ?_)))
      refine ex_forH (b := 8) (σ := Nat) (6) (fun o s_o => m_cs (I 210) over b o s_o) (fun o s_o => s_o < 64) (fun o s_o e_o => [some (.inr (.inr (some 208))), some (.inl (from_ : Int)), some (.inl (over : Int)), some (.inl (s_o : Int)), some (.inl (r : Int)), some (.inl (b : Int)), some (.inl (o : Int))]) (fun o s_o => (G, I, P)) ?_ ?_ (6) (0) (s_b) (fun k => ([some (.inr (.inr (some 208))), some (.inl (from_ : Int)), some (.inl (over : Int)), some (.inl (s_b : Int)), some (.inl (r : Int)), some (.inl (b : Int)), some (.inl 0)] : am_L).getD k none) (by omega) (hvb) rfl (rfl) ?_
      · intro o s_o hio hvo
        exact m_cs_lt hio hvo
      · intro o s_o e_o hio hvo s_o' hso hko
        have hvo : s_o < 64 := hvo
        refine (ex_4_6 (ex_0 ?_))
        refine ex_ic3 (fun hc43 => by exfalso; omega) (fun hc43 => ?_)
        refine (ex_4_3 (ex_4_3 (ex_4_5 ?_)))
        by_cases hb50 : (Nat.testBit s_o b = true)
        · refine (ix_45 (S' := [(.inl 1), (.inl (s_o : Int))]) rfl (c_is_t (by omega) (by omega) hb50) rfl rfl (ex_if0 (fun hc => by exfalso; revert hc; decide) (fun _ => ?_)))
          refine (ex_4_2 (ex_4_6 ?_))
          by_cases hb59 : (Nat.testBit over o = true)
          · refine (ix_45 (S' := [(.inl 1), (.inl (s_o : Int))]) rfl (c_is_t (by omega) (by omega) hb59) rfl rfl (ex_if0 (fun hc => by exfalso; revert hc; decide) (fun _ => ?_)))
            refine (ex_6_0 (ex_4_5 (ex_4_6 (ix_46 (S' := [(.inl (I 210 (52 + 6 * b + o))), (.inl (s_o : Int))]) rfl (sh_208 hS) (c_roadOf hS (b := b) (o := o) (by omega) (by omega)) rfl rfl ?_))))
            refine ex_if5 (fun hc73 => ?_) (fun hc73 => ?_)
            · refine (ex_0 (ex_58 (ex_11e (am_or (a := s_o) (b := 0) (by omega) (by decide)) (ex_7_3 rfl (ex_10_6 ⟨by omega, by omega⟩ rfl (ex_28 ?_))))))
              have e : s_o' = s_o := hso.trans (if_neg (by intro z; first | exact hb50 z.1 | exact hb59 z.2.1 | exact absurd z.2.2 (by omega)))
              rw [Nat.or_zero]
              rw [e] at hko
              exact hko (fun k => ([some (.inr (.inr (some 208))), some (.inl (from_ : Int)), some (.inl (over : Int)), some (.inl (((s_o ||| 0) : Nat) : Int)), some (.inl (r : Int)), some (.inl (b : Int)), some (.inl ((o : Int) + 1))] : am_L).getD k none)
            · refine (ex_0 (ex_4_6 (ex_11e (am_shl1 (k := o) (by omega)) (ex_28 (ex_11e (am_or (a := s_o) (b := (2 ^ o)) (by omega) (Nat.pow_lt_pow_right (by decide) (by omega))) (ex_7_3 rfl (ex_10_6 ⟨by omega, by omega⟩ rfl (ex_28 ?_))))))))
              have e : s_o' = (s_o ||| 2 ^ o) := hso.trans (if_pos ⟨hb50, hb59, by omega⟩)
              rw [e] at hko
              exact hko (fun k => ([some (.inr (.inr (some 208))), some (.inl (from_ : Int)), some (.inl (over : Int)), some (.inl (((s_o ||| (2 ^ o)) : Nat) : Int)), some (.inl (r : Int)), some (.inl (b : Int)), some (.inl ((o : Int) + 1))] : am_L).getD k none)
          · refine (ix_45 (S' := [(.inl 0), (.inl (s_o : Int))]) rfl (c_is_f (by omega) (by omega) hb59) rfl rfl (ex_if0 (fun _ => ?_) (fun hc => by exfalso; revert hc; decide)))
            refine (ex_0 (ex_58 (ex_11e (am_or (a := s_o) (b := 0) (by omega) (by decide)) (ex_7_3 rfl (ex_10_6 ⟨by omega, by omega⟩ rfl (ex_28 ?_))))))
            have e : s_o' = s_o := hso.trans (if_neg (by intro z; first | exact hb50 z.1 | exact hb59 z.2.1 | exact absurd z.2.2 (by omega)))
            rw [Nat.or_zero]
            rw [e] at hko
            exact hko (fun k => ([some (.inr (.inr (some 208))), some (.inl (from_ : Int)), some (.inl (over : Int)), some (.inl (((s_o ||| 0) : Nat) : Int)), some (.inl (r : Int)), some (.inl (b : Int)), some (.inl ((o : Int) + 1))] : am_L).getD k none)
        · refine (ix_45 (S' := [(.inl 0), (.inl (s_o : Int))]) rfl (c_is_f (by omega) (by omega) hb50) rfl rfl (ex_if0 (fun _ => ?_) (fun hc => by exfalso; revert hc; decide)))
          refine (ex_0 (ex_58 (ex_11e (am_or (a := s_o) (b := 0) (by omega) (by decide)) (ex_7_3 rfl (ex_10_6 ⟨by omega, by omega⟩ rfl (ex_28 ?_))))))
          have e : s_o' = s_o := hso.trans (if_neg (by intro z; first | exact hb50 z.1 | exact hb59 z.2.1 | exact absurd z.2.2 (by omega)))
          rw [Nat.or_zero]
          rw [e] at hko
          exact hko (fun k => ([some (.inr (.inr (some 208))), some (.inl (from_ : Int)), some (.inl (over : Int)), some (.inl (((s_o ||| 0) : Nat) : Int)), some (.inl (r : Int)), some (.inl (b : Int)), some (.inl ((o : Int) + 1))] : am_L).getD k none)
      · intro s_o e_o hso hvo
        refine (ex_4_6 (ex_0 ?_))
        refine ex_ic3 (fun hc43 => ?_) (fun hc43 => by exfalso; omega)
        refine (ex_10_5 ⟨by omega, by omega⟩ rfl (ex_28 ?_))
        rw [hsb.trans (show m_cb (I 210) over b s_b = s_o from hso.symm)] at hkb
        exact hkb (fun k => ([some (.inr (.inr (some 208))), some (.inl (from_ : Int)), some (.inl (over : Int)), some (.inl (s_o : Int)), some (.inl (r : Int)), some (.inl ((b : Int) + 1)), some (.inl (6 : Int))] : am_L).getD k none)
    · intro s_b e_b hsb hvb
      refine (ex_4_5 (ex_0 ?_))
      refine ex_ic3 (fun hc33 => ?_) (fun hc33 => by exfalso; omega)
      refine (ex_10_4 ⟨by omega, by omega⟩ rfl (ex_28 ?_))
      rw [hsr.trans (show m_cr (I 210) over s_r = s_b from hsb.symm)] at hkr
      exact hkr (fun k => ([some (.inr (.inr (some 208))), some (.inl (from_ : Int)), some (.inl (over : Int)), some (.inl (s_b : Int)), some (.inl ((r : Int) + 1)), some (.inl (6 : Int)), (e_b 6)] : am_L).getD k none)
  · intro s_r e_r hsr hvr
    refine (ex_4_4 (ex_0 ?_))
    refine ex_ic3 (fun hc23 => ?_) (fun hc23 => by exfalso; omega)
    refine (ex_4_3 ?_)
    exact ex_53 (by rw [hsr]; rfl)
theorem c_comesTo {d : Nat} {G : am_G} {I : Nat → Nat → Int} {P : Nat → Nat → Option Nat} (hS : ST G P) {from_ over : Nat} (hf : from_ < 6) (ho : over < 64) : am_call am_B am_M (d + 2) 178 [(.inr (.inr (some 208))), (.inl (from_ : Int)), (.inl (over : Int))] (G, I, P) = some (some (.inl ((m_comes (I 210) from_ over : Nat) : Int)), (G, I, P)) := by
  refine am_doL (L := [some (.inr (.inr (some 208))), some (.inl (from_ : Int)), some (.inl (over : Int)), none, none, none, none]) (Nat.le_of_ble_eq_true rfl) rfl ?_
  refine (ex_4_2 (ex_4_1 ?_))
  by_cases hb2 : (Nat.testBit over from_ = true)
  · refine (ix_45 (S' := [(.inl 1)]) rfl (c_is_t (by omega) (by omega) hb2) rfl rfl (ex_if0 (fun hc => by exfalso; revert hc; decide) (fun _ => ?_)))
    refine (ex_0 (ex_4_1 (ex_11e (am_shl1 (k := from_) (by omega)) (ex_28 ?_))))
    have e := c_comesTo_3 (d := d) (I := I) hS hf ho
    rw [show m_c0 from_ over = (2 ^ from_) from if_pos hb2] at e
    exact e
  · refine (ix_45 (S' := [(.inl 0)]) rfl (c_is_f (by omega) (by omega) hb2) rfl rfl (ex_if0 (fun _ => ?_) (fun hc => by exfalso; revert hc; decide)))
    refine (ex_0 (ex_58 ?_))
    have e := c_comesTo_3 (d := d) (I := I) hS hf ho
    rw [show m_c0 from_ over = 0 from if_neg hb2] at e
    exact e
