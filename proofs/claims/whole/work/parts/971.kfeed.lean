/-! ===== the class: the tape is fed ===== -/
theorem am_oct {x : Int} : am_b2 3 x 255 = (((Int32.ofInt x).toBitVec.toNat % 256 : Nat) : Int) := by
  show (Int32.ofInt x &&& Int32.ofInt 255).toBitVec.toInt = _
  refine bv_toInt ?_ (by omega)
  rw [Int32.toBitVec_and, BitVec.toNat_and]
  exact Nat.and_two_pow_sub_one_eq_mod _ 8
theorem oct_b {x : Int} : 0 ≤ am_b2 3 x 255 ∧ am_b2 3 x 255 ≤ 255 := by rw [am_oct]; omega
theorem am_by_sb {x : Int} : am_by x = sb (am_b2 3 x 255) := by
  rw [am_oct]
  show (Int32.ofInt x).toInt8.toInt32.toInt = _
  rw [Int8.toInt_toInt32, Int32.toInt_toInt8, Int.bmod_def]
  have e : (Int32.ofInt x).toInt = if 2 * (Int32.ofInt x).toBitVec.toNat < 2 ^ 32 then (((Int32.ofInt x).toBitVec.toNat : Nat) : Int) else (((Int32.ofInt x).toBitVec.toNat : Nat) : Int) - ((2 ^ 32 : Nat) : Int) := BitVec.toInt_eq_toNat_cond _
  rw [e]
  generalize (Int32.ofInt x).toBitVec.toNat = m
  unfold sb
  (repeat' split) <;> omega
theorem am_by_id {z : Int} (h : -128 ≤ z ∧ z ≤ 127) : am_by z = z := by
  show (Int32.ofInt z).toInt8.toInt32.toInt = _
  rw [Int8.toInt_toInt32, Int32.toInt_toInt8, am_of4 ⟨by omega, by omega⟩, Int.bmod_def]
  (repeat' split) <;> omega
theorem am_by2 {x : Int} : am_by (am_by x) = sb (am_b2 3 x 255) := by
  rw [am_by_sb (x := x)]
  have := oct_b (x := x)
  exact am_by_id (by unfold sb; split <;> omega)
theorem k_add4 {d : Nat} {G : am_G} {I : Nat → Nat → Int} {P : Nat → Nat → Option Nat} (hS : ST G P) {v : Int} {t : Nat} (ht : I 64 13 = (t : Int)) (hl : t + 4 ≤ 400) {tb : Nat → Int} (htb : ∀ j, j < t → I 171 j = sb (tb j)) : ∃ I1, am_call am_B am_M (d + 2) 156 [(.inr (.inr (some 64))), (.inl v)] (G, I, P) = some (none, (G, I1, P)) ∧ (I1 64 13 = ((t + 4 : Nat) : Int) ∧ (∀ j, j < t + 4 → I1 171 j = sb (m_put4 tb t v j)) ∧ (∀ q k, ¬ q = 171 → ¬ (q = 64 ∧ k = 13) → I1 q k = I q k)) := by
  have w : am_ex (am_call am_B am_M (d + 1)) (am_B 156) (am_B 156 0) [some (.inr (.inr (some 64))), some (.inl v), none] [] (G, I, P) (fun o => ∃ I1, o = (none, (G, I1, P)) ∧ (I1 64 13 = ((t + 4 : Nat) : Int) ∧ (∀ j, j < t + 4 → I1 171 j = sb (m_put4 tb t v j)) ∧ (∀ q k, ¬ q = 171 → ¬ (q = 64 ∧ k = 13) → I1 q k = I q k))) := by
    refine (ex_0 (ex_7_2 rfl (ex_58 (ex_4_2 (ex_if2 (fun hc => by exfalso; revert hc; decide) (fun _ => ?_))))))
    refine (ex_6_0 (ix_41i (v := (t : Int)) (sh_64 hS) ht (ex_0 ?_)))
    refine ex_ic3 (fun hc14 => by exfalso; omega) (fun hc14 => ?_)
    refine (ex_6_0 (ix_41r (sh_64 hS) (pt_64_10 hS) (ex_6_0 (ix_41i (v := (t : Int)) (sh_64 hS) ht (ex_4_1 (ex_4_2 (ex_11e (v := (am_b2 7 v 24)) rfl (ex_21 (ix_35b (j := t) (sh_171 hS) (by omega) (by omega) (by omega) (am_by2 (x := (am_b2 7 v 24))) (ex_6_0 (ex_22 rfl (ix_41i (v := (t : Int)) (sh_64 hS) ((u2_q (by decide)).trans ht) (ex_0 (ex_add ⟨by omega, by omega⟩ (ix_42i (sh_64 hS) (ex_58 (ex_10_2 ⟨by omega, by omega⟩ rfl (ex_28 (ex_4_2 (ex_if2 (fun hc => by exfalso; revert hc; decide) (fun _ => ?_)))))))))))))))))))))
    refine (ex_6_0 (ix_41i (v := ((t : Int) + 1)) (sh_64 hS) u2_e (ex_0 ?_)))
    refine ex_ic3 (fun hc14 => by exfalso; omega) (fun hc14 => ?_)
    refine (ex_6_0 (ix_41r (sh_64 hS) (pt_64_10 hS) (ex_6_0 (ix_41i (v := ((t : Int) + 1)) (sh_64 hS) u2_e (ex_4_1 (ex_4_2 (ex_11e (v := (am_b2 7 v 16)) rfl (ex_21 (ix_35b (j := (t + 1)) (sh_171 hS) (by omega) (by omega) (by omega) (am_by2 (x := (am_b2 7 v 16))) (ex_6_0 (ex_22 rfl (ix_41i (v := ((t : Int) + 1)) (sh_64 hS) ((u2_q (by decide)).trans u2_e) (ex_0 (ex_add ⟨by omega, by omega⟩ (ix_42i (sh_64 hS) (ex_58 (ex_10_2 ⟨by omega, by omega⟩ rfl (ex_28 (ex_4_2 (ex_if2 (fun hc => by exfalso; revert hc; decide) (fun _ => ?_)))))))))))))))))))))
    refine (ex_6_0 (ix_41i (v := (((t : Int) + 1) + 1)) (sh_64 hS) u2_e (ex_0 ?_)))
    refine ex_ic3 (fun hc14 => by exfalso; omega) (fun hc14 => ?_)
    refine (ex_6_0 (ix_41r (sh_64 hS) (pt_64_10 hS) (ex_6_0 (ix_41i (v := (((t : Int) + 1) + 1)) (sh_64 hS) u2_e (ex_4_1 (ex_4_2 (ex_11e (v := (am_b2 7 v 8)) rfl (ex_21 (ix_35b (j := ((t + 1) + 1)) (sh_171 hS) (by omega) (by omega) (by omega) (am_by2 (x := (am_b2 7 v 8))) (ex_6_0 (ex_22 rfl (ix_41i (v := (((t : Int) + 1) + 1)) (sh_64 hS) ((u2_q (by decide)).trans u2_e) (ex_0 (ex_add ⟨by omega, by omega⟩ (ix_42i (sh_64 hS) (ex_58 (ex_10_2 ⟨by omega, by omega⟩ rfl (ex_28 (ex_4_2 (ex_if2 (fun hc => by exfalso; revert hc; decide) (fun _ => ?_)))))))))))))))))))))
    refine (ex_6_0 (ix_41i (v := ((((t : Int) + 1) + 1) + 1)) (sh_64 hS) u2_e (ex_0 ?_)))
    refine ex_ic3 (fun hc14 => by exfalso; omega) (fun hc14 => ?_)
    refine (ex_6_0 (ix_41r (sh_64 hS) (pt_64_10 hS) (ex_6_0 (ix_41i (v := ((((t : Int) + 1) + 1) + 1)) (sh_64 hS) u2_e (ex_4_1 (ex_4_2 (ex_11e (v := (am_b2 7 v 0)) rfl (ex_21 (ix_35b (j := (((t + 1) + 1) + 1)) (sh_171 hS) (by omega) (by omega) (by omega) (am_by2 (x := (am_b2 7 v 0))) (ex_6_0 (ex_22 rfl (ix_41i (v := ((((t : Int) + 1) + 1) + 1)) (sh_64 hS) ((u2_q (by decide)).trans u2_e) (ex_0 (ex_add ⟨by omega, by omega⟩ (ix_42i (sh_64 hS) (ex_58 (ex_10_2 ⟨by omega, by omega⟩ rfl (ex_28 (ex_4_2 (ex_if2 (fun _ => ?_) (fun hc => by exfalso; revert hc; decide)))))))))))))))))))))
    exact ex_56 ⟨_, rfl, (u2_e.trans (by omega)), fun j hj => (by rw [u2_q (by decide), u2_at, u2_q (by decide), u2_at, u2_q (by decide), u2_at, u2_q (by decide), u2_at]; unfold m_put4 am_u1; (repeat' split) <;> first | rfl | exact htb j (by omega) | (exfalso; omega)), fun q k a b => (u2_o b).trans ((u2_q a).trans ((u2_o b).trans ((u2_q a).trans ((u2_o b).trans ((u2_q a).trans ((u2_o b).trans (u2_q a)))))))⟩
  obtain ⟨o, e, I1, rfl, h⟩ := am_doQ (as := [(.inr (.inr (some 64))), (.inl v)]) (Nat.le_of_ble_eq_true rfl) rfl w
  exact ⟨I1, e, h⟩
theorem k_feed_n {d : Nat} {G : am_G} {I : Nat → Nat → Int} {P : Nat → Nat → Option Nat} (hS : ST G P) {a b c e f : Int} {t : Nat} (ht : I 64 13 = (t : Int)) (hl : ¬ t + 20 ≤ 400) (hl4 : t ≤ 400) : am_call am_B am_M (d + 3) 115 [(.inr (.inr (some 64))), (.inl a), (.inl b), (.inl c), (.inl e), (.inl f)] (G, I, P) = some (some (.inl (-1)), (G, I, P)) := by
  refine am_doL (L := [some (.inr (.inr (some 64))), some (.inl a), some (.inl b), some (.inl c), some (.inl e), some (.inl f)]) (Nat.le_of_ble_eq_true rfl) rfl ?_
  refine (ex_6_0 (ix_41i (v := (t : Int)) (sh_64 hS) ht (ex_0 (ex_add ⟨by omega, by omega⟩ (ex_0 ?_)))))
  refine ex_ic5 (fun hc10 => by exfalso; omega) (fun hc10 => ?_)
  refine (ex_0 ?_)
  exact ex_53 rfl
theorem k_feedc {d : Nat} {G : am_G} {I : Nat → Nat → Int} {P : Nat → Nat → Option Nat} (hS : ST G P) {a b c e f : Int} {t : Nat} (ht : I 64 13 = (t : Int)) (hl : t + 20 ≤ 400) {tb : Nat → Int} (htb : ∀ j, j < t → I 171 j = sb (tb j)) : ∃ I1, am_call am_B am_M (d + 3) 115 [(.inr (.inr (some 64))), (.inl a), (.inl b), (.inl c), (.inl e), (.inl f)] (G, I, P) = some (some (.inl (((((((t + 4) + 4) + 4) + 4) + 4) : Nat) : Int)), (G, I1, P)) ∧ (I1 64 13 = (((((((t + 4) + 4) + 4) + 4) + 4) : Nat) : Int) ∧ (∀ j, j < (((((t + 4) + 4) + 4) + 4) + 4) → I1 171 j = sb ((m_put4 (m_put4 (m_put4 (m_put4 (m_put4 tb t a) (t + 4) b) ((t + 4) + 4) c) (((t + 4) + 4) + 4) e) ((((t + 4) + 4) + 4) + 4) f) j)) ∧ (∀ q k, ¬ q = 171 → ¬ (q = 64 ∧ k = 13) → I1 q k = I q k)) := by
  have w : am_ex (am_call am_B am_M (d + 2)) (am_B 115) (am_B 115 0) [some (.inr (.inr (some 64))), some (.inl a), some (.inl b), some (.inl c), some (.inl e), some (.inl f)] [] (G, I, P) (fun o => ∃ I1, o = (some (.inl (((((((t + 4) + 4) + 4) + 4) + 4) : Nat) : Int)), (G, I1, P)) ∧ (I1 64 13 = (((((((t + 4) + 4) + 4) + 4) + 4) : Nat) : Int) ∧ (∀ j, j < (((((t + 4) + 4) + 4) + 4) + 4) → I1 171 j = sb ((m_put4 (m_put4 (m_put4 (m_put4 (m_put4 tb t a) (t + 4) b) ((t + 4) + 4) c) (((t + 4) + 4) + 4) e) ((((t + 4) + 4) + 4) + 4) f) j)) ∧ (∀ q k, ¬ q = 171 → ¬ (q = 64 ∧ k = 13) → I1 q k = I q k))) := by
    refine (ex_6_0 (ix_41i (v := (t : Int)) (sh_64 hS) ht (ex_0 (ex_add ⟨by omega, by omega⟩ (ex_0 ?_)))))
    refine ex_ic5 (fun hc10 => ?_) (fun hc10 => by exfalso; omega)
    refine (ex_6_0 (ex_4_1 ?_))
    obtain ⟨K0, eK0, h13_0, htb_0, fK0⟩ := k_add4 (d := d) (v := a) (t := t) (tb := tb) hS ht (by omega) htb
    refine (ix_46 (S' := []) rfl (sh_64 hS) eK0 rfl rfl (ex_6_0 (ex_4_2 ?_)))
    obtain ⟨K1, eK1, h13_1, htb_1, fK1⟩ := k_add4 (d := d) (v := b) (t := (t + 4)) (tb := (m_put4 tb t a)) hS h13_0 (by omega) htb_0
    refine (ix_46 (S' := []) rfl (sh_64 hS) eK1 rfl rfl (ex_6_0 (ex_4_3 ?_)))
    obtain ⟨K2, eK2, h13_2, htb_2, fK2⟩ := k_add4 (d := d) (v := c) (t := ((t + 4) + 4)) (tb := (m_put4 (m_put4 tb t a) (t + 4) b)) hS h13_1 (by omega) htb_1
    refine (ix_46 (S' := []) rfl (sh_64 hS) eK2 rfl rfl (ex_6_0 (ex_4_4 ?_)))
    obtain ⟨K3, eK3, h13_3, htb_3, fK3⟩ := k_add4 (d := d) (v := e) (t := (((t + 4) + 4) + 4)) (tb := (m_put4 (m_put4 (m_put4 tb t a) (t + 4) b) ((t + 4) + 4) c)) hS h13_2 (by omega) htb_2
    refine (ix_46 (S' := []) rfl (sh_64 hS) eK3 rfl rfl (ex_6_0 (ex_4_5 ?_)))
    obtain ⟨K4, eK4, h13_4, htb_4, fK4⟩ := k_add4 (d := d) (v := f) (t := ((((t + 4) + 4) + 4) + 4)) (tb := (m_put4 (m_put4 (m_put4 (m_put4 tb t a) (t + 4) b) ((t + 4) + 4) c) (((t + 4) + 4) + 4) e)) hS h13_3 (by omega) htb_3
    refine (ix_46 (S' := []) rfl (sh_64 hS) eK4 rfl rfl (ex_6_0 (ix_41i (v := (((((((t + 4) + 4) + 4) + 4) + 4) : Nat) : Int)) (sh_64 hS) h13_4 ?_)))
    exact ex_53 ⟨_, rfl, h13_4, htb_4, fun q k x y => (fK4 q k x y).trans ((fK3 q k x y).trans ((fK2 q k x y).trans ((fK1 q k x y).trans (fK0 q k x y))))⟩
  obtain ⟨o, e, I1, rfl, h⟩ := am_doQ (as := [(.inr (.inr (some 64))), (.inl a), (.inl b), (.inl c), (.inl e), (.inl f)]) (Nat.le_of_ble_eq_true rfl) rfl w
  exact ⟨I1, e, h⟩
