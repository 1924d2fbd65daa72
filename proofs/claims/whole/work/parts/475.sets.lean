/-! ===== a circuit and its row, one place changed ===== -/
theorem nr_congr {ρ ρ' : Nat → Int} {b : Nat} (hb : b < 6) (h : ∀ j, j < 36 → ρ' (52 + j) = ρ (52 + j)) : nr ρ' b = nr ρ b := by
  apply Nat.eq_of_testBit_eq
  intro x
  have e : x < 6 → ρ' (52 + 6 * b + x) = ρ (52 + 6 * b + x) := fun hx => by
    rw [show 52 + 6 * b + x = 52 + (6 * b + x) by omega]; exact h _ (by omega)
  have k : (nr ρ' b).testBit x = true ↔ (nr ρ b).testBit x = true := by
    rw [nr_tb, nr_tb]
    constructor
    · rintro ⟨h1, h2⟩; rw [e h1] at h2; exact ⟨h1, h2⟩
    · rintro ⟨h1, h2⟩; rw [← e h1] at h2; exact ⟨h1, h2⟩
  cases h1 : (nr ρ' b).testBit x <;> cases h2 : (nr ρ b).testBit x
  · rfl
  · rw [k.mpr h2] at h1; cases h1
  · rw [k.mp h1] at h2; cases h2
  · rfl
theorem CCs_n0 {I : Nat → Nat → Int} {c : Nat} {ρ : Nat → Int} {v : Int} (h : CC I c ρ)  : CC (am_u2 I c 4 v) c (am_u1 ρ 0 v) := ⟨by rw [u2_e]; unfold am_u1; rw [if_pos rfl], (u2_k (by decide)).trans ((CC_n1 h).trans (by unfold am_u1; rw [if_neg (by omega)])), (u2_k (by decide)).trans ((CC_n2 h).trans (by unfold am_u1; rw [if_neg (by omega)])), (u2_k (by decide)).trans ((CC_n3 h).trans (by unfold am_u1; rw [if_neg (by omega)])), (u2_k (by decide)).trans ((CC_fo h).trans (by unfold am_u1; rw [if_neg (by omega)])), (u2_q (by omega)).trans ((CC_sm h).trans (by unfold am_u1; rw [if_neg (by omega)])), fun j hj => (u2_q (by omega)).trans ((CC_ki h j hj).trans (by unfold am_u1; rw [if_neg (by omega)])), fun j hj => (u2_q (by omega)).trans ((CC_ra h j hj).trans (by unfold am_u1; rw [if_neg (by omega)])), fun j hj => (u2_q (by omega)).trans ((CC_at h j hj).trans (by unfold am_u1; rw [if_neg (by omega)])), fun j hj => (u2_q (by omega)).trans ((CC_by h j hj).trans (by unfold am_u1; rw [if_neg (by omega)])), fun j hj => (u2_q (by omega)).trans ((CC_ea h j hj).trans (by unfold am_u1; rw [if_neg (by omega)])), fun j hj => (u2_q (by omega)).trans ((CC_en h j hj).trans (by unfold am_u1; rw [if_neg (by omega)])), fun j hj => (u2_q (by omega)).trans ((CC_we h j hj).trans (by unfold am_u1; rw [if_neg (by omega)])), fun j hj => (u2_q (by omega)).trans ((CC_kn h j hj).trans (by unfold am_u1; rw [if_neg (by omega)])), fun j hj => (u2_q (by omega)).trans ((CC_te h j hj).trans (by unfold am_u1; rw [if_neg (by omega)])), fun j hj => (u2_q (by omega)).trans ((CC_ro h j hj).trans (by unfold am_u1; rw [if_neg (by omega)])), fun b hb => (u2_q (by omega)).trans ((CC_nr h b hb).trans (congrArg Int.ofNat (nr_congr hb (fun j hj => (by unfold am_u1; rw [if_neg (by omega)]))).symm)), fun j hj => (u2_q (by omega)).trans ((CC_h1 h j hj).trans (by unfold am_u1; rw [if_neg (by omega)])), fun j hj => (u2_q (by omega)).trans ((CC_h2 h j hj).trans (by unfold am_u1; rw [if_neg (by omega)]))⟩
theorem CCs_n1 {I : Nat → Nat → Int} {c : Nat} {ρ : Nat → Int} {v : Int} (h : CC I c ρ)  : CC (am_u2 I c 10 v) c (am_u1 ρ 1 v) := ⟨(u2_k (by decide)).trans ((CC_n0 h).trans (by unfold am_u1; rw [if_neg (by omega)])), by rw [u2_e]; unfold am_u1; rw [if_pos rfl], (u2_k (by decide)).trans ((CC_n2 h).trans (by unfold am_u1; rw [if_neg (by omega)])), (u2_k (by decide)).trans ((CC_n3 h).trans (by unfold am_u1; rw [if_neg (by omega)])), (u2_k (by decide)).trans ((CC_fo h).trans (by unfold am_u1; rw [if_neg (by omega)])), (u2_q (by omega)).trans ((CC_sm h).trans (by unfold am_u1; rw [if_neg (by omega)])), fun j hj => (u2_q (by omega)).trans ((CC_ki h j hj).trans (by unfold am_u1; rw [if_neg (by omega)])), fun j hj => (u2_q (by omega)).trans ((CC_ra h j hj).trans (by unfold am_u1; rw [if_neg (by omega)])), fun j hj => (u2_q (by omega)).trans ((CC_at h j hj).trans (by unfold am_u1; rw [if_neg (by omega)])), fun j hj => (u2_q (by omega)).trans ((CC_by h j hj).trans (by unfold am_u1; rw [if_neg (by omega)])), fun j hj => (u2_q (by omega)).trans ((CC_ea h j hj).trans (by unfold am_u1; rw [if_neg (by omega)])), fun j hj => (u2_q (by omega)).trans ((CC_en h j hj).trans (by unfold am_u1; rw [if_neg (by omega)])), fun j hj => (u2_q (by omega)).trans ((CC_we h j hj).trans (by unfold am_u1; rw [if_neg (by omega)])), fun j hj => (u2_q (by omega)).trans ((CC_kn h j hj).trans (by unfold am_u1; rw [if_neg (by omega)])), fun j hj => (u2_q (by omega)).trans ((CC_te h j hj).trans (by unfold am_u1; rw [if_neg (by omega)])), fun j hj => (u2_q (by omega)).trans ((CC_ro h j hj).trans (by unfold am_u1; rw [if_neg (by omega)])), fun b hb => (u2_q (by omega)).trans ((CC_nr h b hb).trans (congrArg Int.ofNat (nr_congr hb (fun j hj => (by unfold am_u1; rw [if_neg (by omega)]))).symm)), fun j hj => (u2_q (by omega)).trans ((CC_h1 h j hj).trans (by unfold am_u1; rw [if_neg (by omega)])), fun j hj => (u2_q (by omega)).trans ((CC_h2 h j hj).trans (by unfold am_u1; rw [if_neg (by omega)]))⟩
theorem CCs_n2 {I : Nat → Nat → Int} {c : Nat} {ρ : Nat → Int} {v : Int} (h : CC I c ρ)  : CC (am_u2 I c 13 v) c (am_u1 ρ 2 v) := ⟨(u2_k (by decide)).trans ((CC_n0 h).trans (by unfold am_u1; rw [if_neg (by omega)])), (u2_k (by decide)).trans ((CC_n1 h).trans (by unfold am_u1; rw [if_neg (by omega)])), by rw [u2_e]; unfold am_u1; rw [if_pos rfl], (u2_k (by decide)).trans ((CC_n3 h).trans (by unfold am_u1; rw [if_neg (by omega)])), (u2_k (by decide)).trans ((CC_fo h).trans (by unfold am_u1; rw [if_neg (by omega)])), (u2_q (by omega)).trans ((CC_sm h).trans (by unfold am_u1; rw [if_neg (by omega)])), fun j hj => (u2_q (by omega)).trans ((CC_ki h j hj).trans (by unfold am_u1; rw [if_neg (by omega)])), fun j hj => (u2_q (by omega)).trans ((CC_ra h j hj).trans (by unfold am_u1; rw [if_neg (by omega)])), fun j hj => (u2_q (by omega)).trans ((CC_at h j hj).trans (by unfold am_u1; rw [if_neg (by omega)])), fun j hj => (u2_q (by omega)).trans ((CC_by h j hj).trans (by unfold am_u1; rw [if_neg (by omega)])), fun j hj => (u2_q (by omega)).trans ((CC_ea h j hj).trans (by unfold am_u1; rw [if_neg (by omega)])), fun j hj => (u2_q (by omega)).trans ((CC_en h j hj).trans (by unfold am_u1; rw [if_neg (by omega)])), fun j hj => (u2_q (by omega)).trans ((CC_we h j hj).trans (by unfold am_u1; rw [if_neg (by omega)])), fun j hj => (u2_q (by omega)).trans ((CC_kn h j hj).trans (by unfold am_u1; rw [if_neg (by omega)])), fun j hj => (u2_q (by omega)).trans ((CC_te h j hj).trans (by unfold am_u1; rw [if_neg (by omega)])), fun j hj => (u2_q (by omega)).trans ((CC_ro h j hj).trans (by unfold am_u1; rw [if_neg (by omega)])), fun b hb => (u2_q (by omega)).trans ((CC_nr h b hb).trans (congrArg Int.ofNat (nr_congr hb (fun j hj => (by unfold am_u1; rw [if_neg (by omega)]))).symm)), fun j hj => (u2_q (by omega)).trans ((CC_h1 h j hj).trans (by unfold am_u1; rw [if_neg (by omega)])), fun j hj => (u2_q (by omega)).trans ((CC_h2 h j hj).trans (by unfold am_u1; rw [if_neg (by omega)]))⟩
theorem CCs_n3 {I : Nat → Nat → Int} {c : Nat} {ρ : Nat → Int} {v : Int} (h : CC I c ρ)  : CC (am_u2 I c 16 v) c (am_u1 ρ 3 v) := ⟨(u2_k (by decide)).trans ((CC_n0 h).trans (by unfold am_u1; rw [if_neg (by omega)])), (u2_k (by decide)).trans ((CC_n1 h).trans (by unfold am_u1; rw [if_neg (by omega)])), (u2_k (by decide)).trans ((CC_n2 h).trans (by unfold am_u1; rw [if_neg (by omega)])), by rw [u2_e]; unfold am_u1; rw [if_pos rfl], (u2_k (by decide)).trans ((CC_fo h).trans (by unfold am_u1; rw [if_neg (by omega)])), (u2_q (by omega)).trans ((CC_sm h).trans (by unfold am_u1; rw [if_neg (by omega)])), fun j hj => (u2_q (by omega)).trans ((CC_ki h j hj).trans (by unfold am_u1; rw [if_neg (by omega)])), fun j hj => (u2_q (by omega)).trans ((CC_ra h j hj).trans (by unfold am_u1; rw [if_neg (by omega)])), fun j hj => (u2_q (by omega)).trans ((CC_at h j hj).trans (by unfold am_u1; rw [if_neg (by omega)])), fun j hj => (u2_q (by omega)).trans ((CC_by h j hj).trans (by unfold am_u1; rw [if_neg (by omega)])), fun j hj => (u2_q (by omega)).trans ((CC_ea h j hj).trans (by unfold am_u1; rw [if_neg (by omega)])), fun j hj => (u2_q (by omega)).trans ((CC_en h j hj).trans (by unfold am_u1; rw [if_neg (by omega)])), fun j hj => (u2_q (by omega)).trans ((CC_we h j hj).trans (by unfold am_u1; rw [if_neg (by omega)])), fun j hj => (u2_q (by omega)).trans ((CC_kn h j hj).trans (by unfold am_u1; rw [if_neg (by omega)])), fun j hj => (u2_q (by omega)).trans ((CC_te h j hj).trans (by unfold am_u1; rw [if_neg (by omega)])), fun j hj => (u2_q (by omega)).trans ((CC_ro h j hj).trans (by unfold am_u1; rw [if_neg (by omega)])), fun b hb => (u2_q (by omega)).trans ((CC_nr h b hb).trans (congrArg Int.ofNat (nr_congr hb (fun j hj => (by unfold am_u1; rw [if_neg (by omega)]))).symm)), fun j hj => (u2_q (by omega)).trans ((CC_h1 h j hj).trans (by unfold am_u1; rw [if_neg (by omega)])), fun j hj => (u2_q (by omega)).trans ((CC_h2 h j hj).trans (by unfold am_u1; rw [if_neg (by omega)]))⟩
theorem CCs_fo {I : Nat → Nat → Int} {c : Nat} {ρ : Nat → Int} {v : Int} (h : CC I c ρ)  : CC (am_u2 I c 17 v) c (am_u1 ρ 4 v) := ⟨(u2_k (by decide)).trans ((CC_n0 h).trans (by unfold am_u1; rw [if_neg (by omega)])), (u2_k (by decide)).trans ((CC_n1 h).trans (by unfold am_u1; rw [if_neg (by omega)])), (u2_k (by decide)).trans ((CC_n2 h).trans (by unfold am_u1; rw [if_neg (by omega)])), (u2_k (by decide)).trans ((CC_n3 h).trans (by unfold am_u1; rw [if_neg (by omega)])), by rw [u2_e]; unfold am_u1; rw [if_pos rfl], (u2_q (by omega)).trans ((CC_sm h).trans (by unfold am_u1; rw [if_neg (by omega)])), fun j hj => (u2_q (by omega)).trans ((CC_ki h j hj).trans (by unfold am_u1; rw [if_neg (by omega)])), fun j hj => (u2_q (by omega)).trans ((CC_ra h j hj).trans (by unfold am_u1; rw [if_neg (by omega)])), fun j hj => (u2_q (by omega)).trans ((CC_at h j hj).trans (by unfold am_u1; rw [if_neg (by omega)])), fun j hj => (u2_q (by omega)).trans ((CC_by h j hj).trans (by unfold am_u1; rw [if_neg (by omega)])), fun j hj => (u2_q (by omega)).trans ((CC_ea h j hj).trans (by unfold am_u1; rw [if_neg (by omega)])), fun j hj => (u2_q (by omega)).trans ((CC_en h j hj).trans (by unfold am_u1; rw [if_neg (by omega)])), fun j hj => (u2_q (by omega)).trans ((CC_we h j hj).trans (by unfold am_u1; rw [if_neg (by omega)])), fun j hj => (u2_q (by omega)).trans ((CC_kn h j hj).trans (by unfold am_u1; rw [if_neg (by omega)])), fun j hj => (u2_q (by omega)).trans ((CC_te h j hj).trans (by unfold am_u1; rw [if_neg (by omega)])), fun j hj => (u2_q (by omega)).trans ((CC_ro h j hj).trans (by unfold am_u1; rw [if_neg (by omega)])), fun b hb => (u2_q (by omega)).trans ((CC_nr h b hb).trans (congrArg Int.ofNat (nr_congr hb (fun j hj => (by unfold am_u1; rw [if_neg (by omega)]))).symm)), fun j hj => (u2_q (by omega)).trans ((CC_h1 h j hj).trans (by unfold am_u1; rw [if_neg (by omega)])), fun j hj => (u2_q (by omega)).trans ((CC_h2 h j hj).trans (by unfold am_u1; rw [if_neg (by omega)]))⟩
theorem CCs_sm {I : Nat → Nat → Int} {c : Nat} {ρ : Nat → Int} {v : Int} (h : CC I c ρ)  : CC (am_u2 I (c + 1) 3 v) c (am_u1 ρ 8 v) := ⟨(u2_q (by omega)).trans ((CC_n0 h).trans (by unfold am_u1; rw [if_neg (by omega)])), (u2_q (by omega)).trans ((CC_n1 h).trans (by unfold am_u1; rw [if_neg (by omega)])), (u2_q (by omega)).trans ((CC_n2 h).trans (by unfold am_u1; rw [if_neg (by omega)])), (u2_q (by omega)).trans ((CC_n3 h).trans (by unfold am_u1; rw [if_neg (by omega)])), (u2_q (by omega)).trans ((CC_fo h).trans (by unfold am_u1; rw [if_neg (by omega)])), by rw [u2_e]; unfold am_u1; rw [if_pos rfl], fun j hj => (u2_q (by omega)).trans ((CC_ki h j hj).trans (by unfold am_u1; rw [if_neg (by omega)])), fun j hj => (u2_q (by omega)).trans ((CC_ra h j hj).trans (by unfold am_u1; rw [if_neg (by omega)])), fun j hj => (u2_q (by omega)).trans ((CC_at h j hj).trans (by unfold am_u1; rw [if_neg (by omega)])), fun j hj => (u2_q (by omega)).trans ((CC_by h j hj).trans (by unfold am_u1; rw [if_neg (by omega)])), fun j hj => (u2_q (by omega)).trans ((CC_ea h j hj).trans (by unfold am_u1; rw [if_neg (by omega)])), fun j hj => (u2_q (by omega)).trans ((CC_en h j hj).trans (by unfold am_u1; rw [if_neg (by omega)])), fun j hj => (u2_q (by omega)).trans ((CC_we h j hj).trans (by unfold am_u1; rw [if_neg (by omega)])), fun j hj => (u2_q (by omega)).trans ((CC_kn h j hj).trans (by unfold am_u1; rw [if_neg (by omega)])), fun j hj => (u2_q (by omega)).trans ((CC_te h j hj).trans (by unfold am_u1; rw [if_neg (by omega)])), fun j hj => (u2_q (by omega)).trans ((CC_ro h j hj).trans (by unfold am_u1; rw [if_neg (by omega)])), fun b hb => (u2_q (by omega)).trans ((CC_nr h b hb).trans (congrArg Int.ofNat (nr_congr hb (fun j hj => (by unfold am_u1; rw [if_neg (by omega)]))).symm)), fun j hj => (u2_q (by omega)).trans ((CC_h1 h j hj).trans (by unfold am_u1; rw [if_neg (by omega)])), fun j hj => (u2_q (by omega)).trans ((CC_h2 h j hj).trans (by unfold am_u1; rw [if_neg (by omega)]))⟩
theorem CCs_ki {I : Nat → Nat → Int} {c : Nat} {ρ : Nat → Int} {v : Int} (h : CC I c ρ) {i : Nat} (hi : i < 6) : CC (am_u2 I (c + 5) i v) c (am_u1 ρ (30 + i) v) := ⟨(u2_q (by omega)).trans ((CC_n0 h).trans (by unfold am_u1; rw [if_neg (by omega)])), (u2_q (by omega)).trans ((CC_n1 h).trans (by unfold am_u1; rw [if_neg (by omega)])), (u2_q (by omega)).trans ((CC_n2 h).trans (by unfold am_u1; rw [if_neg (by omega)])), (u2_q (by omega)).trans ((CC_n3 h).trans (by unfold am_u1; rw [if_neg (by omega)])), (u2_q (by omega)).trans ((CC_fo h).trans (by unfold am_u1; rw [if_neg (by omega)])), (u2_q (by omega)).trans ((CC_sm h).trans (by unfold am_u1; rw [if_neg (by omega)])), fun j hj => by rw [u2_at]; unfold am_u1; by_cases e : j = i; (rw [if_pos e, if_pos (by omega)]); (rw [if_neg e, if_neg (by omega)]; exact CC_ki h j hj), fun j hj => (u2_q (by omega)).trans ((CC_ra h j hj).trans (by unfold am_u1; rw [if_neg (by omega)])), fun j hj => (u2_q (by omega)).trans ((CC_at h j hj).trans (by unfold am_u1; rw [if_neg (by omega)])), fun j hj => (u2_q (by omega)).trans ((CC_by h j hj).trans (by unfold am_u1; rw [if_neg (by omega)])), fun j hj => (u2_q (by omega)).trans ((CC_ea h j hj).trans (by unfold am_u1; rw [if_neg (by omega)])), fun j hj => (u2_q (by omega)).trans ((CC_en h j hj).trans (by unfold am_u1; rw [if_neg (by omega)])), fun j hj => (u2_q (by omega)).trans ((CC_we h j hj).trans (by unfold am_u1; rw [if_neg (by omega)])), fun j hj => (u2_q (by omega)).trans ((CC_kn h j hj).trans (by unfold am_u1; rw [if_neg (by omega)])), fun j hj => (u2_q (by omega)).trans ((CC_te h j hj).trans (by unfold am_u1; rw [if_neg (by omega)])), fun j hj => (u2_q (by omega)).trans ((CC_ro h j hj).trans (by unfold am_u1; rw [if_neg (by omega)])), fun b hb => (u2_q (by omega)).trans ((CC_nr h b hb).trans (congrArg Int.ofNat (nr_congr hb (fun j hj => (by unfold am_u1; rw [if_neg (by omega)]))).symm)), fun j hj => (u2_q (by omega)).trans ((CC_h1 h j hj).trans (by unfold am_u1; rw [if_neg (by omega)])), fun j hj => (u2_q (by omega)).trans ((CC_h2 h j hj).trans (by unfold am_u1; rw [if_neg (by omega)]))⟩
theorem CCs_ra {I : Nat → Nat → Int} {c : Nat} {ρ : Nat → Int} {v : Int} (h : CC I c ρ) {i : Nat} (hi : i < 6) : CC (am_u2 I (c + 6) i v) c (am_u1 ρ (36 + i) v) := ⟨(u2_q (by omega)).trans ((CC_n0 h).trans (by unfold am_u1; rw [if_neg (by omega)])), (u2_q (by omega)).trans ((CC_n1 h).trans (by unfold am_u1; rw [if_neg (by omega)])), (u2_q (by omega)).trans ((CC_n2 h).trans (by unfold am_u1; rw [if_neg (by omega)])), (u2_q (by omega)).trans ((CC_n3 h).trans (by unfold am_u1; rw [if_neg (by omega)])), (u2_q (by omega)).trans ((CC_fo h).trans (by unfold am_u1; rw [if_neg (by omega)])), (u2_q (by omega)).trans ((CC_sm h).trans (by unfold am_u1; rw [if_neg (by omega)])), fun j hj => (u2_q (by omega)).trans ((CC_ki h j hj).trans (by unfold am_u1; rw [if_neg (by omega)])), fun j hj => by rw [u2_at]; unfold am_u1; by_cases e : j = i; (rw [if_pos e, if_pos (by omega)]); (rw [if_neg e, if_neg (by omega)]; exact CC_ra h j hj), fun j hj => (u2_q (by omega)).trans ((CC_at h j hj).trans (by unfold am_u1; rw [if_neg (by omega)])), fun j hj => (u2_q (by omega)).trans ((CC_by h j hj).trans (by unfold am_u1; rw [if_neg (by omega)])), fun j hj => (u2_q (by omega)).trans ((CC_ea h j hj).trans (by unfold am_u1; rw [if_neg (by omega)])), fun j hj => (u2_q (by omega)).trans ((CC_en h j hj).trans (by unfold am_u1; rw [if_neg (by omega)])), fun j hj => (u2_q (by omega)).trans ((CC_we h j hj).trans (by unfold am_u1; rw [if_neg (by omega)])), fun j hj => (u2_q (by omega)).trans ((CC_kn h j hj).trans (by unfold am_u1; rw [if_neg (by omega)])), fun j hj => (u2_q (by omega)).trans ((CC_te h j hj).trans (by unfold am_u1; rw [if_neg (by omega)])), fun j hj => (u2_q (by omega)).trans ((CC_ro h j hj).trans (by unfold am_u1; rw [if_neg (by omega)])), fun b hb => (u2_q (by omega)).trans ((CC_nr h b hb).trans (congrArg Int.ofNat (nr_congr hb (fun j hj => (by unfold am_u1; rw [if_neg (by omega)]))).symm)), fun j hj => (u2_q (by omega)).trans ((CC_h1 h j hj).trans (by unfold am_u1; rw [if_neg (by omega)])), fun j hj => (u2_q (by omega)).trans ((CC_h2 h j hj).trans (by unfold am_u1; rw [if_neg (by omega)]))⟩
theorem CCs_at {I : Nat → Nat → Int} {c : Nat} {ρ : Nat → Int} {v : Int} (h : CC I c ρ) {i : Nat} (hi : i < 6) : CC (am_u2 I (c + 7) i v) c (am_u1 ρ (9 + i) v) := ⟨(u2_q (by omega)).trans ((CC_n0 h).trans (by unfold am_u1; rw [if_neg (by omega)])), (u2_q (by omega)).trans ((CC_n1 h).trans (by unfold am_u1; rw [if_neg (by omega)])), (u2_q (by omega)).trans ((CC_n2 h).trans (by unfold am_u1; rw [if_neg (by omega)])), (u2_q (by omega)).trans ((CC_n3 h).trans (by unfold am_u1; rw [if_neg (by omega)])), (u2_q (by omega)).trans ((CC_fo h).trans (by unfold am_u1; rw [if_neg (by omega)])), (u2_q (by omega)).trans ((CC_sm h).trans (by unfold am_u1; rw [if_neg (by omega)])), fun j hj => (u2_q (by omega)).trans ((CC_ki h j hj).trans (by unfold am_u1; rw [if_neg (by omega)])), fun j hj => (u2_q (by omega)).trans ((CC_ra h j hj).trans (by unfold am_u1; rw [if_neg (by omega)])), fun j hj => by rw [u2_at]; unfold am_u1; by_cases e : j = i; (rw [if_pos e, if_pos (by omega)]); (rw [if_neg e, if_neg (by omega)]; exact CC_at h j hj), fun j hj => (u2_q (by omega)).trans ((CC_by h j hj).trans (by unfold am_u1; rw [if_neg (by omega)])), fun j hj => (u2_q (by omega)).trans ((CC_ea h j hj).trans (by unfold am_u1; rw [if_neg (by omega)])), fun j hj => (u2_q (by omega)).trans ((CC_en h j hj).trans (by unfold am_u1; rw [if_neg (by omega)])), fun j hj => (u2_q (by omega)).trans ((CC_we h j hj).trans (by unfold am_u1; rw [if_neg (by omega)])), fun j hj => (u2_q (by omega)).trans ((CC_kn h j hj).trans (by unfold am_u1; rw [if_neg (by omega)])), fun j hj => (u2_q (by omega)).trans ((CC_te h j hj).trans (by unfold am_u1; rw [if_neg (by omega)])), fun j hj => (u2_q (by omega)).trans ((CC_ro h j hj).trans (by unfold am_u1; rw [if_neg (by omega)])), fun b hb => (u2_q (by omega)).trans ((CC_nr h b hb).trans (congrArg Int.ofNat (nr_congr hb (fun j hj => (by unfold am_u1; rw [if_neg (by omega)]))).symm)), fun j hj => (u2_q (by omega)).trans ((CC_h1 h j hj).trans (by unfold am_u1; rw [if_neg (by omega)])), fun j hj => (u2_q (by omega)).trans ((CC_h2 h j hj).trans (by unfold am_u1; rw [if_neg (by omega)]))⟩
theorem CCs_by {I : Nat → Nat → Int} {c : Nat} {ρ : Nat → Int} {v : Int} (h : CC I c ρ) {i : Nat} (hi : i < 5) : CC (am_u2 I (c + 8) i v) c (am_u1 ρ (42 + i) v) := ⟨(u2_q (by omega)).trans ((CC_n0 h).trans (by unfold am_u1; rw [if_neg (by omega)])), (u2_q (by omega)).trans ((CC_n1 h).trans (by unfold am_u1; rw [if_neg (by omega)])), (u2_q (by omega)).trans ((CC_n2 h).trans (by unfold am_u1; rw [if_neg (by omega)])), (u2_q (by omega)).trans ((CC_n3 h).trans (by unfold am_u1; rw [if_neg (by omega)])), (u2_q (by omega)).trans ((CC_fo h).trans (by unfold am_u1; rw [if_neg (by omega)])), (u2_q (by omega)).trans ((CC_sm h).trans (by unfold am_u1; rw [if_neg (by omega)])), fun j hj => (u2_q (by omega)).trans ((CC_ki h j hj).trans (by unfold am_u1; rw [if_neg (by omega)])), fun j hj => (u2_q (by omega)).trans ((CC_ra h j hj).trans (by unfold am_u1; rw [if_neg (by omega)])), fun j hj => (u2_q (by omega)).trans ((CC_at h j hj).trans (by unfold am_u1; rw [if_neg (by omega)])), fun j hj => by rw [u2_at]; unfold am_u1; by_cases e : j = i; (rw [if_pos e, if_pos (by omega)]); (rw [if_neg e, if_neg (by omega)]; exact CC_by h j hj), fun j hj => (u2_q (by omega)).trans ((CC_ea h j hj).trans (by unfold am_u1; rw [if_neg (by omega)])), fun j hj => (u2_q (by omega)).trans ((CC_en h j hj).trans (by unfold am_u1; rw [if_neg (by omega)])), fun j hj => (u2_q (by omega)).trans ((CC_we h j hj).trans (by unfold am_u1; rw [if_neg (by omega)])), fun j hj => (u2_q (by omega)).trans ((CC_kn h j hj).trans (by unfold am_u1; rw [if_neg (by omega)])), fun j hj => (u2_q (by omega)).trans ((CC_te h j hj).trans (by unfold am_u1; rw [if_neg (by omega)])), fun j hj => (u2_q (by omega)).trans ((CC_ro h j hj).trans (by unfold am_u1; rw [if_neg (by omega)])), fun b hb => (u2_q (by omega)).trans ((CC_nr h b hb).trans (congrArg Int.ofNat (nr_congr hb (fun j hj => (by unfold am_u1; rw [if_neg (by omega)]))).symm)), fun j hj => (u2_q (by omega)).trans ((CC_h1 h j hj).trans (by unfold am_u1; rw [if_neg (by omega)])), fun j hj => (u2_q (by omega)).trans ((CC_h2 h j hj).trans (by unfold am_u1; rw [if_neg (by omega)]))⟩
theorem CCs_ea {I : Nat → Nat → Int} {c : Nat} {ρ : Nat → Int} {v : Int} (h : CC I c ρ) {i : Nat} (hi : i < 5) : CC (am_u2 I (c + 9) i v) c (am_u1 ρ (47 + i) v) := ⟨(u2_q (by omega)).trans ((CC_n0 h).trans (by unfold am_u1; rw [if_neg (by omega)])), (u2_q (by omega)).trans ((CC_n1 h).trans (by unfold am_u1; rw [if_neg (by omega)])), (u2_q (by omega)).trans ((CC_n2 h).trans (by unfold am_u1; rw [if_neg (by omega)])), (u2_q (by omega)).trans ((CC_n3 h).trans (by unfold am_u1; rw [if_neg (by omega)])), (u2_q (by omega)).trans ((CC_fo h).trans (by unfold am_u1; rw [if_neg (by omega)])), (u2_q (by omega)).trans ((CC_sm h).trans (by unfold am_u1; rw [if_neg (by omega)])), fun j hj => (u2_q (by omega)).trans ((CC_ki h j hj).trans (by unfold am_u1; rw [if_neg (by omega)])), fun j hj => (u2_q (by omega)).trans ((CC_ra h j hj).trans (by unfold am_u1; rw [if_neg (by omega)])), fun j hj => (u2_q (by omega)).trans ((CC_at h j hj).trans (by unfold am_u1; rw [if_neg (by omega)])), fun j hj => (u2_q (by omega)).trans ((CC_by h j hj).trans (by unfold am_u1; rw [if_neg (by omega)])), fun j hj => by rw [u2_at]; unfold am_u1; by_cases e : j = i; (rw [if_pos e, if_pos (by omega)]); (rw [if_neg e, if_neg (by omega)]; exact CC_ea h j hj), fun j hj => (u2_q (by omega)).trans ((CC_en h j hj).trans (by unfold am_u1; rw [if_neg (by omega)])), fun j hj => (u2_q (by omega)).trans ((CC_we h j hj).trans (by unfold am_u1; rw [if_neg (by omega)])), fun j hj => (u2_q (by omega)).trans ((CC_kn h j hj).trans (by unfold am_u1; rw [if_neg (by omega)])), fun j hj => (u2_q (by omega)).trans ((CC_te h j hj).trans (by unfold am_u1; rw [if_neg (by omega)])), fun j hj => (u2_q (by omega)).trans ((CC_ro h j hj).trans (by unfold am_u1; rw [if_neg (by omega)])), fun b hb => (u2_q (by omega)).trans ((CC_nr h b hb).trans (congrArg Int.ofNat (nr_congr hb (fun j hj => (by unfold am_u1; rw [if_neg (by omega)]))).symm)), fun j hj => (u2_q (by omega)).trans ((CC_h1 h j hj).trans (by unfold am_u1; rw [if_neg (by omega)])), fun j hj => (u2_q (by omega)).trans ((CC_h2 h j hj).trans (by unfold am_u1; rw [if_neg (by omega)]))⟩
theorem CCs_en {I : Nat → Nat → Int} {c : Nat} {ρ : Nat → Int} {v : Int} (h : CC I c ρ) {i : Nat} (hi : i < 5) : CC (am_u2 I (c + 10) i v) c (am_u1 ρ (15 + i) v) := ⟨(u2_q (by omega)).trans ((CC_n0 h).trans (by unfold am_u1; rw [if_neg (by omega)])), (u2_q (by omega)).trans ((CC_n1 h).trans (by unfold am_u1; rw [if_neg (by omega)])), (u2_q (by omega)).trans ((CC_n2 h).trans (by unfold am_u1; rw [if_neg (by omega)])), (u2_q (by omega)).trans ((CC_n3 h).trans (by unfold am_u1; rw [if_neg (by omega)])), (u2_q (by omega)).trans ((CC_fo h).trans (by unfold am_u1; rw [if_neg (by omega)])), (u2_q (by omega)).trans ((CC_sm h).trans (by unfold am_u1; rw [if_neg (by omega)])), fun j hj => (u2_q (by omega)).trans ((CC_ki h j hj).trans (by unfold am_u1; rw [if_neg (by omega)])), fun j hj => (u2_q (by omega)).trans ((CC_ra h j hj).trans (by unfold am_u1; rw [if_neg (by omega)])), fun j hj => (u2_q (by omega)).trans ((CC_at h j hj).trans (by unfold am_u1; rw [if_neg (by omega)])), fun j hj => (u2_q (by omega)).trans ((CC_by h j hj).trans (by unfold am_u1; rw [if_neg (by omega)])), fun j hj => (u2_q (by omega)).trans ((CC_ea h j hj).trans (by unfold am_u1; rw [if_neg (by omega)])), fun j hj => by rw [u2_at]; unfold am_u1; by_cases e : j = i; (rw [if_pos e, if_pos (by omega)]); (rw [if_neg e, if_neg (by omega)]; exact CC_en h j hj), fun j hj => (u2_q (by omega)).trans ((CC_we h j hj).trans (by unfold am_u1; rw [if_neg (by omega)])), fun j hj => (u2_q (by omega)).trans ((CC_kn h j hj).trans (by unfold am_u1; rw [if_neg (by omega)])), fun j hj => (u2_q (by omega)).trans ((CC_te h j hj).trans (by unfold am_u1; rw [if_neg (by omega)])), fun j hj => (u2_q (by omega)).trans ((CC_ro h j hj).trans (by unfold am_u1; rw [if_neg (by omega)])), fun b hb => (u2_q (by omega)).trans ((CC_nr h b hb).trans (congrArg Int.ofNat (nr_congr hb (fun j hj => (by unfold am_u1; rw [if_neg (by omega)]))).symm)), fun j hj => (u2_q (by omega)).trans ((CC_h1 h j hj).trans (by unfold am_u1; rw [if_neg (by omega)])), fun j hj => (u2_q (by omega)).trans ((CC_h2 h j hj).trans (by unfold am_u1; rw [if_neg (by omega)]))⟩
theorem CCs_we {I : Nat → Nat → Int} {c : Nat} {ρ : Nat → Int} {v : Int} (h : CC I c ρ) {i : Nat} (hi : i < 5) : CC (am_u2 I (c + 11) i v) c (am_u1 ρ (20 + i) v) := ⟨(u2_q (by omega)).trans ((CC_n0 h).trans (by unfold am_u1; rw [if_neg (by omega)])), (u2_q (by omega)).trans ((CC_n1 h).trans (by unfold am_u1; rw [if_neg (by omega)])), (u2_q (by omega)).trans ((CC_n2 h).trans (by unfold am_u1; rw [if_neg (by omega)])), (u2_q (by omega)).trans ((CC_n3 h).trans (by unfold am_u1; rw [if_neg (by omega)])), (u2_q (by omega)).trans ((CC_fo h).trans (by unfold am_u1; rw [if_neg (by omega)])), (u2_q (by omega)).trans ((CC_sm h).trans (by unfold am_u1; rw [if_neg (by omega)])), fun j hj => (u2_q (by omega)).trans ((CC_ki h j hj).trans (by unfold am_u1; rw [if_neg (by omega)])), fun j hj => (u2_q (by omega)).trans ((CC_ra h j hj).trans (by unfold am_u1; rw [if_neg (by omega)])), fun j hj => (u2_q (by omega)).trans ((CC_at h j hj).trans (by unfold am_u1; rw [if_neg (by omega)])), fun j hj => (u2_q (by omega)).trans ((CC_by h j hj).trans (by unfold am_u1; rw [if_neg (by omega)])), fun j hj => (u2_q (by omega)).trans ((CC_ea h j hj).trans (by unfold am_u1; rw [if_neg (by omega)])), fun j hj => (u2_q (by omega)).trans ((CC_en h j hj).trans (by unfold am_u1; rw [if_neg (by omega)])), fun j hj => by rw [u2_at]; unfold am_u1; by_cases e : j = i; (rw [if_pos e, if_pos (by omega)]); (rw [if_neg e, if_neg (by omega)]; exact CC_we h j hj), fun j hj => (u2_q (by omega)).trans ((CC_kn h j hj).trans (by unfold am_u1; rw [if_neg (by omega)])), fun j hj => (u2_q (by omega)).trans ((CC_te h j hj).trans (by unfold am_u1; rw [if_neg (by omega)])), fun j hj => (u2_q (by omega)).trans ((CC_ro h j hj).trans (by unfold am_u1; rw [if_neg (by omega)])), fun b hb => (u2_q (by omega)).trans ((CC_nr h b hb).trans (congrArg Int.ofNat (nr_congr hb (fun j hj => (by unfold am_u1; rw [if_neg (by omega)]))).symm)), fun j hj => (u2_q (by omega)).trans ((CC_h1 h j hj).trans (by unfold am_u1; rw [if_neg (by omega)])), fun j hj => (u2_q (by omega)).trans ((CC_h2 h j hj).trans (by unfold am_u1; rw [if_neg (by omega)]))⟩
theorem CCs_kn {I : Nat → Nat → Int} {c : Nat} {ρ : Nat → Int} {v : Int} (h : CC I c ρ) {i : Nat} (hi : i < 5) : CC (am_u2 I (c + 12) i v) c (am_u1 ρ (25 + i) v) := ⟨(u2_q (by omega)).trans ((CC_n0 h).trans (by unfold am_u1; rw [if_neg (by omega)])), (u2_q (by omega)).trans ((CC_n1 h).trans (by unfold am_u1; rw [if_neg (by omega)])), (u2_q (by omega)).trans ((CC_n2 h).trans (by unfold am_u1; rw [if_neg (by omega)])), (u2_q (by omega)).trans ((CC_n3 h).trans (by unfold am_u1; rw [if_neg (by omega)])), (u2_q (by omega)).trans ((CC_fo h).trans (by unfold am_u1; rw [if_neg (by omega)])), (u2_q (by omega)).trans ((CC_sm h).trans (by unfold am_u1; rw [if_neg (by omega)])), fun j hj => (u2_q (by omega)).trans ((CC_ki h j hj).trans (by unfold am_u1; rw [if_neg (by omega)])), fun j hj => (u2_q (by omega)).trans ((CC_ra h j hj).trans (by unfold am_u1; rw [if_neg (by omega)])), fun j hj => (u2_q (by omega)).trans ((CC_at h j hj).trans (by unfold am_u1; rw [if_neg (by omega)])), fun j hj => (u2_q (by omega)).trans ((CC_by h j hj).trans (by unfold am_u1; rw [if_neg (by omega)])), fun j hj => (u2_q (by omega)).trans ((CC_ea h j hj).trans (by unfold am_u1; rw [if_neg (by omega)])), fun j hj => (u2_q (by omega)).trans ((CC_en h j hj).trans (by unfold am_u1; rw [if_neg (by omega)])), fun j hj => (u2_q (by omega)).trans ((CC_we h j hj).trans (by unfold am_u1; rw [if_neg (by omega)])), fun j hj => by rw [u2_at]; unfold am_u1; by_cases e : j = i; (rw [if_pos e, if_pos (by omega)]); (rw [if_neg e, if_neg (by omega)]; exact CC_kn h j hj), fun j hj => (u2_q (by omega)).trans ((CC_te h j hj).trans (by unfold am_u1; rw [if_neg (by omega)])), fun j hj => (u2_q (by omega)).trans ((CC_ro h j hj).trans (by unfold am_u1; rw [if_neg (by omega)])), fun b hb => (u2_q (by omega)).trans ((CC_nr h b hb).trans (congrArg Int.ofNat (nr_congr hb (fun j hj => (by unfold am_u1; rw [if_neg (by omega)]))).symm)), fun j hj => (u2_q (by omega)).trans ((CC_h1 h j hj).trans (by unfold am_u1; rw [if_neg (by omega)])), fun j hj => (u2_q (by omega)).trans ((CC_h2 h j hj).trans (by unfold am_u1; rw [if_neg (by omega)]))⟩
theorem CCs_te {I : Nat → Nat → Int} {c : Nat} {ρ : Nat → Int} {v : Int} (h : CC I c ρ) {i : Nat} (hi : i < 3) : CC (am_u2 I (c + 15) i v) c (am_u1 ρ (5 + i) v) := ⟨(u2_q (by omega)).trans ((CC_n0 h).trans (by unfold am_u1; rw [if_neg (by omega)])), (u2_q (by omega)).trans ((CC_n1 h).trans (by unfold am_u1; rw [if_neg (by omega)])), (u2_q (by omega)).trans ((CC_n2 h).trans (by unfold am_u1; rw [if_neg (by omega)])), (u2_q (by omega)).trans ((CC_n3 h).trans (by unfold am_u1; rw [if_neg (by omega)])), (u2_q (by omega)).trans ((CC_fo h).trans (by unfold am_u1; rw [if_neg (by omega)])), (u2_q (by omega)).trans ((CC_sm h).trans (by unfold am_u1; rw [if_neg (by omega)])), fun j hj => (u2_q (by omega)).trans ((CC_ki h j hj).trans (by unfold am_u1; rw [if_neg (by omega)])), fun j hj => (u2_q (by omega)).trans ((CC_ra h j hj).trans (by unfold am_u1; rw [if_neg (by omega)])), fun j hj => (u2_q (by omega)).trans ((CC_at h j hj).trans (by unfold am_u1; rw [if_neg (by omega)])), fun j hj => (u2_q (by omega)).trans ((CC_by h j hj).trans (by unfold am_u1; rw [if_neg (by omega)])), fun j hj => (u2_q (by omega)).trans ((CC_ea h j hj).trans (by unfold am_u1; rw [if_neg (by omega)])), fun j hj => (u2_q (by omega)).trans ((CC_en h j hj).trans (by unfold am_u1; rw [if_neg (by omega)])), fun j hj => (u2_q (by omega)).trans ((CC_we h j hj).trans (by unfold am_u1; rw [if_neg (by omega)])), fun j hj => (u2_q (by omega)).trans ((CC_kn h j hj).trans (by unfold am_u1; rw [if_neg (by omega)])), fun j hj => by rw [u2_at]; unfold am_u1; by_cases e : j = i; (rw [if_pos e, if_pos (by omega)]); (rw [if_neg e, if_neg (by omega)]; exact CC_te h j hj), fun j hj => (u2_q (by omega)).trans ((CC_ro h j hj).trans (by unfold am_u1; rw [if_neg (by omega)])), fun b hb => (u2_q (by omega)).trans ((CC_nr h b hb).trans (congrArg Int.ofNat (nr_congr hb (fun j hj => (by unfold am_u1; rw [if_neg (by omega)]))).symm)), fun j hj => (u2_q (by omega)).trans ((CC_h1 h j hj).trans (by unfold am_u1; rw [if_neg (by omega)])), fun j hj => (u2_q (by omega)).trans ((CC_h2 h j hj).trans (by unfold am_u1; rw [if_neg (by omega)]))⟩
theorem CCs_h1 {I : Nat → Nat → Int} {c : Nat} {ρ : Nat → Int} {v : Int} (h : CC I c ρ) {i : Nat} (hi : i < 6) : CC (am_u2 I (c + 13) i v) c (am_u1 ρ (88 + 2 * i) v) := ⟨(u2_q (by omega)).trans ((CC_n0 h).trans (by unfold am_u1; rw [if_neg (by omega)])), (u2_q (by omega)).trans ((CC_n1 h).trans (by unfold am_u1; rw [if_neg (by omega)])), (u2_q (by omega)).trans ((CC_n2 h).trans (by unfold am_u1; rw [if_neg (by omega)])), (u2_q (by omega)).trans ((CC_n3 h).trans (by unfold am_u1; rw [if_neg (by omega)])), (u2_q (by omega)).trans ((CC_fo h).trans (by unfold am_u1; rw [if_neg (by omega)])), (u2_q (by omega)).trans ((CC_sm h).trans (by unfold am_u1; rw [if_neg (by omega)])), fun j hj => (u2_q (by omega)).trans ((CC_ki h j hj).trans (by unfold am_u1; rw [if_neg (by omega)])), fun j hj => (u2_q (by omega)).trans ((CC_ra h j hj).trans (by unfold am_u1; rw [if_neg (by omega)])), fun j hj => (u2_q (by omega)).trans ((CC_at h j hj).trans (by unfold am_u1; rw [if_neg (by omega)])), fun j hj => (u2_q (by omega)).trans ((CC_by h j hj).trans (by unfold am_u1; rw [if_neg (by omega)])), fun j hj => (u2_q (by omega)).trans ((CC_ea h j hj).trans (by unfold am_u1; rw [if_neg (by omega)])), fun j hj => (u2_q (by omega)).trans ((CC_en h j hj).trans (by unfold am_u1; rw [if_neg (by omega)])), fun j hj => (u2_q (by omega)).trans ((CC_we h j hj).trans (by unfold am_u1; rw [if_neg (by omega)])), fun j hj => (u2_q (by omega)).trans ((CC_kn h j hj).trans (by unfold am_u1; rw [if_neg (by omega)])), fun j hj => (u2_q (by omega)).trans ((CC_te h j hj).trans (by unfold am_u1; rw [if_neg (by omega)])), fun j hj => (u2_q (by omega)).trans ((CC_ro h j hj).trans (by unfold am_u1; rw [if_neg (by omega)])), fun b hb => (u2_q (by omega)).trans ((CC_nr h b hb).trans (congrArg Int.ofNat (nr_congr hb (fun j hj => (by unfold am_u1; rw [if_neg (by omega)]))).symm)), fun j hj => by rw [u2_at]; unfold am_u1; by_cases e : j = i; (rw [if_pos e, if_pos (by omega)]); (rw [if_neg e, if_neg (by omega)]; exact CC_h1 h j hj), fun j hj => (u2_q (by omega)).trans ((CC_h2 h j hj).trans (by unfold am_u1; rw [if_neg (by omega)]))⟩
theorem CCs_h2 {I : Nat → Nat → Int} {c : Nat} {ρ : Nat → Int} {v : Int} (h : CC I c ρ) {i : Nat} (hi : i < 6) : CC (am_u2 I (c + 14) i v) c (am_u1 ρ (88 + 2 * i + 1) v) := ⟨(u2_q (by omega)).trans ((CC_n0 h).trans (by unfold am_u1; rw [if_neg (by omega)])), (u2_q (by omega)).trans ((CC_n1 h).trans (by unfold am_u1; rw [if_neg (by omega)])), (u2_q (by omega)).trans ((CC_n2 h).trans (by unfold am_u1; rw [if_neg (by omega)])), (u2_q (by omega)).trans ((CC_n3 h).trans (by unfold am_u1; rw [if_neg (by omega)])), (u2_q (by omega)).trans ((CC_fo h).trans (by unfold am_u1; rw [if_neg (by omega)])), (u2_q (by omega)).trans ((CC_sm h).trans (by unfold am_u1; rw [if_neg (by omega)])), fun j hj => (u2_q (by omega)).trans ((CC_ki h j hj).trans (by unfold am_u1; rw [if_neg (by omega)])), fun j hj => (u2_q (by omega)).trans ((CC_ra h j hj).trans (by unfold am_u1; rw [if_neg (by omega)])), fun j hj => (u2_q (by omega)).trans ((CC_at h j hj).trans (by unfold am_u1; rw [if_neg (by omega)])), fun j hj => (u2_q (by omega)).trans ((CC_by h j hj).trans (by unfold am_u1; rw [if_neg (by omega)])), fun j hj => (u2_q (by omega)).trans ((CC_ea h j hj).trans (by unfold am_u1; rw [if_neg (by omega)])), fun j hj => (u2_q (by omega)).trans ((CC_en h j hj).trans (by unfold am_u1; rw [if_neg (by omega)])), fun j hj => (u2_q (by omega)).trans ((CC_we h j hj).trans (by unfold am_u1; rw [if_neg (by omega)])), fun j hj => (u2_q (by omega)).trans ((CC_kn h j hj).trans (by unfold am_u1; rw [if_neg (by omega)])), fun j hj => (u2_q (by omega)).trans ((CC_te h j hj).trans (by unfold am_u1; rw [if_neg (by omega)])), fun j hj => (u2_q (by omega)).trans ((CC_ro h j hj).trans (by unfold am_u1; rw [if_neg (by omega)])), fun b hb => (u2_q (by omega)).trans ((CC_nr h b hb).trans (congrArg Int.ofNat (nr_congr hb (fun j hj => (by unfold am_u1; rw [if_neg (by omega)]))).symm)), fun j hj => (u2_q (by omega)).trans ((CC_h1 h j hj).trans (by unfold am_u1; rw [if_neg (by omega)])), fun j hj => by rw [u2_at]; unfold am_u1; by_cases e : j = i; (rw [if_pos e, if_pos (by omega)]); (rw [if_neg e, if_neg (by omega)]; exact CC_h2 h j hj)⟩
theorem RWs_n0 {ρ : Nat → Int} {v : Int} (h : RW ρ) (hv : 0 ≤ v ∧ v ≤ 6) : RW (am_u1 ρ 0 v) := by
  unfold RW
  refine ⟨?_, ?_, ?_, ?_, ?_, ?_, ?_, ?_, ?_, ?_, ?_, ?_, ?_, ?_, ?_, ?_, ?_, ?_, ?_, ?_, ?_, ?_⟩
  · have := RW_n0 h; unfold am_u1; (repeat' split) <;> omega
  · have := RW_n1 h; unfold am_u1; (repeat' split) <;> omega
  · have := RW_n2 h; unfold am_u1; (repeat' split) <;> omega
  · have := RW_n3 h; unfold am_u1; (repeat' split) <;> omega
  · have zn3 := RW_n3 h; have := RW_fo h; unfold am_u1; (repeat' split) <;> omega
  · have := RW_ni h; unfold am_u1; (repeat' split) <;> omega
  · have := RW_fa h; unfold am_u1; (repeat' split) <;> omega
  · have := RW_mo h; unfold am_u1; (repeat' split) <;> omega
  · have := RW_sm h; unfold am_u1; (repeat' split) <;> omega
  · intro x hx; have := RW_at h x hx; unfold am_u1; (repeat' split) <;> omega
  · intro x hx; have := RW_en h x hx; unfold am_u1; (repeat' split) <;> omega
  · intro x hx; have := RW_we h x hx; unfold am_u1; (repeat' split) <;> omega
  · intro x hx; have := RW_kn h x hx; unfold am_u1; (repeat' split) <;> omega
  · intro x hx; have := RW_ki h x hx; unfold am_u1; (repeat' split) <;> omega
  · intro x hx; have := RW_ra h x hx; unfold am_u1; (repeat' split) <;> omega
  · intro x hx; have := RW_by h x hx; unfold am_u1; (repeat' split) <;> omega
  · intro x hx; have := RW_ea h x hx; unfold am_u1; (repeat' split) <;> omega
  · intro x hx; have := RW_ro h x hx; unfold am_u1; (repeat' split) <;> omega
  · intro b o hb ho; have := RW_rs h b o hb ho; unfold am_u1; (repeat' split) <;> omega
  · intro x hx; have := RW_rd h x hx; unfold am_u1; (repeat' split) <;> omega
  · intro x hx; have := RW_he h x hx; unfold am_u1; (repeat' split) <;> omega
  · intro k; have := RW_hf h k; have := RW_n2 h; have := RW_n1 h; unfold am_u1; (repeat' split) <;> (intro hk; omega)
theorem RWs_n1 {ρ : Nat → Int} {v : Int} (h : RW ρ) (hv : ρ 1 ≤ v ∧ v ≤ 5) : RW (am_u1 ρ 1 v) := by
  unfold RW
  refine ⟨?_, ?_, ?_, ?_, ?_, ?_, ?_, ?_, ?_, ?_, ?_, ?_, ?_, ?_, ?_, ?_, ?_, ?_, ?_, ?_, ?_, ?_⟩
  · have := RW_n0 h; unfold am_u1; (repeat' split) <;> omega
  · have := RW_n1 h; unfold am_u1; (repeat' split) <;> omega
  · have := RW_n2 h; unfold am_u1; (repeat' split) <;> omega
  · have := RW_n3 h; unfold am_u1; (repeat' split) <;> omega
  · have zn3 := RW_n3 h; have := RW_fo h; unfold am_u1; (repeat' split) <;> omega
  · have := RW_ni h; unfold am_u1; (repeat' split) <;> omega
  · have := RW_fa h; unfold am_u1; (repeat' split) <;> omega
  · have := RW_mo h; unfold am_u1; (repeat' split) <;> omega
  · have := RW_sm h; unfold am_u1; (repeat' split) <;> omega
  · intro x hx; have := RW_at h x hx; unfold am_u1; (repeat' split) <;> omega
  · intro x hx; have := RW_en h x hx; unfold am_u1; (repeat' split) <;> omega
  · intro x hx; have := RW_we h x hx; unfold am_u1; (repeat' split) <;> omega
  · intro x hx; have := RW_kn h x hx; unfold am_u1; (repeat' split) <;> omega
  · intro x hx; have := RW_ki h x hx; unfold am_u1; (repeat' split) <;> omega
  · intro x hx; have := RW_ra h x hx; unfold am_u1; (repeat' split) <;> omega
  · intro x hx; have := RW_by h x hx; unfold am_u1; (repeat' split) <;> omega
  · intro x hx; have := RW_ea h x hx; unfold am_u1; (repeat' split) <;> omega
  · intro x hx; have := RW_ro h x hx; unfold am_u1; (repeat' split) <;> omega
  · intro b o hb ho; have := RW_rs h b o hb ho; unfold am_u1; (repeat' split) <;> omega
  · intro x hx; have := RW_rd h x hx; unfold am_u1; (repeat' split) <;> omega
  · intro x hx; have := RW_he h x hx; unfold am_u1; (repeat' split) <;> omega
  · intro k; have := RW_hf h k; have := RW_n2 h; have := RW_n1 h; unfold am_u1; (repeat' split) <;> (intro hk; omega)
theorem RWs_n3 {ρ : Nat → Int} {v : Int} (h : RW ρ) (hv : ρ 3 ≤ v ∧ v ≤ 6) : RW (am_u1 ρ 3 v) := by
  unfold RW
  refine ⟨?_, ?_, ?_, ?_, ?_, ?_, ?_, ?_, ?_, ?_, ?_, ?_, ?_, ?_, ?_, ?_, ?_, ?_, ?_, ?_, ?_, ?_⟩
  · have := RW_n0 h; unfold am_u1; (repeat' split) <;> omega
  · have := RW_n1 h; unfold am_u1; (repeat' split) <;> omega
  · have := RW_n2 h; unfold am_u1; (repeat' split) <;> omega
  · have := RW_n3 h; unfold am_u1; (repeat' split) <;> omega
  · have zn3 := RW_n3 h; have := RW_fo h; unfold am_u1; (repeat' split) <;> omega
  · have := RW_ni h; unfold am_u1; (repeat' split) <;> omega
  · have := RW_fa h; unfold am_u1; (repeat' split) <;> omega
  · have := RW_mo h; unfold am_u1; (repeat' split) <;> omega
  · have := RW_sm h; unfold am_u1; (repeat' split) <;> omega
  · intro x hx; have := RW_at h x hx; unfold am_u1; (repeat' split) <;> omega
  · intro x hx; have := RW_en h x hx; unfold am_u1; (repeat' split) <;> omega
  · intro x hx; have := RW_we h x hx; unfold am_u1; (repeat' split) <;> omega
  · intro x hx; have := RW_kn h x hx; unfold am_u1; (repeat' split) <;> omega
  · intro x hx; have := RW_ki h x hx; unfold am_u1; (repeat' split) <;> omega
  · intro x hx; have := RW_ra h x hx; unfold am_u1; (repeat' split) <;> omega
  · intro x hx; have := RW_by h x hx; unfold am_u1; (repeat' split) <;> omega
  · intro x hx; have := RW_ea h x hx; unfold am_u1; (repeat' split) <;> omega
  · intro x hx; have := RW_ro h x hx; unfold am_u1; (repeat' split) <;> omega
  · intro b o hb ho; have := RW_rs h b o hb ho; unfold am_u1; (repeat' split) <;> omega
  · intro x hx; have := RW_rd h x hx; unfold am_u1; (repeat' split) <;> omega
  · intro x hx; have := RW_he h x hx; unfold am_u1; (repeat' split) <;> omega
  · intro k; have := RW_hf h k; have := RW_n2 h; have := RW_n1 h; unfold am_u1; (repeat' split) <;> (intro hk; omega)
theorem RWs_fo {ρ : Nat → Int} {v : Int} (h : RW ρ) (hv : -1 ≤ v ∧ v < ρ 3) : RW (am_u1 ρ 4 v) := by
  unfold RW
  refine ⟨?_, ?_, ?_, ?_, ?_, ?_, ?_, ?_, ?_, ?_, ?_, ?_, ?_, ?_, ?_, ?_, ?_, ?_, ?_, ?_, ?_, ?_⟩
  · have := RW_n0 h; unfold am_u1; (repeat' split) <;> omega
  · have := RW_n1 h; unfold am_u1; (repeat' split) <;> omega
  · have := RW_n2 h; unfold am_u1; (repeat' split) <;> omega
  · have := RW_n3 h; unfold am_u1; (repeat' split) <;> omega
  · have zn3 := RW_n3 h; have := RW_fo h; unfold am_u1; (repeat' split) <;> omega
  · have := RW_ni h; unfold am_u1; (repeat' split) <;> omega
  · have := RW_fa h; unfold am_u1; (repeat' split) <;> omega
  · have := RW_mo h; unfold am_u1; (repeat' split) <;> omega
  · have := RW_sm h; unfold am_u1; (repeat' split) <;> omega
  · intro x hx; have := RW_at h x hx; unfold am_u1; (repeat' split) <;> omega
  · intro x hx; have := RW_en h x hx; unfold am_u1; (repeat' split) <;> omega
  · intro x hx; have := RW_we h x hx; unfold am_u1; (repeat' split) <;> omega
  · intro x hx; have := RW_kn h x hx; unfold am_u1; (repeat' split) <;> omega
  · intro x hx; have := RW_ki h x hx; unfold am_u1; (repeat' split) <;> omega
  · intro x hx; have := RW_ra h x hx; unfold am_u1; (repeat' split) <;> omega
  · intro x hx; have := RW_by h x hx; unfold am_u1; (repeat' split) <;> omega
  · intro x hx; have := RW_ea h x hx; unfold am_u1; (repeat' split) <;> omega
  · intro x hx; have := RW_ro h x hx; unfold am_u1; (repeat' split) <;> omega
  · intro b o hb ho; have := RW_rs h b o hb ho; unfold am_u1; (repeat' split) <;> omega
  · intro x hx; have := RW_rd h x hx; unfold am_u1; (repeat' split) <;> omega
  · intro x hx; have := RW_he h x hx; unfold am_u1; (repeat' split) <;> omega
  · intro k; have := RW_hf h k; have := RW_n2 h; have := RW_n1 h; unfold am_u1; (repeat' split) <;> (intro hk; omega)
theorem RWs_ni {ρ : Nat → Int} {v : Int} (h : RW ρ) (hv : 0 ≤ v ∧ v ≤ 1100) : RW (am_u1 ρ 5 v) := by
  unfold RW
  refine ⟨?_, ?_, ?_, ?_, ?_, ?_, ?_, ?_, ?_, ?_, ?_, ?_, ?_, ?_, ?_, ?_, ?_, ?_, ?_, ?_, ?_, ?_⟩
  · have := RW_n0 h; unfold am_u1; (repeat' split) <;> omega
  · have := RW_n1 h; unfold am_u1; (repeat' split) <;> omega
  · have := RW_n2 h; unfold am_u1; (repeat' split) <;> omega
  · have := RW_n3 h; unfold am_u1; (repeat' split) <;> omega
  · have zn3 := RW_n3 h; have := RW_fo h; unfold am_u1; (repeat' split) <;> omega
  · have := RW_ni h; unfold am_u1; (repeat' split) <;> omega
  · have := RW_fa h; unfold am_u1; (repeat' split) <;> omega
  · have := RW_mo h; unfold am_u1; (repeat' split) <;> omega
  · have := RW_sm h; unfold am_u1; (repeat' split) <;> omega
  · intro x hx; have := RW_at h x hx; unfold am_u1; (repeat' split) <;> omega
  · intro x hx; have := RW_en h x hx; unfold am_u1; (repeat' split) <;> omega
  · intro x hx; have := RW_we h x hx; unfold am_u1; (repeat' split) <;> omega
  · intro x hx; have := RW_kn h x hx; unfold am_u1; (repeat' split) <;> omega
  · intro x hx; have := RW_ki h x hx; unfold am_u1; (repeat' split) <;> omega
  · intro x hx; have := RW_ra h x hx; unfold am_u1; (repeat' split) <;> omega
  · intro x hx; have := RW_by h x hx; unfold am_u1; (repeat' split) <;> omega
  · intro x hx; have := RW_ea h x hx; unfold am_u1; (repeat' split) <;> omega
  · intro x hx; have := RW_ro h x hx; unfold am_u1; (repeat' split) <;> omega
  · intro b o hb ho; have := RW_rs h b o hb ho; unfold am_u1; (repeat' split) <;> omega
  · intro x hx; have := RW_rd h x hx; unfold am_u1; (repeat' split) <;> omega
  · intro x hx; have := RW_he h x hx; unfold am_u1; (repeat' split) <;> omega
  · intro k; have := RW_hf h k; have := RW_n2 h; have := RW_n1 h; unfold am_u1; (repeat' split) <;> (intro hk; omega)
theorem RWs_fa {ρ : Nat → Int} {v : Int} (h : RW ρ) (hv : 0 ≤ v ∧ v ≤ 10) : RW (am_u1 ρ 6 v) := by
  unfold RW
  refine ⟨?_, ?_, ?_, ?_, ?_, ?_, ?_, ?_, ?_, ?_, ?_, ?_, ?_, ?_, ?_, ?_, ?_, ?_, ?_, ?_, ?_, ?_⟩
  · have := RW_n0 h; unfold am_u1; (repeat' split) <;> omega
  · have := RW_n1 h; unfold am_u1; (repeat' split) <;> omega
  · have := RW_n2 h; unfold am_u1; (repeat' split) <;> omega
  · have := RW_n3 h; unfold am_u1; (repeat' split) <;> omega
  · have zn3 := RW_n3 h; have := RW_fo h; unfold am_u1; (repeat' split) <;> omega
  · have := RW_ni h; unfold am_u1; (repeat' split) <;> omega
  · have := RW_fa h; unfold am_u1; (repeat' split) <;> omega
  · have := RW_mo h; unfold am_u1; (repeat' split) <;> omega
  · have := RW_sm h; unfold am_u1; (repeat' split) <;> omega
  · intro x hx; have := RW_at h x hx; unfold am_u1; (repeat' split) <;> omega
  · intro x hx; have := RW_en h x hx; unfold am_u1; (repeat' split) <;> omega
  · intro x hx; have := RW_we h x hx; unfold am_u1; (repeat' split) <;> omega
  · intro x hx; have := RW_kn h x hx; unfold am_u1; (repeat' split) <;> omega
  · intro x hx; have := RW_ki h x hx; unfold am_u1; (repeat' split) <;> omega
  · intro x hx; have := RW_ra h x hx; unfold am_u1; (repeat' split) <;> omega
  · intro x hx; have := RW_by h x hx; unfold am_u1; (repeat' split) <;> omega
  · intro x hx; have := RW_ea h x hx; unfold am_u1; (repeat' split) <;> omega
  · intro x hx; have := RW_ro h x hx; unfold am_u1; (repeat' split) <;> omega
  · intro b o hb ho; have := RW_rs h b o hb ho; unfold am_u1; (repeat' split) <;> omega
  · intro x hx; have := RW_rd h x hx; unfold am_u1; (repeat' split) <;> omega
  · intro x hx; have := RW_he h x hx; unfold am_u1; (repeat' split) <;> omega
  · intro k; have := RW_hf h k; have := RW_n2 h; have := RW_n1 h; unfold am_u1; (repeat' split) <;> (intro hk; omega)
theorem RWs_mo {ρ : Nat → Int} {v : Int} (h : RW ρ) (hv : 0 ≤ v ∧ v ≤ 9) : RW (am_u1 ρ 7 v) := by
  unfold RW
  refine ⟨?_, ?_, ?_, ?_, ?_, ?_, ?_, ?_, ?_, ?_, ?_, ?_, ?_, ?_, ?_, ?_, ?_, ?_, ?_, ?_, ?_, ?_⟩
  · have := RW_n0 h; unfold am_u1; (repeat' split) <;> omega
  · have := RW_n1 h; unfold am_u1; (repeat' split) <;> omega
  · have := RW_n2 h; unfold am_u1; (repeat' split) <;> omega
  · have := RW_n3 h; unfold am_u1; (repeat' split) <;> omega
  · have zn3 := RW_n3 h; have := RW_fo h; unfold am_u1; (repeat' split) <;> omega
  · have := RW_ni h; unfold am_u1; (repeat' split) <;> omega
  · have := RW_fa h; unfold am_u1; (repeat' split) <;> omega
  · have := RW_mo h; unfold am_u1; (repeat' split) <;> omega
  · have := RW_sm h; unfold am_u1; (repeat' split) <;> omega
  · intro x hx; have := RW_at h x hx; unfold am_u1; (repeat' split) <;> omega
  · intro x hx; have := RW_en h x hx; unfold am_u1; (repeat' split) <;> omega
  · intro x hx; have := RW_we h x hx; unfold am_u1; (repeat' split) <;> omega
  · intro x hx; have := RW_kn h x hx; unfold am_u1; (repeat' split) <;> omega
  · intro x hx; have := RW_ki h x hx; unfold am_u1; (repeat' split) <;> omega
  · intro x hx; have := RW_ra h x hx; unfold am_u1; (repeat' split) <;> omega
  · intro x hx; have := RW_by h x hx; unfold am_u1; (repeat' split) <;> omega
  · intro x hx; have := RW_ea h x hx; unfold am_u1; (repeat' split) <;> omega
  · intro x hx; have := RW_ro h x hx; unfold am_u1; (repeat' split) <;> omega
  · intro b o hb ho; have := RW_rs h b o hb ho; unfold am_u1; (repeat' split) <;> omega
  · intro x hx; have := RW_rd h x hx; unfold am_u1; (repeat' split) <;> omega
  · intro x hx; have := RW_he h x hx; unfold am_u1; (repeat' split) <;> omega
  · intro k; have := RW_hf h k; have := RW_n2 h; have := RW_n1 h; unfold am_u1; (repeat' split) <;> (intro hk; omega)
theorem RWs_sm {ρ : Nat → Int} {v : Int} (h : RW ρ) (hv : 0 ≤ v ∧ v < 64) : RW (am_u1 ρ 8 v) := by
  unfold RW
  refine ⟨?_, ?_, ?_, ?_, ?_, ?_, ?_, ?_, ?_, ?_, ?_, ?_, ?_, ?_, ?_, ?_, ?_, ?_, ?_, ?_, ?_, ?_⟩
  · have := RW_n0 h; unfold am_u1; (repeat' split) <;> omega
  · have := RW_n1 h; unfold am_u1; (repeat' split) <;> omega
  · have := RW_n2 h; unfold am_u1; (repeat' split) <;> omega
  · have := RW_n3 h; unfold am_u1; (repeat' split) <;> omega
  · have zn3 := RW_n3 h; have := RW_fo h; unfold am_u1; (repeat' split) <;> omega
  · have := RW_ni h; unfold am_u1; (repeat' split) <;> omega
  · have := RW_fa h; unfold am_u1; (repeat' split) <;> omega
  · have := RW_mo h; unfold am_u1; (repeat' split) <;> omega
  · have := RW_sm h; unfold am_u1; (repeat' split) <;> omega
  · intro x hx; have := RW_at h x hx; unfold am_u1; (repeat' split) <;> omega
  · intro x hx; have := RW_en h x hx; unfold am_u1; (repeat' split) <;> omega
  · intro x hx; have := RW_we h x hx; unfold am_u1; (repeat' split) <;> omega
  · intro x hx; have := RW_kn h x hx; unfold am_u1; (repeat' split) <;> omega
  · intro x hx; have := RW_ki h x hx; unfold am_u1; (repeat' split) <;> omega
  · intro x hx; have := RW_ra h x hx; unfold am_u1; (repeat' split) <;> omega
  · intro x hx; have := RW_by h x hx; unfold am_u1; (repeat' split) <;> omega
  · intro x hx; have := RW_ea h x hx; unfold am_u1; (repeat' split) <;> omega
  · intro x hx; have := RW_ro h x hx; unfold am_u1; (repeat' split) <;> omega
  · intro b o hb ho; have := RW_rs h b o hb ho; unfold am_u1; (repeat' split) <;> omega
  · intro x hx; have := RW_rd h x hx; unfold am_u1; (repeat' split) <;> omega
  · intro x hx; have := RW_he h x hx; unfold am_u1; (repeat' split) <;> omega
  · intro k; have := RW_hf h k; have := RW_n2 h; have := RW_n1 h; unfold am_u1; (repeat' split) <;> (intro hk; omega)
theorem RWs_at {ρ : Nat → Int} {v : Int} (h : RW ρ) {i : Nat} (hi : i < 6) (hv : 0 ≤ v ∧ v < 6) : RW (am_u1 ρ (9 + i) v) := by
  unfold RW
  refine ⟨?_, ?_, ?_, ?_, ?_, ?_, ?_, ?_, ?_, ?_, ?_, ?_, ?_, ?_, ?_, ?_, ?_, ?_, ?_, ?_, ?_, ?_⟩
  · have := RW_n0 h; unfold am_u1; (repeat' split) <;> omega
  · have := RW_n1 h; unfold am_u1; (repeat' split) <;> omega
  · have := RW_n2 h; unfold am_u1; (repeat' split) <;> omega
  · have := RW_n3 h; unfold am_u1; (repeat' split) <;> omega
  · have zn3 := RW_n3 h; have := RW_fo h; unfold am_u1; (repeat' split) <;> omega
  · have := RW_ni h; unfold am_u1; (repeat' split) <;> omega
  · have := RW_fa h; unfold am_u1; (repeat' split) <;> omega
  · have := RW_mo h; unfold am_u1; (repeat' split) <;> omega
  · have := RW_sm h; unfold am_u1; (repeat' split) <;> omega
  · intro x hx; have := RW_at h x hx; unfold am_u1; (repeat' split) <;> omega
  · intro x hx; have := RW_en h x hx; unfold am_u1; (repeat' split) <;> omega
  · intro x hx; have := RW_we h x hx; unfold am_u1; (repeat' split) <;> omega
  · intro x hx; have := RW_kn h x hx; unfold am_u1; (repeat' split) <;> omega
  · intro x hx; have := RW_ki h x hx; unfold am_u1; (repeat' split) <;> omega
  · intro x hx; have := RW_ra h x hx; unfold am_u1; (repeat' split) <;> omega
  · intro x hx; have := RW_by h x hx; unfold am_u1; (repeat' split) <;> omega
  · intro x hx; have := RW_ea h x hx; unfold am_u1; (repeat' split) <;> omega
  · intro x hx; have := RW_ro h x hx; unfold am_u1; (repeat' split) <;> omega
  · intro b o hb ho; have := RW_rs h b o hb ho; unfold am_u1; (repeat' split) <;> omega
  · intro x hx; have := RW_rd h x hx; unfold am_u1; (repeat' split) <;> omega
  · intro x hx; have := RW_he h x hx; unfold am_u1; (repeat' split) <;> omega
  · intro k; have := RW_hf h k; have := RW_n2 h; have := RW_n1 h; unfold am_u1; (repeat' split) <;> (intro hk; omega)
theorem RWs_en {ρ : Nat → Int} {v : Int} (h : RW ρ) {i : Nat} (hi : i < 5) (hv : v = 0 ∨ v = 1) : RW (am_u1 ρ (15 + i) v) := by
  unfold RW
  refine ⟨?_, ?_, ?_, ?_, ?_, ?_, ?_, ?_, ?_, ?_, ?_, ?_, ?_, ?_, ?_, ?_, ?_, ?_, ?_, ?_, ?_, ?_⟩
  · have := RW_n0 h; unfold am_u1; (repeat' split) <;> omega
  · have := RW_n1 h; unfold am_u1; (repeat' split) <;> omega
  · have := RW_n2 h; unfold am_u1; (repeat' split) <;> omega
  · have := RW_n3 h; unfold am_u1; (repeat' split) <;> omega
  · have zn3 := RW_n3 h; have := RW_fo h; unfold am_u1; (repeat' split) <;> omega
  · have := RW_ni h; unfold am_u1; (repeat' split) <;> omega
  · have := RW_fa h; unfold am_u1; (repeat' split) <;> omega
  · have := RW_mo h; unfold am_u1; (repeat' split) <;> omega
  · have := RW_sm h; unfold am_u1; (repeat' split) <;> omega
  · intro x hx; have := RW_at h x hx; unfold am_u1; (repeat' split) <;> omega
  · intro x hx; have := RW_en h x hx; unfold am_u1; (repeat' split) <;> omega
  · intro x hx; have := RW_we h x hx; unfold am_u1; (repeat' split) <;> omega
  · intro x hx; have := RW_kn h x hx; unfold am_u1; (repeat' split) <;> omega
  · intro x hx; have := RW_ki h x hx; unfold am_u1; (repeat' split) <;> omega
  · intro x hx; have := RW_ra h x hx; unfold am_u1; (repeat' split) <;> omega
  · intro x hx; have := RW_by h x hx; unfold am_u1; (repeat' split) <;> omega
  · intro x hx; have := RW_ea h x hx; unfold am_u1; (repeat' split) <;> omega
  · intro x hx; have := RW_ro h x hx; unfold am_u1; (repeat' split) <;> omega
  · intro b o hb ho; have := RW_rs h b o hb ho; unfold am_u1; (repeat' split) <;> omega
  · intro x hx; have := RW_rd h x hx; unfold am_u1; (repeat' split) <;> omega
  · intro x hx; have := RW_he h x hx; unfold am_u1; (repeat' split) <;> omega
  · intro k; have := RW_hf h k; have := RW_n2 h; have := RW_n1 h; unfold am_u1; (repeat' split) <;> (intro hk; omega)
theorem RWs_we {ρ : Nat → Int} {v : Int} (h : RW ρ) {i : Nat} (hi : i < 5) (hv : 0 ≤ v ∧ v ≤ 999) : RW (am_u1 ρ (20 + i) v) := by
  unfold RW
  refine ⟨?_, ?_, ?_, ?_, ?_, ?_, ?_, ?_, ?_, ?_, ?_, ?_, ?_, ?_, ?_, ?_, ?_, ?_, ?_, ?_, ?_, ?_⟩
  · have := RW_n0 h; unfold am_u1; (repeat' split) <;> omega
  · have := RW_n1 h; unfold am_u1; (repeat' split) <;> omega
  · have := RW_n2 h; unfold am_u1; (repeat' split) <;> omega
  · have := RW_n3 h; unfold am_u1; (repeat' split) <;> omega
  · have zn3 := RW_n3 h; have := RW_fo h; unfold am_u1; (repeat' split) <;> omega
  · have := RW_ni h; unfold am_u1; (repeat' split) <;> omega
  · have := RW_fa h; unfold am_u1; (repeat' split) <;> omega
  · have := RW_mo h; unfold am_u1; (repeat' split) <;> omega
  · have := RW_sm h; unfold am_u1; (repeat' split) <;> omega
  · intro x hx; have := RW_at h x hx; unfold am_u1; (repeat' split) <;> omega
  · intro x hx; have := RW_en h x hx; unfold am_u1; (repeat' split) <;> omega
  · intro x hx; have := RW_we h x hx; unfold am_u1; (repeat' split) <;> omega
  · intro x hx; have := RW_kn h x hx; unfold am_u1; (repeat' split) <;> omega
  · intro x hx; have := RW_ki h x hx; unfold am_u1; (repeat' split) <;> omega
  · intro x hx; have := RW_ra h x hx; unfold am_u1; (repeat' split) <;> omega
  · intro x hx; have := RW_by h x hx; unfold am_u1; (repeat' split) <;> omega
  · intro x hx; have := RW_ea h x hx; unfold am_u1; (repeat' split) <;> omega
  · intro x hx; have := RW_ro h x hx; unfold am_u1; (repeat' split) <;> omega
  · intro b o hb ho; have := RW_rs h b o hb ho; unfold am_u1; (repeat' split) <;> omega
  · intro x hx; have := RW_rd h x hx; unfold am_u1; (repeat' split) <;> omega
  · intro x hx; have := RW_he h x hx; unfold am_u1; (repeat' split) <;> omega
  · intro k; have := RW_hf h k; have := RW_n2 h; have := RW_n1 h; unfold am_u1; (repeat' split) <;> (intro hk; omega)
theorem RWs_kn {ρ : Nat → Int} {v : Int} (h : RW ρ) {i : Nat} (hi : i < 5) (hv : 0 ≤ v ∧ v ≤ 999) : RW (am_u1 ρ (25 + i) v) := by
  unfold RW
  refine ⟨?_, ?_, ?_, ?_, ?_, ?_, ?_, ?_, ?_, ?_, ?_, ?_, ?_, ?_, ?_, ?_, ?_, ?_, ?_, ?_, ?_, ?_⟩
  · have := RW_n0 h; unfold am_u1; (repeat' split) <;> omega
  · have := RW_n1 h; unfold am_u1; (repeat' split) <;> omega
  · have := RW_n2 h; unfold am_u1; (repeat' split) <;> omega
  · have := RW_n3 h; unfold am_u1; (repeat' split) <;> omega
  · have zn3 := RW_n3 h; have := RW_fo h; unfold am_u1; (repeat' split) <;> omega
  · have := RW_ni h; unfold am_u1; (repeat' split) <;> omega
  · have := RW_fa h; unfold am_u1; (repeat' split) <;> omega
  · have := RW_mo h; unfold am_u1; (repeat' split) <;> omega
  · have := RW_sm h; unfold am_u1; (repeat' split) <;> omega
  · intro x hx; have := RW_at h x hx; unfold am_u1; (repeat' split) <;> omega
  · intro x hx; have := RW_en h x hx; unfold am_u1; (repeat' split) <;> omega
  · intro x hx; have := RW_we h x hx; unfold am_u1; (repeat' split) <;> omega
  · intro x hx; have := RW_kn h x hx; unfold am_u1; (repeat' split) <;> omega
  · intro x hx; have := RW_ki h x hx; unfold am_u1; (repeat' split) <;> omega
  · intro x hx; have := RW_ra h x hx; unfold am_u1; (repeat' split) <;> omega
  · intro x hx; have := RW_by h x hx; unfold am_u1; (repeat' split) <;> omega
  · intro x hx; have := RW_ea h x hx; unfold am_u1; (repeat' split) <;> omega
  · intro x hx; have := RW_ro h x hx; unfold am_u1; (repeat' split) <;> omega
  · intro b o hb ho; have := RW_rs h b o hb ho; unfold am_u1; (repeat' split) <;> omega
  · intro x hx; have := RW_rd h x hx; unfold am_u1; (repeat' split) <;> omega
  · intro x hx; have := RW_he h x hx; unfold am_u1; (repeat' split) <;> omega
  · intro k; have := RW_hf h k; have := RW_n2 h; have := RW_n1 h; unfold am_u1; (repeat' split) <;> (intro hk; omega)
theorem RWs_ki {ρ : Nat → Int} {v : Int} (h : RW ρ) {i : Nat} (hi : i < 6) (hv : 0 ≤ v ∧ v < 5) : RW (am_u1 ρ (30 + i) v) := by
  unfold RW
  refine ⟨?_, ?_, ?_, ?_, ?_, ?_, ?_, ?_, ?_, ?_, ?_, ?_, ?_, ?_, ?_, ?_, ?_, ?_, ?_, ?_, ?_, ?_⟩
  · have := RW_n0 h; unfold am_u1; (repeat' split) <;> omega
  · have := RW_n1 h; unfold am_u1; (repeat' split) <;> omega
  · have := RW_n2 h; unfold am_u1; (repeat' split) <;> omega
  · have := RW_n3 h; unfold am_u1; (repeat' split) <;> omega
  · have zn3 := RW_n3 h; have := RW_fo h; unfold am_u1; (repeat' split) <;> omega
  · have := RW_ni h; unfold am_u1; (repeat' split) <;> omega
  · have := RW_fa h; unfold am_u1; (repeat' split) <;> omega
  · have := RW_mo h; unfold am_u1; (repeat' split) <;> omega
  · have := RW_sm h; unfold am_u1; (repeat' split) <;> omega
  · intro x hx; have := RW_at h x hx; unfold am_u1; (repeat' split) <;> omega
  · intro x hx; have := RW_en h x hx; unfold am_u1; (repeat' split) <;> omega
  · intro x hx; have := RW_we h x hx; unfold am_u1; (repeat' split) <;> omega
  · intro x hx; have := RW_kn h x hx; unfold am_u1; (repeat' split) <;> omega
  · intro x hx; have := RW_ki h x hx; unfold am_u1; (repeat' split) <;> omega
  · intro x hx; have := RW_ra h x hx; unfold am_u1; (repeat' split) <;> omega
  · intro x hx; have := RW_by h x hx; unfold am_u1; (repeat' split) <;> omega
  · intro x hx; have := RW_ea h x hx; unfold am_u1; (repeat' split) <;> omega
  · intro x hx; have := RW_ro h x hx; unfold am_u1; (repeat' split) <;> omega
  · intro b o hb ho; have := RW_rs h b o hb ho; unfold am_u1; (repeat' split) <;> omega
  · intro x hx; have := RW_rd h x hx; unfold am_u1; (repeat' split) <;> omega
  · intro x hx; have := RW_he h x hx; unfold am_u1; (repeat' split) <;> omega
  · intro k; have := RW_hf h k; have := RW_n2 h; have := RW_n1 h; unfold am_u1; (repeat' split) <;> (intro hk; omega)
theorem RWs_ra {ρ : Nat → Int} {v : Int} (h : RW ρ) {i : Nat} (hi : i < 6) (hv : 0 ≤ v ∧ v ≤ 9) : RW (am_u1 ρ (36 + i) v) := by
  unfold RW
  refine ⟨?_, ?_, ?_, ?_, ?_, ?_, ?_, ?_, ?_, ?_, ?_, ?_, ?_, ?_, ?_, ?_, ?_, ?_, ?_, ?_, ?_, ?_⟩
  · have := RW_n0 h; unfold am_u1; (repeat' split) <;> omega
  · have := RW_n1 h; unfold am_u1; (repeat' split) <;> omega
  · have := RW_n2 h; unfold am_u1; (repeat' split) <;> omega
  · have := RW_n3 h; unfold am_u1; (repeat' split) <;> omega
  · have zn3 := RW_n3 h; have := RW_fo h; unfold am_u1; (repeat' split) <;> omega
  · have := RW_ni h; unfold am_u1; (repeat' split) <;> omega
  · have := RW_fa h; unfold am_u1; (repeat' split) <;> omega
  · have := RW_mo h; unfold am_u1; (repeat' split) <;> omega
  · have := RW_sm h; unfold am_u1; (repeat' split) <;> omega
  · intro x hx; have := RW_at h x hx; unfold am_u1; (repeat' split) <;> omega
  · intro x hx; have := RW_en h x hx; unfold am_u1; (repeat' split) <;> omega
  · intro x hx; have := RW_we h x hx; unfold am_u1; (repeat' split) <;> omega
  · intro x hx; have := RW_kn h x hx; unfold am_u1; (repeat' split) <;> omega
  · intro x hx; have := RW_ki h x hx; unfold am_u1; (repeat' split) <;> omega
  · intro x hx; have := RW_ra h x hx; unfold am_u1; (repeat' split) <;> omega
  · intro x hx; have := RW_by h x hx; unfold am_u1; (repeat' split) <;> omega
  · intro x hx; have := RW_ea h x hx; unfold am_u1; (repeat' split) <;> omega
  · intro x hx; have := RW_ro h x hx; unfold am_u1; (repeat' split) <;> omega
  · intro b o hb ho; have := RW_rs h b o hb ho; unfold am_u1; (repeat' split) <;> omega
  · intro x hx; have := RW_rd h x hx; unfold am_u1; (repeat' split) <;> omega
  · intro x hx; have := RW_he h x hx; unfold am_u1; (repeat' split) <;> omega
  · intro k; have := RW_hf h k; have := RW_n2 h; have := RW_n1 h; unfold am_u1; (repeat' split) <;> (intro hk; omega)
theorem RWs_by {ρ : Nat → Int} {v : Int} (h : RW ρ) {i : Nat} (hi : i < 5) (hv : 0 ≤ v ∧ v < 6) : RW (am_u1 ρ (42 + i) v) := by
  unfold RW
  refine ⟨?_, ?_, ?_, ?_, ?_, ?_, ?_, ?_, ?_, ?_, ?_, ?_, ?_, ?_, ?_, ?_, ?_, ?_, ?_, ?_, ?_, ?_⟩
  · have := RW_n0 h; unfold am_u1; (repeat' split) <;> omega
  · have := RW_n1 h; unfold am_u1; (repeat' split) <;> omega
  · have := RW_n2 h; unfold am_u1; (repeat' split) <;> omega
  · have := RW_n3 h; unfold am_u1; (repeat' split) <;> omega
  · have zn3 := RW_n3 h; have := RW_fo h; unfold am_u1; (repeat' split) <;> omega
  · have := RW_ni h; unfold am_u1; (repeat' split) <;> omega
  · have := RW_fa h; unfold am_u1; (repeat' split) <;> omega
  · have := RW_mo h; unfold am_u1; (repeat' split) <;> omega
  · have := RW_sm h; unfold am_u1; (repeat' split) <;> omega
  · intro x hx; have := RW_at h x hx; unfold am_u1; (repeat' split) <;> omega
  · intro x hx; have := RW_en h x hx; unfold am_u1; (repeat' split) <;> omega
  · intro x hx; have := RW_we h x hx; unfold am_u1; (repeat' split) <;> omega
  · intro x hx; have := RW_kn h x hx; unfold am_u1; (repeat' split) <;> omega
  · intro x hx; have := RW_ki h x hx; unfold am_u1; (repeat' split) <;> omega
  · intro x hx; have := RW_ra h x hx; unfold am_u1; (repeat' split) <;> omega
  · intro x hx; have := RW_by h x hx; unfold am_u1; (repeat' split) <;> omega
  · intro x hx; have := RW_ea h x hx; unfold am_u1; (repeat' split) <;> omega
  · intro x hx; have := RW_ro h x hx; unfold am_u1; (repeat' split) <;> omega
  · intro b o hb ho; have := RW_rs h b o hb ho; unfold am_u1; (repeat' split) <;> omega
  · intro x hx; have := RW_rd h x hx; unfold am_u1; (repeat' split) <;> omega
  · intro x hx; have := RW_he h x hx; unfold am_u1; (repeat' split) <;> omega
  · intro k; have := RW_hf h k; have := RW_n2 h; have := RW_n1 h; unfold am_u1; (repeat' split) <;> (intro hk; omega)
theorem RWs_ea {ρ : Nat → Int} {v : Int} (h : RW ρ) {i : Nat} (hi : i < 5) (hv : 0 ≤ v ∧ v < 32) : RW (am_u1 ρ (47 + i) v) := by
  unfold RW
  refine ⟨?_, ?_, ?_, ?_, ?_, ?_, ?_, ?_, ?_, ?_, ?_, ?_, ?_, ?_, ?_, ?_, ?_, ?_, ?_, ?_, ?_, ?_⟩
  · have := RW_n0 h; unfold am_u1; (repeat' split) <;> omega
  · have := RW_n1 h; unfold am_u1; (repeat' split) <;> omega
  · have := RW_n2 h; unfold am_u1; (repeat' split) <;> omega
  · have := RW_n3 h; unfold am_u1; (repeat' split) <;> omega
  · have zn3 := RW_n3 h; have := RW_fo h; unfold am_u1; (repeat' split) <;> omega
  · have := RW_ni h; unfold am_u1; (repeat' split) <;> omega
  · have := RW_fa h; unfold am_u1; (repeat' split) <;> omega
  · have := RW_mo h; unfold am_u1; (repeat' split) <;> omega
  · have := RW_sm h; unfold am_u1; (repeat' split) <;> omega
  · intro x hx; have := RW_at h x hx; unfold am_u1; (repeat' split) <;> omega
  · intro x hx; have := RW_en h x hx; unfold am_u1; (repeat' split) <;> omega
  · intro x hx; have := RW_we h x hx; unfold am_u1; (repeat' split) <;> omega
  · intro x hx; have := RW_kn h x hx; unfold am_u1; (repeat' split) <;> omega
  · intro x hx; have := RW_ki h x hx; unfold am_u1; (repeat' split) <;> omega
  · intro x hx; have := RW_ra h x hx; unfold am_u1; (repeat' split) <;> omega
  · intro x hx; have := RW_by h x hx; unfold am_u1; (repeat' split) <;> omega
  · intro x hx; have := RW_ea h x hx; unfold am_u1; (repeat' split) <;> omega
  · intro x hx; have := RW_ro h x hx; unfold am_u1; (repeat' split) <;> omega
  · intro b o hb ho; have := RW_rs h b o hb ho; unfold am_u1; (repeat' split) <;> omega
  · intro x hx; have := RW_rd h x hx; unfold am_u1; (repeat' split) <;> omega
  · intro x hx; have := RW_he h x hx; unfold am_u1; (repeat' split) <;> omega
  · intro k; have := RW_hf h k; have := RW_n2 h; have := RW_n1 h; unfold am_u1; (repeat' split) <;> (intro hk; omega)
