/-! ===== seasons: one night, pure ===== -/
def dnx (s : Int) : Int := (s * 1103 + 12345) % 1000003
theorem dnx_b {s : Int} : 0 ≤ dnx s ∧ dnx s ≤ 1000002 := by unfold dnx; omega
/-- what is done in a night: how = 0, 1: a ring; 2: engaged or not; 3: smashed or not -/
noncomputable def ssd (ρ : Nat → Int) (n : Nat) (cl : Nat → Cl) (c f how : Nat) : Nat → Int := if how < 2 then (@ite (Nat → Int) (m_can ρ n cl c f) (Classical.propDecidable _) (m_ringr ρ n cl c f) ρ) else if how = 2 then am_u1 ρ (15 + f) (1 - ρ (15 + f)) else am_u1 ρ 8 (((ρ 8).toNat ^^^ 2 ^ (ρ (42 + f)).toNat : Nat) : Int)
noncomputable def srg (ρ : Nat → Int) (n : Nat) (cl : Nat → Cl) (c f how : Nat) : Int := @ite Int (how < 2 ∧ m_can ρ n cl c f) (Classical.propDecidable _) 1 0
theorem ssd_t {ρ : Nat → Int} {n : Nat} {cl : Nat → Cl} {c f how : Nat} (h : how < 2) (hc : m_can ρ n cl c f) : ssd ρ n cl c f how = m_ringr ρ n cl c f := by unfold ssd; rw [if_pos h]; exact if_pos hc
theorem ssd_f {ρ : Nat → Int} {n : Nat} {cl : Nat → Cl} {c f how : Nat} (h : how < 2) (hc : ¬ m_can ρ n cl c f) : ssd ρ n cl c f how = ρ := by unfold ssd; rw [if_pos h]; exact if_neg hc
theorem ssd_2 {ρ : Nat → Int} {n : Nat} {cl : Nat → Cl} {c f : Nat} : ssd ρ n cl c f 2 = am_u1 ρ (15 + f) (1 - ρ (15 + f)) := by unfold ssd; rw [if_neg (by decide), if_pos rfl]
theorem ssd_3 {ρ : Nat → Int} {n : Nat} {cl : Nat → Cl} {c f : Nat} : ssd ρ n cl c f 3 = am_u1 ρ 8 (((ρ 8).toNat ^^^ 2 ^ (ρ (42 + f)).toNat : Nat) : Int) := by unfold ssd; rw [if_neg (by decide), if_neg (by decide)]
theorem srg_t {ρ : Nat → Int} {n : Nat} {cl : Nat → Cl} {c f how : Nat} (h : how < 2) (hc : m_can ρ n cl c f) : srg ρ n cl c f how = 1 := by unfold srg; exact if_pos ⟨h, hc⟩
theorem srg_f {ρ : Nat → Int} {n : Nat} {cl : Nat → Cl} {c f how : Nat} (h : ¬ (how < 2 ∧ m_can ρ n cl c f)) : srg ρ n cl c f how = 0 := by unfold srg; exact if_neg h
theorem srg_b {ρ : Nat → Int} {n : Nat} {cl : Nat → Cl} {c f how : Nat} : 0 ≤ srg ρ n cl c f how ∧ srg ρ n cl c f how ≤ 1 := by
  by_cases h : how < 2 ∧ m_can ρ n cl c f
  · rw [srg_t h.1 h.2]; omega
  · rw [srg_f h]; omega
theorem RW_ringr {ρ : Nat → Int} {n : Nat} {cl : Nat → Cl} {c f : Nat} (h : RW ρ) (hf : f < 5) : RW (m_ringr ρ n cl c f) := by
  unfold m_ringr
  by_cases e : ρ (15 + f) = 1
  · rw [if_pos e]; exact RWs_we h hf (m_within_b (by decide))
  · rw [if_neg e]; exact RWs_kn h hf (m_within_b (by decide))
theorem RW_ssd {ρ : Nat → Int} {n : Nat} {cl : Nat → Cl} {c f how : Nat} (h : RW ρ) (hf : f < 5) (hh : how < 4) : RW (ssd ρ n cl c f how) := by
  by_cases h2 : how < 2
  · by_cases hc : m_can ρ n cl c f
    · rw [ssd_t h2 hc]; exact RW_ringr h hf
    · rw [ssd_f h2 hc]; exact h
  · by_cases e : how = 2
    · subst e
      rw [ssd_2]
      have := RW_en h f hf
      exact RWs_en h hf (by omega)
    · have e : how = 3 := by omega
      subst e
      rw [ssd_3]
      have h8 := RW_sm h
      have hb := RW_by h f hf
      have hx : (ρ 8).toNat ^^^ 2 ^ (ρ (42 + f)).toNat < 2 ^ 6 := Nat.xor_lt_two_pow (by omega) (Nat.pow_lt_pow_right (by decide) (by omega))
      exact RWs_sm h ⟨Int.natCast_nonneg _, by omega⟩
theorem ringr_out {ρ : Nat → Int} {n : Nat} {cl : Nat → Cl} {c f j : Nat} (hf : f < 5) (hj : ¬ (20 ≤ j ∧ j < 30)) : m_ringr ρ n cl c f j = ρ j := by
  unfold m_ringr
  by_cases e : ρ (15 + f) = 1
  · rw [if_pos e]; unfold am_u1; rw [if_neg (by omega)]
  · rw [if_neg e]; unfold am_u1; rw [if_neg (by omega)]
theorem ssd_out {ρ : Nat → Int} {n : Nat} {cl : Nat → Cl} {c f how j : Nat} (hf : f < 5) (hh : how < 4) (hj : ¬ (j = 8 ∨ (15 ≤ j ∧ j < 30))) : ssd ρ n cl c f how j = ρ j := by
  by_cases h2 : how < 2
  · by_cases hc : m_can ρ n cl c f
    · rw [ssd_t h2 hc]; exact ringr_out hf (by omega)
    · rw [ssd_f h2 hc]
  · by_cases e : how = 2
    · subst e
      rw [ssd_2]; unfold am_u1; rw [if_neg (by omega)]
    · have e : how = 3 := by omega
      subst e
      rw [ssd_3]; unfold am_u1; rw [if_neg (by omega)]
theorem LawNow_ssd {ρ : Nat → Int} {n : Nat} {cl : Nat → Cl} {c f how : Nat} (hf : f < 5) (hh : how < 4) (h : LawNow ρ n cl) : LawNow (ssd ρ n cl c f how) n cl := LawNow_congr (ssd_out hf hh (by omega)) (fun j hj => ssd_out hf hh (by omega)) h
/-- a season: the row, the state of the drawing, how often it rang -/
abbrev Sz : Type := (Nat → Int) × Int × Int
def scl (z : Sz) : Nat := (dnx z.2.1 % z.1 0).toNat
def sfo (z : Sz) : Nat := (dnx (dnx z.2.1) % z.1 1).toNat
def sho (z : Sz) : Nat := (dnx (dnx (dnx z.2.1)) % 4).toNat
noncomputable def sst (n : Nat) (cl : Nat → Cl) (z : Sz) : Sz := if z.1 5 < 999 then (m_pass (ssd z.1 n cl (scl z) (sfo z) (sho z)) n cl, dnx (dnx (dnx z.2.1)), z.2.2 + srg z.1 n cl (scl z) (sfo z) (sho z)) else z
noncomputable def ssn (ρ : Nat → Int) (n : Nat) (cl : Nat → Cl) (seed : Int) (k : Nat) : Sz := am_it (fun _ z => sst n cl z) k 0 (ρ, seed, 0)
theorem sho_lt {z : Sz} : sho z < 4 := by unfold sho; omega
theorem scl_lt {z : Sz} (h : 0 < z.1 0) : (scl z : Int) < z.1 0 := by
  unfold scl
  have := Int.emod_lt_of_pos (dnx z.2.1) h
  have := Int.emod_nonneg (dnx z.2.1) (show z.1 0 ≠ 0 by omega)
  omega
theorem sfo_lt {z : Sz} (h : 0 < z.1 1) : (sfo z : Int) < z.1 1 := by
  unfold sfo
  have := Int.emod_lt_of_pos (dnx (dnx z.2.1)) h
  have := Int.emod_nonneg (dnx (dnx z.2.1)) (show z.1 1 ≠ 0 by omega)
  omega
